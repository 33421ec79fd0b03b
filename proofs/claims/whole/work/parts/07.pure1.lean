/-- a line as the reference has it (100 sort + 10 x + y), in the class's own number -/
def ce (v : Nat) : Nat := 256 * (v / 100) + 16 * (v / 10 % 10) + v % 10
theorem ce_sort {d v : Nat} (h : d = ce v) (hv : v < 400) : nI d >>> (nI 8 &&& 31) = nI (v / 100) := by
  subst h; revert v; decide +kernel
theorem ce_left {d v : Nat} (h : d = ce v) (hv : v < 400) : (nI d >>> (nI 4 &&& 31)) &&& nI 15 = nI (v / 10 % 10) := by
  subst h; revert v; decide +kernel
theorem ce_right {d v : Nat} (h : d = ce v) (hv : v < 400) : nI d &&& nI 15 = nI (v % 10) := by
  subst h; revert v; decide +kernel
theorem ce_mk : ∀ s, s < 4 → ∀ x, x < 10 → ∀ y, y < 10 → (nI s <<< (nI 8 &&& 31) ||| nI x <<< (nI 4 &&& 31)) ||| nI y = nI (ce (100 * s + 10 * x + y)) := by decide +kernel
