-- rows moved inside a row
def sh1 {α : Type} (f : Nat → α) (i k : Nat) : Nat → α := fun j => if i ≤ j ∧ j < k then f (j + 1) else f j
def sh2 {α : Type} (f : Nat → α) (i k : Nat) : Nat → α := fun j => if k < j ∧ j ≤ i then f (j - 1) else f j
/-- place i comes to place p -/
def mvT {α : Type} (f : Nat → α) (i p : Nat) : Nat → α := fun j => if j = p then f i else if i ≤ j ∧ j < p then f (j + 1) else if p < j ∧ j ≤ i then f (j - 1) else f j
theorem sh1_0 {α : Type} (f : Nat → α) (i k : Nat) (h : k ≤ i) : sh1 f i k = f := by
  funext j; unfold sh1; rw [if_neg (by omega)]
theorem sh2_0 {α : Type} (f : Nat → α) (i k : Nat) (h : i ≤ k) : sh2 f i k = f := by
  funext j; unfold sh2; rw [if_neg (by omega)]
theorem sh1_at {α : Type} (f : Nat → α) (i k : Nat) : sh1 f i k (k + 1) = f (k + 1) := by unfold sh1; rw [if_neg (by omega)]
theorem sh2_at {α : Type} (f : Nat → α) (i k : Nat) (h : 0 < k) : sh2 f i k (k - 1) = f (k - 1) := by unfold sh2; rw [if_neg (by omega)]
theorem sh1_s {α : Type} (f : Nat → α) (i k : Nat) (h : i ≤ k) : va_up (sh1 f i k) k (sh1 f i k (k + 1)) = sh1 f i (k + 1) := by
  funext j; rw [sh1_at]; unfold va_up sh1
  by_cases hj : j = k
  · subst hj; rw [if_pos rfl, if_pos (by omega)]
  · rw [if_neg hj]
    by_cases h2 : i ≤ j ∧ j < k
    · rw [if_pos h2, if_pos (by omega)]
    · rw [if_neg h2, if_neg (by omega)]
theorem sh2_s {α : Type} (f : Nat → α) (i k : Nat) (h : k ≤ i) (h0 : 0 < k) : va_up (sh2 f i k) k (sh2 f i k (k - 1)) = sh2 f i (k - 1) := by
  funext j; rw [sh2_at f i k h0]; unfold va_up sh2
  by_cases hj : j = k
  · subst hj; rw [if_pos rfl, if_pos (by omega)]
  · rw [if_neg hj]
    by_cases h2 : k < j ∧ j ≤ i
    · rw [if_pos h2, if_pos (by omega)]
    · rw [if_neg h2, if_neg (by omega)]
theorem mvT_1 {α : Type} (f : Nat → α) (i p : Nat) (h : i ≤ p) : va_up (sh1 f i p) p (f i) = mvT f i p := by
  funext j; unfold va_up sh1 mvT
  by_cases hj : j = p
  · rw [if_pos hj, if_pos hj]
  · rw [if_neg hj, if_neg hj]
    by_cases h2 : i ≤ j ∧ j < p
    · rw [if_pos h2, if_pos h2]
    · rw [if_neg h2, if_neg h2, if_neg (by omega)]
theorem mvT_2 {α : Type} (f : Nat → α) (i p : Nat) (h : p ≤ i) : va_up (sh2 f i p) p (f i) = mvT f i p := by
  funext j; unfold va_up sh2 mvT
  by_cases hj : j = p
  · rw [if_pos hj, if_pos hj]
  · rw [if_neg hj, if_neg hj, if_neg (show ¬ (i ≤ j ∧ j < p) by omega)]
def cpN (f g : Nat → Nat) (n : Nat) : Nat → Nat := fun k => if k < n then f k else g k
theorem cpN_cpy (f g : Nat → Nat) (n : Nat) : va_cpy (aN f) (aN g) 0 0 n = aN (cpN f g n) := by
  funext k; unfold va_cpy aN cpN
  by_cases h : k < n
  · rw [if_pos ⟨Nat.zero_le _, by omega⟩, if_pos h]; simp
  · rw [if_neg (by omega), if_neg h]
theorem aN_c (v : Nat) : aN (fun _ => v) = fun _ => nI v := rfl
-- lines as texts
def ll (v : Nat) : Nat := if v / 100 = 1 then 4 else 5
def lb (v k : Nat) : Nat :=
  if v / 100 = 0 then [97 + v / 10 % 10, 61, 38, 97 + v % 10, 59].getD k 0
  else if v / 100 = 1 then [97 + v / 10 % 10, 61, 97 + v % 10, 59].getD k 0
  else if v / 100 = 2 then [97 + v / 10 % 10, 61, 42, 97 + v % 10, 59].getD k 0
  else [42, 97 + v / 10 % 10, 61, 97 + v % 10, 59].getD k 0
def wlen (ln : Nat → Nat) : Nat → Nat
  | 0 => 0
  | i + 1 => wlen ln i + ll (ln i)
def tb (ln : Nat → Nat) : Nat → Nat → Option Nat
  | 0, _ => none
  | i + 1, k => if k < wlen ln i then tb ln i k else if k < wlen ln (i + 1) then some (lb (ln i) (k - wlen ln i)) else none
theorem ll_le (v : Nat) : 4 ≤ ll v ∧ ll v ≤ 5 := by unfold ll; by_cases h : v / 100 = 1 <;> simp [h]
theorem wlen_le (ln : Nat → Nat) : ∀ i, wlen ln i ≤ 5 * i
  | 0 => Nat.le_refl _
  | i + 1 => by have h := wlen_le ln i; have h2 := ll_le (ln i); simp only [wlen]; omega
theorem wlen_mono (ln : Nat → Nat) (i : Nat) : ∀ j, wlen ln i ≤ wlen ln (i + j)
  | 0 => Nat.le_refl _
  | j + 1 => by have h := wlen_mono ln i j; show _ ≤ wlen ln (i + j) + _; omega
theorem tb_found (ln : Nat → Nat) (i k : Nat) (h1 : wlen ln i ≤ k) (h2 : k < wlen ln (i + 1)) : ∀ j, tb ln (i + 1 + j) k = some (lb (ln i) (k - wlen ln i))
  | 0 => by simp only [Nat.add_zero, tb]; rw [if_neg (by omega), if_pos h2]
  | j + 1 => by
    have h := tb_found ln i k h1 h2 j
    have h3 := wlen_mono ln (i + 1) j
    show tb ln (i + 1 + j + 1) k = _
    simp only [tb]
    rw [if_pos (by omega), h]
theorem tb_none (ln : Nat → Nat) (k : Nat) : ∀ i, wlen ln i ≤ k → tb ln i k = none
  | 0, _ => rfl
  | i + 1, h => by
    have h2 : wlen ln i ≤ wlen ln (i + 1) := wlen_mono ln i 1
    simp only [tb]
    rw [if_neg (by omega), if_neg (by omega)]
/-- the lines: n of them, in the class's numbers -/
def lok (n : Nat) (ln Cd : Nat → Nat) : Prop := n ≤ 14 ∧ ∀ i, i < n → Cd i = ce (ln i) ∧ ln i < 400
theorem lok.c {n : Nat} {ln Cd : Nat → Nat} (h : lok n ln Cd) {i : Nat} (hi : i < n) : Cd i = ce (ln i) := (h.2 i hi).1
theorem lok.v {n : Nat} {ln Cd : Nat → Nat} (h : lok n ln Cd) {i : Nat} (hi : i < n) : ln i < 400 := (h.2 i hi).2
theorem lok.n {n : Nat} {ln Cd : Nat → Nat} (h : lok n ln Cd) : n ≤ 14 := h.1
