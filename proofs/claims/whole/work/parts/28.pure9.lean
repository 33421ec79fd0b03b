-- THE REFERENCE
def mok (n : Nat) (ln Nw : Nat → Nat) : Prop := Nw 0 = n ∧ n ≤ 14 ∧ ∀ i, i < n → Nw (1 + i) = ln i ∧ ln i < 400
theorem mok.z {n : Nat} {ln Nw : Nat → Nat} (h : mok n ln Nw) : Nw 0 = n := h.1
theorem mok.n {n : Nat} {ln Nw : Nat → Nat} (h : mok n ln Nw) : n ≤ 14 := h.2.1
theorem mok.c {n : Nat} {ln Nw : Nat → Nat} (h : mok n ln Nw) {i : Nat} (hi : i < n) : Nw (1 + i) = ln i := (h.2.2 i hi).1
theorem mok.v {n : Nat} {ln Nw : Nat → Nat} (h : mok n ln Nw) {i : Nat} (hi : i < n) : ln i < 400 := (h.2.2 i hi).2
theorem mok.l {n : Nat} {ln Nw : Nat → Nat} (h : mok n ln Nw) : ∀ k, k < n → ln k < 400 := fun _ hk => h.v hk
theorem sh_am : ∀ k, k < 32 → ((nI k &&& 31).toBitVec.smod 32).toNat = k := by decide
theorem shr_k {a k : Nat} (ha : a < 2 ^ 31) (hk : k < 32) : nI a >>> (nI k &&& 31) = nI (a / 2 ^ k) := pk_shrN ha _ k (sh_am k hk)
theorem and_1 {a : Nat} (ha : a < 2 ^ 31) : nI a &&& nI 1 = nI (a % 2) := pk_andN (by omega) 1 (by decide)
theorem tb_iff (a k : Nat) : a / 2 ^ k % 2 = 1 ↔ a.testBit k = true := by
  rw [Nat.testBit_eq_decide_div_mod_eq]; simp
theorem div_lt {a k : Nat} (ha : a < 1024) : a / 2 ^ k < 2 ^ 31 := Nat.lt_of_le_of_lt (Nat.div_le_self _ _) (by omega)
-- states in one row
def shP (Pa : Nat → Nat) (i : Nat) : Nat → Nat := fun j => if j < i then Pa (j + 15) else Pa j
theorem shP_0 (Pa : Nat → Nat) : shP Pa 0 = Pa := by funext j; simp [shP]
theorem shP_at (Pa : Nat → Nat) (i : Nat) : shP Pa i (i + 15) = Pa (i + 15) := by unfold shP; rw [if_neg (by omega)]
theorem shP_s (Pa : Nat → Nat) (i : Nat) : va_up (shP Pa i) i (shP Pa i (i + 15)) = shP Pa (i + 1) := by
  rw [shP_at]; funext j; unfold va_up shP
  by_cases h : j = i
  · subst h; simp
  · rw [if_neg h]
    by_cases h2 : j < i
    · rw [if_pos h2, if_pos (by omega)]
    · rw [if_neg h2, if_neg (by omega)]
def ptP (B : Nat → Nat) (o : Nat) (Nw : Nat → Nat) (i : Nat) : Nat → Nat := fun j => if o ≤ j ∧ j < o + i then Nw (j - o) else B j
theorem ptP_0 (B : Nat → Nat) (o : Nat) (Nw : Nat → Nat) : ptP B o Nw 0 = B := by
  funext j; unfold ptP; rw [if_neg (by omega)]
theorem ptP_s (B : Nat → Nat) (o : Nat) (Nw : Nat → Nat) (i : Nat) : va_up (ptP B o Nw i) (o + i) (Nw i) = ptP B o Nw (i + 1) := by
  funext j; unfold va_up ptP
  by_cases h : j = o + i
  · subst h; rw [if_pos rfl, if_pos (by omega), show o + i - o = i by omega]
  · rw [if_neg h]
    by_cases h2 : o ≤ j ∧ j < o + i
    · rw [if_pos h2, if_pos (by omega)]
    · rw [if_neg h2, if_neg (by omega)]
def lvP (ns : Nat) (Pa Nw : Nat → Nat) : Nat → Nat := if ns = 5 then ptP (shP Pa 60) 60 Nw 15 else ptP Pa (15 * ns) Nw 15
-- growing, as the reference does it
def gts (q : sQ) (x b : Nat) : sQ := (va_up q.1 x (q.1 x ||| b), q.2 || grw (q.1 x) b)
def mz1 (v : Nat) (q : sQ) (z : Nat) : sQ :=
  if v / 100 = 2 then (if (q.1 (v % 10)).testBit z = true then gts q (v / 10 % 10) (q.1 z) else q)
  else if v / 100 = 3 then (if (q.1 (v / 10 % 10)).testBit z = true then gts q z (q.1 (v % 10)) else q) else q
def mgz (v : Nat) (q : sQ) : Nat → sQ
  | 0 => q
  | z + 1 => mz1 v (mgz v q z) z
def mgb (v : Nat) (q : sQ) : sQ :=
  if v / 100 = 0 then gts (mgz v q 10) (v / 10 % 10) (2 ^ (v % 10))
  else if v / 100 = 1 then gts (mgz v q 10) (v / 10 % 10) ((mgz v q 10).1 (v % 10)) else mgz v q 10
theorem sok_gts {q : sQ} (h : sok q.1) {x b : Nat} (hx : x < 10) (hb : b < 1024) : sok (gts q x b).1 := sok_up h (or_lt10 (h x hx) hb)
theorem sok_mgz {v : Nat} {q : sQ} (h : sok q.1) : ∀ z, z ≤ 10 → sok (mgz v q z).1
  | 0, _ => h
  | z + 1, hz => by
    have ih := sok_mgz (v := v) h z (by omega)
    simp only [mgz, mz1]
    split
    · split
      · exact sok_gts ih (by omega) (ih z (by omega))
      · exact ih
    · split
      · split
        · exact sok_gts ih (by omega) (ih _ (by omega))
        · exact ih
      · exact ih
/-- one more growing behind others -/
theorem chain {S : Nat → Nat} {g : Bool} {q : sQ} {P : Prop} {v : Nat}
    (h : sok q.1 ∧ sle S q.1 ∧ (∀ T, con v T → sle S T → sle q.1 T) ∧ (q.2 = false → g = false ∧ q.1 = S ∧ P) ∧ (q.2 = true → g = true ∨ ∃ k, k < 10 ∧ q.1 k ≠ S k))
    {x b : Nat} (hx : x < 10) (hb : b < 1024) (hT : ∀ T, con v T → sle S T → sle q.1 T → sub b (T x)) :
    sok (gts q x b).1 ∧ sle S (gts q x b).1 ∧ (∀ T, con v T → sle S T → sle (gts q x b).1 T) ∧ ((gts q x b).2 = false → g = false ∧ (gts q x b).1 = S ∧ P ∧ q.1 = S ∧ sub b (S x)) ∧ ((gts q x b).2 = true → g = true ∨ ∃ k, k < 10 ∧ (gts q x b).1 k ≠ S k) := by
  obtain ⟨h1, h2, h3, h4, h5⟩ := h
  obtain ⟨a1, a2, a3, a4, a5⟩ := one_step h1 hx hb
  refine ⟨a1, sle_t h2 a2, fun T c1 c2 => a3 T (hT T c1 c2 (h3 T c1 c2)) (h3 T c1 c2), fun hf => ?_, fun hf => ?_⟩
  · have hf : (q.2 || grw (q.1 x) b) = false := hf
    rw [Bool.or_eq_false_iff] at hf
    obtain ⟨b1, b2, b3⟩ := h4 hf.1
    obtain ⟨d1, d2⟩ := a4 hf.2
    exact ⟨b1, d1.trans b2, b3, b2, by rw [← b2]; exact d2⟩
  · have hf : (q.2 || grw (q.1 x) b) = true := hf
    have sq : ∀ k, k < 10 → (gts q x b).1 k = S k → q.1 k = S k ∧ (gts q x b).1 k = q.1 k := by
      intro k hk e
      have e1 : sub (q.1 k) (S k) := by have := a2 k hk; rw [show va_up q.1 x (q.1 x ||| b) k = (gts q x b).1 k from rfl, e] at this; exact this
      have e2 := sub_a e1 (h2 k hk)
      exact ⟨e2, e.trans e2.symm⟩
    cases hq : q.2 with
    | true =>
      rcases h5 hq with h6 | ⟨k, hk, hne⟩
      · exact Or.inl h6
      · exact Or.inr ⟨k, hk, fun e => hne (sq k hk e).1⟩
    | false =>
      rw [hq, Bool.false_or] at hf
      exact Or.inr ⟨x, hx, fun e => a5 hf (sq x hx e).2⟩
theorem mgz2 {v : Nat} (h0 : v / 100 = 2) (S : Nat → Nat) (g : Bool) (hS : sok S) : ∀ z, z ≤ 10 →
    sok (mgz v (S, g) z).1 ∧ sle S (mgz v (S, g) z).1 ∧ (∀ T, con v T → sle S T → sle (mgz v (S, g) z).1 T) ∧ ((mgz v (S, g) z).2 = false → g = false ∧ (mgz v (S, g) z).1 = S ∧ ∀ z2, z2 < z → (S (v % 10)).testBit z2 = true → sub (S z2) (S (v / 10 % 10))) ∧ ((mgz v (S, g) z).2 = true → g = true ∨ ∃ k, k < 10 ∧ (mgz v (S, g) z).1 k ≠ S k)
  | 0, _ => ⟨hS, sle_r _, fun _ _ h => h, fun h => ⟨h, rfl, fun _ h => absurd h (Nat.not_lt_zero _)⟩, fun h => Or.inl h⟩
  | z + 1, hz => by
    have ih := mgz2 h0 S g hS z (by omega)
    have e : mgz v (S, g) (z + 1) = if ((mgz v (S, g) z).1 (v % 10)).testBit z = true then gts (mgz v (S, g) z) (v / 10 % 10) ((mgz v (S, g) z).1 z) else mgz v (S, g) z := by
      simp only [mgz, mz1, h0, if_true]
    rw [e]
    by_cases hb : ((mgz v (S, g) z).1 (v % 10)).testBit z = true
    · rw [if_pos hb]
      obtain ⟨c1, c2, c3, c4, c5⟩ := chain ih (x := v / 10 % 10) (b := (mgz v (S, g) z).1 z) (by omega) (ih.1 z (by omega)) (fun T t1 t2 t3 => sub_t (t3 z (by omega)) (t1.2.2.1 h0 z (by omega) (t3 (v % 10) (by omega) z hb)))
      refine ⟨c1, c2, c3, fun hf => ?_, c5⟩
      obtain ⟨d1, d2, d3, d4, d5⟩ := c4 hf
      refine ⟨d1, d2, fun z2 hz2 hb2 => ?_⟩
      by_cases ez : z2 = z
      · subst ez; rw [d4] at d5; exact d5
      · exact d3 z2 (by omega) hb2
    · rw [if_neg hb]
      obtain ⟨c1, c2, c3, c4, c5⟩ := ih
      refine ⟨c1, c2, c3, fun hf => ?_, c5⟩
      obtain ⟨d1, d2, d3⟩ := c4 hf
      refine ⟨d1, d2, fun z2 hz2 hb2 => ?_⟩
      by_cases ez : z2 = z
      · subst ez; rw [d2] at hb; exact absurd hb2 hb
      · exact d3 z2 (by omega) hb2
theorem mgz3 {v : Nat} (h0 : v / 100 = 3) (S : Nat → Nat) (g : Bool) (hS : sok S) : ∀ z, z ≤ 10 →
    sok (mgz v (S, g) z).1 ∧ sle S (mgz v (S, g) z).1 ∧ (∀ T, con v T → sle S T → sle (mgz v (S, g) z).1 T) ∧ ((mgz v (S, g) z).2 = false → g = false ∧ (mgz v (S, g) z).1 = S ∧ ∀ z2, z2 < z → (S (v / 10 % 10)).testBit z2 = true → sub (S (v % 10)) (S z2)) ∧ ((mgz v (S, g) z).2 = true → g = true ∨ ∃ k, k < 10 ∧ (mgz v (S, g) z).1 k ≠ S k)
  | 0, _ => ⟨hS, sle_r _, fun _ _ h => h, fun h => ⟨h, rfl, fun _ h => absurd h (Nat.not_lt_zero _)⟩, fun h => Or.inl h⟩
  | z + 1, hz => by
    have ih := mgz3 h0 S g hS z (by omega)
    have e : mgz v (S, g) (z + 1) = if ((mgz v (S, g) z).1 (v / 10 % 10)).testBit z = true then gts (mgz v (S, g) z) z ((mgz v (S, g) z).1 (v % 10)) else mgz v (S, g) z := by
      simp only [mgz, mz1, h0, show ¬ (3 : Nat) = 2 by decide, if_false, if_true]
    rw [e]
    by_cases hb : ((mgz v (S, g) z).1 (v / 10 % 10)).testBit z = true
    · rw [if_pos hb]
      obtain ⟨c1, c2, c3, c4, c5⟩ := chain ih (x := z) (b := (mgz v (S, g) z).1 (v % 10)) (by omega) (ih.1 _ (by omega)) (fun T t1 t2 t3 => sub_t (t3 (v % 10) (by omega)) (t1.2.2.2 h0 z (by omega) (t3 (v / 10 % 10) (by omega) z hb)))
      refine ⟨c1, c2, c3, fun hf => ?_, c5⟩
      obtain ⟨d1, d2, d3, d4, d5⟩ := c4 hf
      refine ⟨d1, d2, fun z2 hz2 hb2 => ?_⟩
      by_cases ez : z2 = z
      · subst ez; rw [d4] at d5; exact d5
      · exact d3 z2 (by omega) hb2
    · rw [if_neg hb]
      obtain ⟨c1, c2, c3, c4, c5⟩ := ih
      refine ⟨c1, c2, c3, fun hf => ?_, c5⟩
      obtain ⟨d1, d2, d3⟩ := c4 hf
      refine ⟨d1, d2, fun z2 hz2 hb2 => ?_⟩
      by_cases ez : z2 = z
      · subst ez; rw [d2] at hb; exact absurd hb2 hb
      · exact d3 z2 (by omega) hb2
theorem mgz_id {v : Nat} (h2 : ¬ v / 100 = 2) (h3 : ¬ v / 100 = 3) (q : sQ) : ∀ z, mgz v q z = q
  | 0 => rfl
  | z + 1 => by simp only [mgz, mz1, mgz_id h2 h3 q z, if_neg h2, if_neg h3]
theorem gst_m (v : Nat) (hv : v < 400) : gst v (mgb v) := by
  intro q hq
  obtain ⟨S, g⟩ := q
  have hq : sok S := hq
  rcases (show v / 100 = 0 ∨ v / 100 = 1 ∨ v / 100 = 2 ∨ v / 100 = 3 by omega) with h0 | h0 | h0 | h0
  · have e : mgb v (S, g) = gts (S, g) (v / 10 % 10) (2 ^ (v % 10)) := by
      unfold mgb; rw [if_pos h0, mgz_id (by omega) (by omega)]
    rw [e]
    obtain ⟨c1, c2, c3, c4, c5⟩ := chain (S := S) (g := g) (q := (S, g)) (P := True) (v := v) ⟨hq, sle_r _, fun _ _ h => h, fun h => ⟨h, rfl, trivial⟩, fun h => Or.inl h⟩ (x := v / 10 % 10) (b := 2 ^ (v % 10)) (by omega) (pow_lt10 (by omega)) (fun T t1 _ _ => t1.1 h0)
    refine ⟨c1, c2, c3, fun hf => ?_, c5⟩
    obtain ⟨d1, d2, -, -, d5⟩ := c4 hf
    exact ⟨d1, d2, fun _ => d5, fun h => absurd h (by omega), fun h => absurd h (by omega), fun h => absurd h (by omega)⟩
  · have e : mgb v (S, g) = gts (S, g) (v / 10 % 10) (S (v % 10)) := by
      unfold mgb; rw [if_neg (by omega), if_pos h0, mgz_id (by omega) (by omega)]
    rw [e]
    obtain ⟨c1, c2, c3, c4, c5⟩ := chain (S := S) (g := g) (q := (S, g)) (P := True) (v := v) ⟨hq, sle_r _, fun _ _ h => h, fun h => ⟨h, rfl, trivial⟩, fun h => Or.inl h⟩ (x := v / 10 % 10) (b := S (v % 10)) (by omega) (hq _ (by omega)) (fun T t1 t2 _ => sub_t (t2 _ (by omega)) (t1.2.1 h0))
    refine ⟨c1, c2, c3, fun hf => ?_, c5⟩
    obtain ⟨d1, d2, -, -, d5⟩ := c4 hf
    exact ⟨d1, d2, fun h => absurd h (by omega), fun _ => d5, fun h => absurd h (by omega), fun h => absurd h (by omega)⟩
  · have e : mgb v (S, g) = mgz v (S, g) 10 := by unfold mgb; rw [if_neg (by omega), if_neg (by omega)]
    rw [e]
    obtain ⟨c1, c2, c3, c4, c5⟩ := mgz2 h0 S g hq 10 (Nat.le_refl _)
    refine ⟨c1, c2, c3, fun hf => ?_, c5⟩
    obtain ⟨d1, d2, d3⟩ := c4 hf
    exact ⟨d1, d2, fun h => absurd h (by omega), fun h => absurd h (by omega), fun _ => d3, fun h => absurd h (by omega)⟩
  · have e : mgb v (S, g) = mgz v (S, g) 10 := by unfold mgb; rw [if_neg (by omega), if_neg (by omega)]
    rw [e]
    obtain ⟨c1, c2, c3, c4, c5⟩ := mgz3 h0 S g hq 10 (Nat.le_refl _)
    refine ⟨c1, c2, c3, fun hf => ?_, c5⟩
    obtain ⟨d1, d2, d3⟩ := c4 hf
    exact ⟨d1, d2, fun h => absurd h (by omega), fun h => absurd h (by omega), fun h => absurd h (by omega), fun _ => d3⟩
