-- THE FINE RECKONING: two ways of growing come to one and the same
def sub (a b : Nat) : Prop := ∀ i, a.testBit i = true → b.testBit i = true
theorem sub_r (a : Nat) : sub a a := fun _ h => h
theorem sub_t {a b c : Nat} (h : sub a b) (h2 : sub b c) : sub a c := fun i hi => h2 i (h i hi)
theorem sub_a {a b : Nat} (h : sub a b) (h2 : sub b a) : a = b := by
  apply Nat.eq_of_testBit_eq
  intro i
  cases ha : a.testBit i with
  | true => exact (h i ha).symm
  | false =>
    cases hb : b.testBit i with
    | true => exact absurd (h2 i hb) (by rw [ha]; simp)
    | false => rfl
theorem sub_l (a b : Nat) : sub a (a ||| b) := fun i h => by rw [Nat.testBit_or, h]; rfl
theorem sub_rr (a b : Nat) : sub b (a ||| b) := fun i h => by rw [Nat.testBit_or, h]; simp
theorem sub_or {a b c : Nat} (h : sub a c) (h2 : sub b c) : sub (a ||| b) c := fun i hi => by
  rw [Nat.testBit_or] at hi
  cases ha : a.testBit i with
  | true => exact h i ha
  | false => rw [ha] at hi; exact h2 i (by simpa using hi)
theorem sub_0 (a : Nat) : sub 0 a := fun i h => by simp at h
theorem or_eq_of_sub {a b : Nat} (h : sub b a) : a ||| b = a := sub_a (sub_or (sub_r a) h) (sub_l a b)
theorem sub_of_or_eq {a b : Nat} (h : a ||| b = a) : sub b a := fun i hi => by
  have h1 := sub_rr a b i hi
  rwa [h] at h1
theorem grw_f {a b : Nat} : grw a b = false ↔ sub b a := by
  unfold grw
  rw [decide_eq_false_iff_not]
  constructor
  · intro h; exact sub_of_or_eq (Classical.not_not.mp h)
  · intro h h2; exact h2 (or_eq_of_sub h)
theorem sub_pow {y a : Nat} : sub (2 ^ y) a ↔ a.testBit y = true := by
  constructor
  · intro h; exact h y Nat.testBit_two_pow_self
  · intro h i hi
    rw [Nat.testBit_two_pow] at hi
    have e : y = i := by simpa using hi
    rw [← e]; exact h
def sle (S T : Nat → Nat) : Prop := ∀ k, k < 10 → sub (S k) (T k)
theorem sle_r (S : Nat → Nat) : sle S S := fun _ _ => sub_r _
theorem sle_t {S T U : Nat → Nat} (h : sle S T) (h2 : sle T U) : sle S U := fun k hk => sub_t (h k hk) (h2 k hk)
/-- a line is met by the sets T -/
def con (v : Nat) (T : Nat → Nat) : Prop :=
  (v / 100 = 0 → sub (2 ^ (v % 10)) (T (v / 10 % 10))) ∧ (v / 100 = 1 → sub (T (v % 10)) (T (v / 10 % 10))) ∧
  (v / 100 = 2 → ∀ z, z < 10 → (T (v % 10)).testBit z = true → sub (T z) (T (v / 10 % 10))) ∧
  (v / 100 = 3 → ∀ z, z < 10 → (T (v / 10 % 10)).testBit z = true → sub (T (v % 10)) (T z))
def clo (ln : Nat → Nat) (n : Nat) (lo : Option Nat) (T : Nat → Nat) : Prop := ∀ i, i < n → ¬ some i = lo → con (ln i) T
abbrev sQ : Type := (Nat → Nat) × Bool
/-- what a line's step must be -/
def gst (v : Nat) (step : sQ → sQ) : Prop := ∀ q : sQ, sok q.1 → sok (step q).1 ∧ sle q.1 (step q).1 ∧ (∀ T, con v T → sle q.1 T → sle (step q).1 T) ∧ ((step q).2 = false → q.2 = false ∧ (step q).1 = q.1 ∧ con v q.1) ∧ ((step q).2 = true → q.2 = true ∨ ∃ k, k < 10 ∧ (step q).1 k ≠ q.1 k)
def gp (st : Nat → sQ → sQ) (ln : Nat → Nat) (lo : Option Nat) (q : sQ) : Nat → sQ
  | 0 => q
  | i + 1 => if some i = lo then gp st ln lo q i else st (ln i) (gp st ln lo q i)
def gi (st : Nat → sQ → sQ) (ln : Nat → Nat) (n : Nat) (lo : Option Nat) : Nat → sQ
  | 0 => (fun _ => 0, true)
  | j + 1 => gp st ln lo ((gi st ln n lo j).1, false) n
section Fix
variable {st : Nat → sQ → sQ} {ln : Nat → Nat} {n : Nat} {lo : Option Nat}
theorem gp_sok (hs : ∀ v, v < 400 → gst v (st v)) (q : sQ) (h : sok q.1) : ∀ i, (∀ k, k < i → ln k < 400) → sok (gp st ln lo q i).1 ∧ sle q.1 (gp st ln lo q i).1
  | 0, _ => ⟨h, sle_r _⟩
  | i + 1, hl => by
    have ih := gp_sok hs q h i (fun k hk => hl k (by omega))
    simp only [gp]
    by_cases e : some i = lo
    · rw [if_pos e]; exact ih
    · rw [if_neg e]
      have g := hs (ln i) (hl i (by omega)) _ ih.1
      exact ⟨g.1, sle_t ih.2 g.2.1⟩
theorem gp_sound (hs : ∀ v, v < 400 → gst v (st v)) (q : sQ) (h : sok q.1) (T : Nat → Nat) (hT : clo ln n lo T) (hq : sle q.1 T) : ∀ i, i ≤ n → (∀ k, k < i → ln k < 400) → sle (gp st ln lo q i).1 T
  | 0, _, _ => hq
  | i + 1, hi, hl => by
    have ih := gp_sound hs q h T hT hq i (by omega) (fun k hk => hl k (by omega))
    simp only [gp]
    by_cases e : some i = lo
    · rw [if_pos e]; exact ih
    · rw [if_neg e]
      exact (hs (ln i) (hl i (by omega)) _ (gp_sok hs q h i (fun k hk => hl k (by omega))).1).2.2.1 T (hT i (by omega) e) ih
theorem gp_rest (hs : ∀ v, v < 400 → gst v (st v)) (q : sQ) (h : sok q.1) : ∀ i, (∀ k, k < i → ln k < 400) → (gp st ln lo q i).2 = false → q.2 = false ∧ (gp st ln lo q i).1 = q.1 ∧ ∀ k, k < i → ¬ some k = lo → con (ln k) q.1
  | 0, _, hf => ⟨hf, rfl, fun k hk => absurd hk (Nat.not_lt_zero _)⟩
  | i + 1, hl, hf => by
    simp only [gp] at hf ⊢
    by_cases e : some i = lo
    · rw [if_pos e] at hf ⊢
      obtain ⟨a, b, d⟩ := gp_rest hs q h i (fun k hk => hl k (by omega)) hf
      refine ⟨a, b, fun k hk hne => ?_⟩
      by_cases ek : k = i
      · subst ek; exact absurd e hne
      · exact d k (by omega) hne
    · rw [if_neg e] at hf ⊢
      have g := (hs (ln i) (hl i (by omega)) _ (gp_sok (lo := lo) hs q h i (fun k hk => hl k (by omega))).1).2.2.2.1 hf
      obtain ⟨a, b, d⟩ := gp_rest hs q h i (fun k hk => hl k (by omega)) g.1
      refine ⟨a, g.2.1.trans b, fun k hk hne => ?_⟩
      by_cases ek : k = i
      · subst ek; rw [← b]; exact g.2.2
      · exact d k (by omega) hne
theorem gp_grew (hs : ∀ v, v < 400 → gst v (st v)) (q : sQ) (h : sok q.1) : ∀ i, (∀ k, k < i → ln k < 400) → (gp st ln lo q i).2 = true → q.2 = true ∨ ∃ k, k < 10 ∧ (gp st ln lo q i).1 k ≠ q.1 k
  | 0, _, hf => Or.inl hf
  | i + 1, hl, hf => by
    have ok := gp_sok (lo := lo) hs q h i (fun k hk => hl k (by omega))
    simp only [gp] at hf ⊢
    by_cases e : some i = lo
    · rw [if_pos e] at hf ⊢
      exact gp_grew hs q h i (fun k hk => hl k (by omega)) hf
    · rw [if_neg e] at hf ⊢
      have g := hs (ln i) (hl i (by omega)) _ ok.1
      have key : ∀ k, k < 10 → (gp st ln lo q i).1 k ≠ q.1 k → (st (ln i) (gp st ln lo q i)).1 k ≠ q.1 k := by
        intro k hk hne h2
        refine hne (sub_a ?_ (ok.2 k hk))
        have := g.2.1 k hk
        rwa [h2] at this
      rcases g.2.2.2.2 hf with h1 | ⟨k, hk, hne⟩
      · rcases gp_grew hs q h i (fun k hk => hl k (by omega)) h1 with h2 | ⟨k, hk, hne⟩
        · exact Or.inl h2
        · exact Or.inr ⟨k, hk, key k hk hne⟩
      · refine Or.inr ⟨k, hk, fun h2 => ?_⟩
        have e1 : (gp st ln lo q i).1 k = q.1 k := sub_a (by have := g.2.1 k hk; rwa [h2] at this) (ok.2 k hk)
        exact hne (h2.trans e1.symm)
end Fix
-- counting
theorem bit_div (x k : Nat) : x / 2 ^ k % 2 = if x.testBit k = true then 1 else 0 := by
  rw [Nat.testBit_eq_decide_div_mod_eq]
  by_cases h : x / 2 ^ k % 2 = 1
  · simp [h]
  · have : x / 2 ^ k % 2 < 2 := Nat.mod_lt _ (by decide)
    simp [h]; omega
theorem pcu_sub {a b : Nat} (h : sub a b) : ∀ k, pcu a k ≤ pcu b k ∧ (pcu a k = pcu b k → ∀ i, i < k → a.testBit i = b.testBit i)
  | 0 => ⟨Nat.le_refl _, fun _ i hi => absurd hi (Nat.not_lt_zero _)⟩
  | k + 1 => by
    obtain ⟨h1, h2⟩ := pcu_sub h k
    simp only [pcu]
    rw [bit_div, bit_div]
    cases ha : a.testBit k with
    | true =>
      have hb := h k ha
      simp only [hb, if_true]
      refine ⟨by omega, fun e i hi => ?_⟩
      by_cases ei : i = k
      · subst ei; rw [ha, hb]
      · exact h2 (by omega) i (by omega)
    | false =>
      cases hb : b.testBit k with
      | true =>
        simp only [if_true]
        refine ⟨by simp; omega, fun e => ?_⟩
        simp at e; omega
      | false =>
        refine ⟨by simpa using h1, fun e i hi => ?_⟩
        by_cases ei : i = k
        · subst ei; rw [ha, hb]
        · exact h2 (by simpa using e) i (by omega)
theorem pcn_sub {a b : Nat} (h : sub a b) (ha : a < 1024) (hb : b < 1024) : pcn a ≤ pcn b ∧ (pcn a = pcn b → a = b) := by
  obtain ⟨h1, h2⟩ := pcu_sub h 10
  refine ⟨h1, fun e => Nat.eq_of_testBit_eq (fun i => ?_)⟩
  by_cases hi : i < 10
  · exact h2 e i hi
  · rw [tb_hi ha (by omega), tb_hi hb (by omega)]
theorem ftot_sub {S T : Nat → Nat} (h : sle S T) (hS : sok S) (hT : sok T) : ∀ i, i ≤ 10 → ftot S i ≤ ftot T i ∧ (ftot S i = ftot T i → ∀ k, k < i → S k = T k)
  | 0, _ => ⟨Nat.le_refl _, fun _ i hi => absurd hi (Nat.not_lt_zero _)⟩
  | i + 1, hi => by
    obtain ⟨h1, h2⟩ := ftot_sub h hS hT i (by omega)
    obtain ⟨g1, g2⟩ := pcn_sub (h i (by omega)) (hS i (by omega)) (hT i (by omega))
    simp only [ftot]
    refine ⟨by omega, fun e k hk => ?_⟩
    by_cases ek : k = i
    · subst ek; exact g2 (by omega)
    · exact h2 (by omega) k (by omega)
section Fix2
variable {st : Nat → sQ → sQ} {ln : Nat → Nat} {n : Nat} {lo : Option Nat}
theorem gi_sok (hs : ∀ v, v < 400 → gst v (st v)) (hl : ∀ k, k < n → ln k < 400) : ∀ j, sok (gi st ln n lo j).1
  | 0 => sok_0
  | j + 1 => (gp_sok hs ((gi st ln n lo j).1, false) (gi_sok hs hl j) n hl).1
theorem gi_sound (hs : ∀ v, v < 400 → gst v (st v)) (hl : ∀ k, k < n → ln k < 400) (T : Nat → Nat) (hT : clo ln n lo T) : ∀ j, sle (gi st ln n lo j).1 T
  | 0 => fun _ _ => sub_0 _
  | j + 1 => gp_sound hs ((gi st ln n lo j).1, false) (gi_sok hs hl j) T hT (gi_sound hs hl T hT j) n (Nat.le_refl _) hl
theorem gi_cnt (hs : ∀ v, v < 400 → gst v (st v)) (hl : ∀ k, k < n → ln k < 400) : ∀ j, (∀ i, i ≤ j → (gi st ln n lo i).2 = true) → j ≤ ftot (gi st ln n lo j).1 10
  | 0, _ => Nat.zero_le _
  | j + 1, h => by
    have ih := gi_cnt hs hl j (fun i hi => h i (by omega))
    have ok := gi_sok (lo := lo) hs hl j
    have ok2 := gi_sok (lo := lo) hs hl (j + 1)
    have gw := gp_sok (lo := lo) hs ((gi st ln n lo j).1, false) ok n hl
    obtain ⟨h1, h2⟩ := ftot_sub (T := (gi st ln n lo (j + 1)).1) gw.2 ok ok2 10 (Nat.le_refl _)
    have h1 : ftot (gi st ln n lo j).1 10 ≤ ftot (gi st ln n lo (j + 1)).1 10 := h1
    have h2 : ftot (gi st ln n lo j).1 10 = ftot (gi st ln n lo (j + 1)).1 10 → ∀ k, k < 10 → (gi st ln n lo j).1 k = (gi st ln n lo (j + 1)).1 k := h2
    rcases gp_grew hs ((gi st ln n lo j).1, false) ok n hl (h (j + 1) (Nat.le_refl _)) with h3 | ⟨k, hk, hne⟩
    · cases h3
    · have hne2 : ¬ ftot (gi st ln n lo j).1 10 = ftot (gi st ln n lo (j + 1)).1 10 := fun e => hne (h2 e k hk).symm
      omega
/-- the growing comes to rest, at a set that meets all lines and lies in each that does -/
theorem gi_end (hs : ∀ v, v < 400 → gst v (st v)) (hl : ∀ k, k < n → ln k < 400) : ∃ J, J ≤ 101 ∧ (gi st ln n lo J).2 = false ∧ (∀ j, j < J → (gi st ln n lo j).2 = true) ∧ clo ln n lo (gi st ln n lo J).1 := by
  have hex : ∃ J, J ≤ 101 ∧ (gi st ln n lo J).2 = false := by
    apply Classical.byContradiction
    intro hno
    have hall : ∀ i, i ≤ 101 → (gi st ln n lo i).2 = true := by
      intro i hi
      cases h : (gi st ln n lo i).2 with
      | true => rfl
      | false => exact absurd ⟨i, hi, h⟩ hno
    have h1 := gi_cnt hs hl 101 hall
    have h2 := ftot_le (gi st ln n lo 101).1 10
    omega
  obtain ⟨J, ⟨hJ, hf⟩, hmin⟩ := pk_least (fun J => J ≤ 101 ∧ (gi st ln n lo J).2 = false) hex
  refine ⟨J, hJ, hf, fun j hj => ?_, ?_⟩
  · cases h : (gi st ln n lo j).2 with
    | true => rfl
    | false => exact absurd ⟨by omega, h⟩ (hmin j hj)
  · cases J with
    | zero => cases hf
    | succ j =>
      have g := gp_rest hs ((gi st ln n lo j).1, false) (gi_sok hs hl j) n hl hf
      intro i hi hne
      have := g.2.2 i hi hne
      show con (ln i) (gp st ln lo ((gi st ln n lo j).1, false) n).1
      rw [g.2.1]
      exact this
end Fix2
theorem gi_same {s1 s2 : Nat → sQ → sQ} {ln : Nat → Nat} {n : Nat} {lo : Option Nat} (h1 : ∀ v, v < 400 → gst v (s1 v)) (h2 : ∀ v, v < 400 → gst v (s2 v)) (hl : ∀ k, k < n → ln k < 400) {J1 J2 : Nat} (c1 : clo ln n lo (gi s1 ln n lo J1).1) (c2 : clo ln n lo (gi s2 ln n lo J2).1) : ∀ k, k < 10 → (gi s1 ln n lo J1).1 k = (gi s2 ln n lo J2).1 k := fun k hk =>
  sub_a (gi_sound h1 hl _ c2 J1 k hk) (gi_sound h2 hl _ c1 J2 k hk)
-- the class's steps
theorem uni_bit (S : Nat → Nat) (nm : Nat) (b : Nat) : ∀ i, (uni S nm i).testBit b = true ↔ ∃ z, z < i ∧ nm.testBit z = true ∧ (S z).testBit b = true
  | 0 => by simp [uni]
  | i + 1 => by
    have ih := uni_bit S nm b i
    simp only [uni]
    by_cases h : nm.testBit i = true
    · rw [if_pos h, Nat.testBit_or, Bool.or_eq_true, ih]
      constructor
      · rintro (⟨z, hz, h1, h2⟩ | h1)
        · exact ⟨z, by omega, h1, h2⟩
        · exact ⟨i, by omega, h, h1⟩
      · rintro ⟨z, hz, h1, h2⟩
        by_cases e : z = i
        · subst e; exact Or.inr h2
        · exact Or.inl ⟨z, by omega, h1, h2⟩
    · rw [if_neg h, ih]
      constructor
      · rintro ⟨z, hz, h1, h2⟩; exact ⟨z, by omega, h1, h2⟩
      · rintro ⟨z, hz, h1, h2⟩
        by_cases e : z = i
        · subst e; exact absurd h1 h
        · exact ⟨z, by omega, h1, h2⟩
theorem gaF_f (S : Nat → Nat) (nm more : Nat) : ∀ i, gaF S nm more i = false ↔ ∀ z, z < i → nm.testBit z = true → sub more (S z)
  | 0 => by simp [gaF]
  | i + 1 => by
    have ih := gaF_f S nm more i
    simp only [gaF, Bool.or_eq_false_iff, ih]
    constructor
    · rintro ⟨h1, h2⟩ z hz hb
      by_cases e : z = i
      · subst e
        rw [hb, Bool.true_and] at h2
        exact grw_f.mp h2
      · exact h1 z (by omega) hb
    · intro h
      refine ⟨fun z hz hb => h z (by omega) hb, ?_⟩
      cases hb : nm.testBit i with
      | false => rfl
      | true => rw [Bool.true_and]; exact grw_f.mpr (h i (by omega) hb)
theorem up_same {α : Type} {f : Nat → α} {k : Nat} {v : α} (h : v = f k) : va_up f k v = f := by
  funext j
  by_cases e : j = k
  · subst e; rw [up_s, h]
  · rw [up_n e]
/-- growing one set by b -/
theorem one_step {S : Nat → Nat} (hS : sok S) {x b : Nat} (hx : x < 10) (hb : b < 1024) : sok (va_up S x (S x ||| b)) ∧ sle S (va_up S x (S x ||| b)) ∧ (∀ T, sub b (T x) → sle S T → sle (va_up S x (S x ||| b)) T) ∧ (grw (S x) b = false → va_up S x (S x ||| b) = S ∧ sub b (S x)) ∧ (grw (S x) b = true → va_up S x (S x ||| b) x ≠ S x) := by
  refine ⟨sok_up hS (or_lt10 (hS x hx) hb), ?_, ?_, ?_, ?_⟩
  · intro k hk
    by_cases e : k = x
    · subst e; rw [up_s]; exact sub_l _ _
    · rw [up_n e]; exact sub_r _
  · intro T hT hST k hk
    by_cases e : k = x
    · subst e; rw [up_s]; exact sub_or (hST k hk) hT
    · rw [up_n e]; exact hST k hk
  · intro h
    have h1 := grw_f.mp h
    exact ⟨up_same (or_eq_of_sub h1), h1⟩
  · intro h
    rw [up_s]
    unfold grw at h
    exact of_decide_eq_true h
def cstp (v : Nat) (q : sQ) : sQ := (fS v q.1, q.2 || fF v q.1)
theorem gst_c (v : Nat) (hv : v < 400) : gst v (cstp v) := by
  intro q hq
  obtain ⟨S, g⟩ := q
  have hx : v / 10 % 10 < 10 := by omega
  have hy : v % 10 < 10 := by omega
  generalize ex : v / 10 % 10 = x at hx
  generalize ey : v % 10 = y at hy
  have hq : sok S := hq
  have flag : ∀ (f : Bool), (g || f) = false → g = false ∧ f = false := fun f h => by simpa using h
  rcases (show v / 100 = 0 ∨ v / 100 = 1 ∨ v / 100 = 2 ∨ v / 100 = 3 by omega) with h0 | h0 | h0 | h0
  · obtain ⟨a1, a2, a3, a4, a5⟩ := one_step hq hx (pow_lt10 hy)
    simp only [cstp, fS, fF, h0, ex, ey, if_true, con]
    refine ⟨a1, a2, fun T hT hST => a3 T (hT.1 trivial) hST, fun h => ?_, fun h => ?_⟩
    · obtain ⟨f1, f2⟩ := flag _ h
      exact ⟨f1, (a4 f2).1, fun _ => (a4 f2).2, fun h => by omega, fun h => by omega, fun h => by omega⟩
    · cases hg : g with
      | true => exact Or.inl rfl
      | false => rw [hg, Bool.false_or] at h; exact Or.inr ⟨x, hx, a5 h⟩
  · obtain ⟨a1, a2, a3, a4, a5⟩ := one_step hq hx (hq y hy)
    simp only [cstp, fS, fF, h0, ex, ey, con]
    simp only [show ¬ (1 : Nat) = 0 by decide, if_false, if_true]
    refine ⟨a1, a2, fun T hT hST => a3 T (sub_t (hST y hy) (hT.2.1 trivial)) hST, fun h => ?_, fun h => ?_⟩
    · obtain ⟨f1, f2⟩ := flag _ h
      exact ⟨f1, (a4 f2).1, fun h => by simp at h, fun _ => (a4 f2).2, fun h => by simp at h, fun h => by simp at h⟩
    · cases hg : g with
      | true => exact Or.inl rfl
      | false => rw [hg, Bool.false_or] at h; exact Or.inr ⟨x, hx, a5 h⟩
  · obtain ⟨a1, a2, a3, a4, a5⟩ := one_step hq hx (uni_lt hq (S y) 10 (Nat.le_refl _))
    simp only [cstp, fS, fF, h0, ex, ey, con]
    simp only [show ¬ (2 : Nat) = 0 by decide, show ¬ (2 : Nat) = 1 by decide, if_false, if_true]
    refine ⟨a1, a2, fun T hT hST => a3 T (fun i hi => ?_) hST, fun h => ?_, fun h => ?_⟩
    · obtain ⟨z, hz, h1, h2⟩ := (uni_bit S (S y) i 10).mp hi
      exact hT.2.2.1 trivial z hz (hST y hy z h1) i (hST z hz i h2)
    · obtain ⟨f1, f2⟩ := flag _ h
      refine ⟨f1, (a4 f2).1, fun h => by simp at h, fun h => by simp at h, fun _ z hz hb i hi => ?_, fun h => by simp at h⟩
      exact (a4 f2).2 i ((uni_bit S (S y) i 10).mpr ⟨z, hz, hb, hi⟩)
    · cases hg : g with
      | true => exact Or.inl rfl
      | false => rw [hg, Bool.false_or] at h; exact Or.inr ⟨x, hx, a5 h⟩
  · simp only [cstp, fS, fF, h0, ex, ey, con]
    simp only [show ¬ (3 : Nat) = 0 by decide, show ¬ (3 : Nat) = 1 by decide, show ¬ (3 : Nat) = 2 by decide, if_false]
    refine ⟨sok_ga hq (hq y hy) 10, ?_, fun T hT hST => ?_, fun h => ?_, fun h => ?_⟩
    · intro k hk; unfold gaS
      by_cases e : k < 10 ∧ (S x).testBit k = true
      · rw [if_pos e]; exact sub_l _ _
      · rw [if_neg e]; exact sub_r _
    · intro k hk; unfold gaS
      by_cases e : k < 10 ∧ (S x).testBit k = true
      · rw [if_pos e]; exact sub_or (hST k hk) (sub_t (hST y hy) (hT.2.2.2 trivial k hk (hST x hx k e.2)))
      · rw [if_neg e]; exact hST k hk
    · obtain ⟨f1, f2⟩ := flag _ h
      have f3 := (gaF_f S (S x) (S y) 10).mp f2
      refine ⟨f1, ?_, fun h => by simp at h, fun h => by simp at h, fun h => by simp at h, fun _ z hz hb => f3 z hz hb⟩
      funext k; unfold gaS
      by_cases e : k < 10 ∧ (S x).testBit k = true
      · rw [if_pos e]; exact or_eq_of_sub (f3 k e.1 e.2)
      · rw [if_neg e]
    · cases hg : g with
      | true => exact Or.inl rfl
      | false =>
        rw [hg, Bool.false_or] at h
        have hno : ¬ ∀ z, z < 10 → (S x).testBit z = true → sub (S y) (S z) := fun hh => by
          rw [(gaF_f S (S x) (S y) 10).mpr hh] at h; cases h
        apply Or.inr
        apply Classical.byContradiction
        intro hne
        apply hno
        intro z hz hb
        have h1 : gaS S (S x) (S y) 10 z = S z := Classical.byContradiction (fun h2 => hne ⟨z, hz, h2⟩)
        unfold gaS at h1
        rw [if_pos ⟨hz, hb⟩] at h1
        exact sub_of_or_eq h1
theorem fp_gp (ln : Nat → Nat) (lo : Option Nat) (S : Nat → Nat) : ∀ i, fp ln lo S i = gp cstp ln lo (S, false) i
  | 0 => rfl
  | i + 1 => by
    simp only [fp, gp, fp_gp ln lo S i]
    rfl
theorem fit_gi {ln : Nat → Nat} {n : Nat} {lo : Option Nat} {J : Nat} (h : ∀ j, j < J → (gi cstp ln n lo j).2 = true) : ∀ j, j ≤ J → fit ln n lo j = gi cstp ln n lo j
  | 0, _ => rfl
  | j + 1, hj => by
    have ih := fit_gi h j (by omega)
    simp only [fit, gi]
    rw [ih, if_pos (h j (by omega)), fp_gp]
/-- the class's sets are the least -/
theorem fineC_end {ln : Nat → Nat} {n : Nat} {lo : Option Nat} (hl : ∀ k, k < n → ln k < 400) : ∃ J, fineC ln n lo = (gi cstp ln n lo J).1 ∧ clo ln n lo (gi cstp ln n lo J).1 := by
  obtain ⟨J, hJ, hf, hb, hc⟩ := gi_end (lo := lo) gst_c hl
  refine ⟨J, ?_, hc⟩
  have e := fit_gi hb J (Nat.le_refl _)
  have e2 := fit_stay (j := J) (by rw [e]; exact hf) (101 - J)
  rw [show J + (101 - J) = 101 by omega] at e2
  unfold fineC
  rw [e2, e]
/-- any other way of growing comes to the same -/
theorem fine_other {st : Nat → sQ → sQ} {ln : Nat → Nat} {n : Nat} {lo : Option Nat} (hs : ∀ v, v < 400 → gst v (st v)) (hl : ∀ k, k < n → ln k < 400) : ∃ J, (gi st ln n lo J).2 = false ∧ (∀ j, j < J → (gi st ln n lo j).2 = true) ∧ ∀ k, k < 10 → (gi st ln n lo J).1 k = fineC ln n lo k := by
  obtain ⟨J, -, hf, hb, hc⟩ := gi_end (lo := lo) hs hl
  obtain ⟨J1, e1, c1⟩ := fineC_end (lo := lo) hl
  refine ⟨J, hf, hb, fun k hk => ?_⟩
  rw [e1]
  exact gi_same hs gst_c hl hc c1 k hk
