theorem flG_s' {α : Type} {f g : Nat → α} {i : Nat} {v : α} (h : v = f i) : va_up (flG f g i) i v = flG f g (i + 1) := by rw [h]; exact flG_s f g i
-- runs, as the reference does them
def obt : Option Nat → Nat
  | none => 0
  | some g => 2 ^ g
def winv (q : rQ) : Prop := ∀ x, x < 10 → ∀ g, q.1 x = some g → (q.2.1 x).testBit g = true
theorem or_bit {a g : Nat} (h : a.testBit g = true) : a ||| 2 ^ g = a := or_eq_of_sub (sub_pow.mpr h)
theorem bit_or (a g : Nat) : (a ||| 2 ^ g).testBit g = true := by rw [Nat.testBit_or, Nat.testBit_two_pow_self]; simp
theorem or_keep {a b g : Nat} (h : a.testBit g = true) : (a ||| b).testBit g = true := by rw [Nat.testBit_or, h]; rfl
/-- one name comes to point elsewhere: all that was seen, seen again -/
theorem wer_up {q : rQ} (h : winv q) (x0 : Nat) (t : Option Nat) (ms : Nat) : winv (va_up q.1 x0 t, rpV q.2.1 x0 t, ms) ∧ ∀ x, x < 10 → q.2.1 x ||| obt (va_up q.1 x0 t x) = rpV q.2.1 x0 t x := by
  constructor
  · intro x hx g hg
    have hg : va_up q.1 x0 t x = some g := hg
    show (rpV q.2.1 x0 t x).testBit g = true
    by_cases e : x = x0
    · subst e
      rw [up_s] at hg
      subst hg
      show (va_up q.2.1 x (q.2.1 x ||| 2 ^ g) x).testBit g = true
      rw [up_s]; exact bit_or _ _
    · rw [up_n e] at hg
      have h1 := h x hx g hg
      cases t with
      | none => exact h1
      | some g2 =>
        show (va_up q.2.1 x0 _ x).testBit g = true
        rw [up_n e]; exact h1
  · intro x hx
    by_cases e : x = x0
    · subst e
      rw [up_s]
      cases t with
      | none => simp [obt, rpV]
      | some g2 => simp only [obt, rpV]; rw [up_s]
    · rw [up_n e]
      have e2 : rpV q.2.1 x0 t x = q.2.1 x := by
        cases t with
        | none => rfl
        | some g2 => simp only [rpV]; rw [up_n e]
      rw [e2]
      cases hq : q.1 x with
      | none => simp [obt]
      | some g => exact or_bit (h x hx g hq)
theorem wer_same {q : rQ} (h : winv q) (ms : Nat) : winv (q.1, q.2.1, ms) ∧ ∀ x, x < 10 → q.2.1 x ||| obt (q.1 x) = q.2.1 x := by
  refine ⟨h, fun x hx => ?_⟩
  cases hq : q.1 x with
  | none => simp [obt]
  | some g => exact or_bit (h x hx g hq)
theorem wer {q : rQ} (h : winv q) (v : Nat) : winv (rst v q) ∧ ∀ x, x < 10 → q.2.1 x ||| obt ((rst v q).1 x) = (rst v q).2.1 x := by
  unfold rst
  by_cases h0 : v / 100 = 0
  · rw [if_pos h0]; exact wer_up h _ _ _
  · rw [if_neg h0]
    by_cases h1 : v / 100 = 1
    · rw [if_pos h1]; exact wer_up h _ _ _
    · rw [if_neg h1]
      by_cases h2 : v / 100 = 2
      · rw [if_pos h2]
        cases e : q.1 (v % 10) with
        | none => exact wer_same h _
        | some g => exact wer_up h _ _ _
      · rw [if_neg h2]
        cases e : q.1 (v / 10 % 10) with
        | none => exact wer_same h _
        | some g => exact wer_up h _ _ _
theorem rr_winv {ln : Nat → Nat} {n : Nat} : ∀ k, winv (rr ln n k)
  | 0 => fun x hx g hg => by cases hg
  | k + 1 => (wer (rr_winv k) _).1
-- texts written out
def lbs (v : Nat) : List Nat :=
  if v / 100 = 0 then [97 + v / 10 % 10, 61, 38, 97 + v % 10, 59]
  else if v / 100 = 1 then [97 + v / 10 % 10, 61, 97 + v % 10, 59]
  else if v / 100 = 2 then [97 + v / 10 % 10, 61, 42, 97 + v % 10, 59]
  else [42, 97 + v / 10 % 10, 61, 97 + v % 10, 59]
theorem lbs_len (v : Nat) : (lbs v).length = ll v := by
  unfold lbs ll
  by_cases h0 : v / 100 = 0
  · simp [h0]
  · by_cases h1 : v / 100 = 1
    · simp [h1]
    · by_cases h2 : v / 100 = 2 <;> simp [h0, h1, h2]
theorem lbs_at (v k : Nat) : lb v k = (lbs v).getD k 0 := by
  unfold lbs lb
  by_cases h0 : v / 100 = 0
  · simp [h0]
  · by_cases h1 : v / 100 = 1
    · simp [h1]
    · by_cases h2 : v / 100 = 2 <;> simp [h0, h1, h2]
def lput (f : Nat → Nat) (k : Nat) : List Nat → (Nat → Nat)
  | [] => f
  | b :: t => lput (va_up f k b) (k + 1) t
theorem lput_lo : ∀ (l : List Nat) (f : Nat → Nat) (k j : Nat), j < k → lput f k l j = f j
  | [], _, _, _, _ => rfl
  | b :: t, f, k, j, h => by
    simp only [lput]
    rw [lput_lo t _ (k + 1) j (by omega), up_n (by omega)]
theorem lput_in : ∀ (l : List Nat) (f : Nat → Nat) (k i : Nat), i < l.length → lput f k l (k + i) = l.getD i 0
  | [], _, _, i, h => by simp at h
  | b :: t, f, k, 0, _ => by
    simp only [lput]
    rw [lput_lo t _ (k + 1) (k + 0) (by omega)]
    simp [up_s]
  | b :: t, f, k, i + 1, h => by
    simp only [lput]
    rw [show k + (i + 1) = k + 1 + i by omega, lput_in t _ (k + 1) i (by simpa using h)]
    simp
def wri (Wr ln : Nat → Nat) : Nat → (Nat → Nat)
  | 0 => Wr
  | i + 1 => lput (wri Wr ln i) (wlen ln i) (lbs (ln i))
theorem wri_tb (Wr ln : Nat → Nat) : ∀ i k, k < wlen ln i → tb ln i k = some (wri Wr ln i k)
  | 0, k, h => by simp [wlen] at h
  | i + 1, k, h => by
    simp only [tb, wri]
    by_cases h1 : k < wlen ln i
    · rw [if_pos h1, lput_lo _ _ _ _ h1]; exact wri_tb Wr ln i k h1
    · rw [if_neg h1, if_pos h]
      have h2 : k < wlen ln i + ll (ln i) := h
      have e := lput_in (lbs (ln i)) (wri Wr ln i) (wlen ln i) (k - wlen ln i) (by rw [lbs_len]; omega)
      rw [show wlen ln i + (k - wlen ln i) = k by omega] at e
      rw [e, lbs_at]
-- sums
theorem mxf_cong {f g : Nat → Int32} (h : Int64) : ∀ k, (∀ i, i < k → f i = g i) → mxf f h k = mxf g h k
  | 0, _ => rfl
  | k + 1, e => by simp only [mxf]; rw [mxf_cong h k (fun i hi => e i (by omega)), e k (by omega)]
theorem mxf_add (f : Nat → Int32) (h : Int64) (a : Nat) : ∀ k, mxf f h (a + k) = mxf (fun i => f (a + i)) (mxf f h a) k
  | 0 => rfl
  | k + 1 => by
    show mx (mxf f h (a + k)) (f (a + k)) = _
    rw [mxf_add f h a k]; rfl
theorem mdl_flat (ln S : Nat → Nat) (h : Int64) : ∀ n, mxf (fun k => nI (ofD (ln (k / 5)) S (k % 5))) h (5 * n) = mdl ln S h n
  | 0 => rfl
  | n + 1 => by
    rw [show 5 * (n + 1) = 5 * n + 5 by omega, mxf_add, mdl_flat ln S h n]
    show _ = mxf (fun w => nI (ofD (ln n) S w)) (mdl ln S h n) 5
    apply mxf_cong
    intro i hi
    rw [show (5 * n + i) / 5 = n by omega, show (5 * n + i) % 5 = i by omega]
