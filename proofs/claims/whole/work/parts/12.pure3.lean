-- a row filled
def flI (f : Nat → Int32) (v : Int32) (i : Nat) : Nat → Int32 := fun k => if k < i then v else f k
theorem flI_0 (f : Nat → Int32) (v : Int32) : flI f v 0 = f := by funext k; simp [flI]
theorem flI_s (f : Nat → Int32) (v : Int32) (i : Nat) (h : i < 2 ^ 31) : upd (flI f v i) (nI i).toNatClampNeg v = flI f v (i + 1) := by
  rw [nI_clamp h]; funext k; unfold upd flI
  by_cases hk : k = i
  · subst hk; simp
  · rw [if_neg hk]
    by_cases h2 : k < i
    · rw [if_pos h2, if_pos (by omega)]
    · rw [if_neg h2, if_neg (by omega)]
-- bits counted
def pcu (x : Nat) : Nat → Nat
  | 0 => 0
  | k + 1 => pcu x k + x / 2 ^ k % 2
def pcn (x : Nat) : Nat := pcu x 10
def bc1 (x : Int32) : Int32 := x - ((x.toUInt32 >>> ((nI 1).toUInt32 &&& Int32.toUInt32 31)).toInt32 &&& (1431655765 : Int32))
def bc2 (x : Int32) : Int32 := (x &&& (858993459 : Int32)) + ((x.toUInt32 >>> ((nI 2).toUInt32 &&& Int32.toUInt32 31)).toInt32 &&& (858993459 : Int32))
def bc3 (x : Int32) : Int32 := (x + (x.toUInt32 >>> ((nI 4).toUInt32 &&& Int32.toUInt32 31)).toInt32) &&& (252645135 : Int32)
def bc4 (x : Int32) : Int32 := x + (x.toUInt32 >>> ((nI 8).toUInt32 &&& Int32.toUInt32 31)).toInt32
def bc5 (x : Int32) : Int32 := x + (x.toUInt32 >>> ((nI 16).toUInt32 &&& Int32.toUInt32 31)).toInt32
def bc6 (x : Int32) : Int32 := x &&& nI 63
theorem bc_pcn : ∀ x, x < 1024 → bc6 (bc5 (bc4 (bc3 (bc2 (bc1 (nI x)))))) = nI (pcn x) := by decide +kernel
theorem pcu_le (x : Nat) : ∀ k, pcu x k ≤ k
  | 0 => Nat.le_refl _
  | k + 1 => by have h := pcu_le x k; simp only [pcu]; omega
theorem pcn_le (x : Nat) : pcn x ≤ 10 := pcu_le x 10
-- sets
def sok (S : Nat → Nat) : Prop := ∀ k, k < 10 → S k < 1024
def grw (a b : Nat) : Bool := decide (a ||| b ≠ a)
def uni (S : Nat → Nat) (nm : Nat) : Nat → Nat
  | 0 => 0
  | i + 1 => if nm.testBit i = true then uni S nm i ||| S i else uni S nm i
def gaS (S : Nat → Nat) (nm more i : Nat) : Nat → Nat := fun k => if k < i ∧ nm.testBit k = true then S k ||| more else S k
def gaF (S : Nat → Nat) (nm more : Nat) : Nat → Bool
  | 0 => false
  | i + 1 => gaF S nm more i || (nm.testBit i && grw (S i) more)
def fS (v : Nat) (S : Nat → Nat) : Nat → Nat :=
  if v / 100 = 0 then va_up S (v / 10 % 10) (S (v / 10 % 10) ||| 2 ^ (v % 10))
  else if v / 100 = 1 then va_up S (v / 10 % 10) (S (v / 10 % 10) ||| S (v % 10))
  else if v / 100 = 2 then va_up S (v / 10 % 10) (S (v / 10 % 10) ||| uni S (S (v % 10)) 10)
  else gaS S (S (v / 10 % 10)) (S (v % 10)) 10
def fF (v : Nat) (S : Nat → Nat) : Bool :=
  if v / 100 = 0 then grw (S (v / 10 % 10)) (2 ^ (v % 10))
  else if v / 100 = 1 then grw (S (v / 10 % 10)) (S (v % 10))
  else if v / 100 = 2 then grw (S (v / 10 % 10)) (uni S (S (v % 10)) 10)
  else gaF S (S (v / 10 % 10)) (S (v % 10)) 10
def fp (ln : Nat → Nat) (lo : Option Nat) (S : Nat → Nat) : Nat → (Nat → Nat) × Bool
  | 0 => (S, false)
  | i + 1 => if some i = lo then fp ln lo S i else (fS (ln i) (fp ln lo S i).1, (fp ln lo S i).2 || fF (ln i) (fp ln lo S i).1)
def fit (ln : Nat → Nat) (n : Nat) (lo : Option Nat) : Nat → (Nat → Nat) × Bool
  | 0 => (fun _ => 0, true)
  | j + 1 => if (fit ln n lo j).2 = true then fp ln lo (fit ln n lo j).1 n else fit ln n lo j
def fineC (ln : Nat → Nat) (n : Nat) (lo : Option Nat) : Nat → Nat := (fit ln n lo 101).1
theorem or_lt {a b k : Nat} (ha : a < 2 ^ k) (hb : b < 2 ^ k) : a ||| b < 2 ^ k := Nat.or_lt_two_pow ha hb
theorem or_lt10 {a b : Nat} (ha : a < 1024) (hb : b < 1024) : a ||| b < 1024 := or_lt (k := 10) ha hb
theorem pow_lt10 {y : Nat} (h : y < 10) : 2 ^ y < 1024 := Nat.pow_lt_pow_right (a := 2) (n := 10) (by omega) h
theorem uni_lt {S : Nat → Nat} (h : sok S) (nm : Nat) : ∀ i, i ≤ 10 → uni S nm i < 1024
  | 0, _ => by simp [uni]
  | i + 1, hi => by
    have h1 := uni_lt h nm i (by omega)
    simp only [uni]
    by_cases hb : nm.testBit i = true
    · rw [if_pos hb]; exact or_lt10 h1 (h i (by omega))
    · rw [if_neg hb]; exact h1
theorem sok_up {S : Nat → Nat} (h : sok S) {x b : Nat} (hb : b < 1024) : sok (va_up S x b) := by
  intro k hk
  by_cases e : k = x
  · subst e; rw [up_s]; exact hb
  · rw [up_n e]; exact h k hk
theorem sok_ga {S : Nat → Nat} (h : sok S) {nm more : Nat} (hm : more < 1024) (i : Nat) : sok (gaS S nm more i) := by
  intro k hk; unfold gaS
  by_cases e : k < i ∧ nm.testBit k = true
  · rw [if_pos e]; exact or_lt10 (h k hk) hm
  · rw [if_neg e]; exact h k hk
theorem sok_f {S : Nat → Nat} (h : sok S) (v : Nat) : sok (fS v S) := by
  have hx : v / 10 % 10 < 10 := by omega
  have hy : v % 10 < 10 := by omega
  unfold fS
  by_cases h0 : v / 100 = 0
  · rw [if_pos h0]; exact sok_up h (or_lt10 (h _ hx) (pow_lt10 hy))
  · rw [if_neg h0]
    by_cases h1 : v / 100 = 1
    · rw [if_pos h1]; exact sok_up h (or_lt10 (h _ hx) (h _ hy))
    · rw [if_neg h1]
      by_cases h2 : v / 100 = 2
      · rw [if_pos h2]; exact sok_up h (or_lt10 (h _ hx) (uni_lt h _ 10 (by omega)))
      · rw [if_neg h2]; exact sok_ga h (h _ hy) 10
theorem sok_fp {ln : Nat → Nat} {lo : Option Nat} {S : Nat → Nat} (h : sok S) : ∀ i, sok (fp ln lo S i).1
  | 0 => h
  | i + 1 => by
    have h1 := sok_fp (ln := ln) (lo := lo) h i
    simp only [fp]
    by_cases e : some i = lo
    · rw [if_pos e]; exact h1
    · rw [if_neg e]; exact sok_f h1 _
theorem sok_0 : sok (fun _ => 0) := fun _ _ => by show (0 : Nat) < 1024; omega
theorem sok_fit {ln : Nat → Nat} {n : Nat} {lo : Option Nat} : ∀ j, sok (fit ln n lo j).1
  | 0 => sok_0
  | j + 1 => by
    have h1 := sok_fit (ln := ln) (n := n) (lo := lo) j
    simp only [fit]
    by_cases e : (fit ln n lo j).2 = true
    · rw [if_pos e]; exact sok_fp h1 n
    · rw [if_neg e]; exact h1
theorem sok_fineC {ln : Nat → Nat} {n : Nat} {lo : Option Nat} : sok (fineC ln n lo) := sok_fit 101
theorem fit_stay {ln : Nat → Nat} {n : Nat} {lo : Option Nat} {j : Nat} (h : (fit ln n lo j).2 = false) : ∀ d, fit ln n lo (j + d) = fit ln n lo j
  | 0 => rfl
  | d + 1 => by
    have h1 := fit_stay h d
    show fit ln n lo (j + d + 1) = _
    simp only [fit]
    rw [h1, h]; simp
theorem gaS_0 (S : Nat → Nat) (nm more : Nat) : gaS S nm more 0 = S := by funext k; simp [gaS]
theorem gaS_at (S : Nat → Nat) (nm more i : Nat) : gaS S nm more i i = S i := by simp [gaS]
theorem gaS_s1 (S : Nat → Nat) (nm more i : Nat) (h : nm.testBit i = true) : va_up (gaS S nm more i) i (gaS S nm more i i ||| more) = gaS S nm more (i + 1) := by
  rw [gaS_at]; funext k; unfold va_up gaS
  by_cases hk : k = i
  · subst hk; simp [h]
  · rw [if_neg hk]
    by_cases h2 : k < i ∧ nm.testBit k = true
    · rw [if_pos h2, if_pos ⟨by omega, h2.2⟩]
    · rw [if_neg h2, if_neg (fun h3 => h2 ⟨by omega, h3.2⟩)]
theorem gaS_s0 (S : Nat → Nat) (nm more i : Nat) (h : nm.testBit i = false) : gaS S nm more i = gaS S nm more (i + 1) := by
  funext k; unfold gaS
  by_cases hk : k = i
  · subst hk; simp [h]
  · by_cases h2 : k < i ∧ nm.testBit k = true
    · rw [if_pos h2, if_pos ⟨by omega, h2.2⟩]
    · rw [if_neg h2, if_neg (fun h3 => h2 ⟨by omega, h3.2⟩)]
theorem bit_nat (n j : Nat) : n &&& 2 ^ j = 0 ↔ n.testBit j = false := by
  constructor
  · intro h
    have h1 : (n &&& 2 ^ j).testBit j = false := by rw [h]; simp
    rw [Nat.testBit_and, Nat.testBit_two_pow_self] at h1
    simpa using h1
  · intro h
    apply Nat.eq_of_testBit_eq
    intro i
    rw [Nat.testBit_and, Nat.testBit_two_pow]
    by_cases hij : j = i
    · subst hij; simp [h]
    · simp [hij]
theorem tb_hi {b i : Nat} (hb : b < 1024) (h : 10 ≤ i) : b.testBit i = false := Nat.testBit_lt_two_pow (Nat.lt_of_lt_of_le hb (Nat.pow_le_pow_right (n := 2) (i := 10) (j := i) (by omega) h))
/-- the growing bits of more: none -/
theorem grw_iff {a b : Nat} (ha : a < 1024) (hb : b < 1024) : nI b &&& (nI a ^^^ oI none) = 0 ↔ a ||| b = a := by
  have e : nI b &&& (nI a ^^^ oI none) = nI (b &&& (1023 ^^^ a)) := by
    unfold nI oI
    apply Int32.toBitVec_inj.mp
    apply BitVec.eq_of_getLsbD_eq
    intro i hi
    have h1 : (1023 : Nat) = 2 ^ 10 - 1 := rfl
    simp only [Int32.toBitVec_and, Int32.toBitVec_xor, BitVec.getLsbD_and, BitVec.getLsbD_xor, Int32.toBitVec_ofNat', BitVec.getLsbD_ofNat, Nat.testBit_and, Nat.testBit_xor]
    have h2 : ((-1 : Int32).toBitVec).getLsbD i = true := by
      revert i; decide
    rw [h2]
    by_cases h10 : i < 10
    · have h3 : (1023 : Nat).testBit i = true := by rw [h1, Nat.testBit_two_pow_sub_one]; simpa using h10
      rw [h3]
      simp [hi, Bool.xor_comm]
    · have h4 : b.testBit i = false := tb_hi hb (by omega)
      simp [h4]
  have hlt : b &&& (1023 ^^^ a) < 2 ^ 31 := Nat.lt_of_le_of_lt Nat.and_le_left (by omega)
  rw [e, n_eq0 hlt]
  constructor
  · intro h
    apply Nat.eq_of_testBit_eq
    intro i
    rw [Nat.testBit_or]
    by_cases h10 : i < 10
    · have h1 : (b &&& (1023 ^^^ a)).testBit i = false := by rw [h]; simp
      have h3 : (1023 : Nat).testBit i = true := by rw [show (1023 : Nat) = 2 ^ 10 - 1 from rfl, Nat.testBit_two_pow_sub_one]; simpa using h10
      rw [Nat.testBit_and, Nat.testBit_xor, h3] at h1
      cases hb2 : b.testBit i <;> cases ha2 : a.testBit i <;> simp_all
    · have h4 : b.testBit i = false := tb_hi hb (by omega)
      simp [h4]
  · intro h
    apply Nat.eq_of_testBit_eq
    intro i
    rw [Nat.testBit_and, Nat.testBit_xor]
    have h1 : (a ||| b).testBit i = a.testBit i := by rw [h]
    rw [Nat.testBit_or] at h1
    by_cases h10 : i < 10
    · have h3 : (1023 : Nat).testBit i = true := by rw [show (1023 : Nat) = 2 ^ 10 - 1 from rfl, Nat.testBit_two_pow_sub_one]; simpa using h10
      rw [h3]
      cases hb2 : b.testBit i <;> cases ha2 : a.testBit i <;> simp_all
    · have h4 : b.testBit i = false := tb_hi hb (by omega)
      simp [h4]
def ftot (S : Nat → Nat) : Nat → Nat
  | 0 => 0
  | i + 1 => ftot S i + pcn (S i)
theorem ftot_le (S : Nat → Nat) : ∀ i, ftot S i ≤ 10 * i
  | 0 => Nat.le_refl _
  | i + 1 => by have h := ftot_le S i; have h2 := pcn_le (S i); simp only [ftot]; omega
