theorem mem_none (Gp : Nat → Nat) : ∀ i, mem Gp none i = 0
  | 0 => rfl
  | i + 1 => by simp only [mem, mem_none Gp i]; simp
theorem and_or0 (a b d : Nat) : a &&& (b ||| d) = 0 ↔ a &&& b = 0 ∧ a &&& d = 0 := by
  rw [Nat.and_or_distrib_left]
  constructor
  · intro h
    constructor
    · apply Nat.eq_of_testBit_eq; intro i
      have h1 : ((a &&& b) ||| (a &&& d)).testBit i = false := by rw [h]; simp
      rw [Nat.testBit_or, Bool.or_eq_false_iff] at h1
      rw [h1.1]; simp
    · apply Nat.eq_of_testBit_eq; intro i
      have h1 : ((a &&& b) ||| (a &&& d)).testBit i = false := by rw [h]; simp
      rw [Nat.testBit_or, Bool.or_eq_false_iff] at h1
      rw [h1.2]; simp
  · rintro ⟨h1, h2⟩; rw [h1, h2]; rfl
theorem dis_m1 {u v : Nat} {S : Nat → Nat} (h : ¬ wrs u S &&& (wrs v S ||| rds v S) = 0) : (dis u v S || dis v u S) = true := by
  simp [dis, h]
theorem dis_m2 {u v : Nat} {S : Nat → Nat} (h : wrs u S &&& (wrs v S ||| rds v S) = 0) (h2 : ¬ wrs v S &&& rds u S = 0) : (dis u v S || dis v u S) = true := by
  have h3 : ¬ wrs v S &&& (wrs u S ||| rds u S) = 0 := fun e => h2 ((and_or0 _ _ _).mp e).2
  simp [dis, h3]
theorem dis_m3 {u v : Nat} {S : Nat → Nat} (h : wrs u S &&& (wrs v S ||| rds v S) = 0) (h2 : wrs v S &&& rds u S = 0) : (dis u v S || dis v u S) = false := by
  have h3 : wrs v S &&& (wrs u S ||| rds u S) = 0 := (and_or0 _ _ _).mpr ⟨by rw [Nat.and_comm]; exact ((and_or0 _ _ _).mp h).1, h2⟩
  simp [dis, h, h3]
theorem wi_inb (v : Int32) {k n : Nat} (h : n = k + 1) (hk : k < 2 ^ 30) : bI (decide ((nI 0).toInt ≤ v.toInt ∧ v.toInt ≤ (nI k).toInt)) = 0 ↔ inb v n = false := by
  subst h
  rw [bI_0, show inb v (k + 1) = decide ((nI 0).toInt ≤ v.toInt ∧ v.toInt ≤ (nI k).toInt) from decide_eq_decide.mpr (by rw [nI_toInt (by omega), nI_toInt (by omega)]; omega)]
theorem wi_ok {j k : Nat} (h : j ≤ k) (hk : k < 2 ^ 30) : ¬ bI (decide ((nI 0).toInt ≤ (nI j).toInt ∧ (nI j).toInt ≤ (nI k).toInt)) = 0 := by
  rw [wi_inb (nI j) (n := k + 1) rfl hk, inb_nI (by omega)]
  simp; omega
