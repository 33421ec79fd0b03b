-- CLASS AND REFERENCE SIDE BY SIDE
def stk (sn : Nat) (NS : Nat → Nat) (CS : Nat → Nat → Nat) (Pa : Nat → Nat) : Prop := sn ≤ 5 ∧ ∀ j, j < sn → ∃ l, lok (NS j) l (CS j) ∧ mok (NS j) l (fun i => Pa (15 * j + i))
def lns (n : Nat) (Cd Nw : Nat → Nat) : Prop := ∃ ln, lok n ln Cd ∧ mok n ln Nw
def rfs (bd nb fl : Nat) (Rf : Nat → Nat) : Prop := Rf 0 = bd ∧ Rf 1 = nb ∧ Rf 2 = fl
def txo (len : Nat) (Bt : Nat → Nat) (sr : Nat) : Prop := len ≤ 120 ∧ (∀ k, k < len → Bt k < 128) ∧ sr < 4
theorem rfs_bad {bd nb fl : Nat} {Rf : Nat → Nat} (h : rfs bd nb fl Rf) : rfs (bd + 1) nb fl (va_up Rf 0 (Rf 0 + 1)) := ⟨by rw [up_s, h.1], by rw [up_n (by decide)]; exact h.2.1, by rw [up_n (by decide)]; exact h.2.2⟩
theorem rfs_no {bd nb fl : Nat} {Rf : Nat → Nat} (h : rfs bd nb fl Rf) : rfs bd (nb + 1) fl (va_up Rf 1 (Rf 1 + 1)) := ⟨by rw [up_n (by decide)]; exact h.1, by rw [up_s, h.2.1], by rw [up_n (by decide)]; exact h.2.2⟩
theorem rfs_full {bd nb fl : Nat} {Rf : Nat → Nat} (h : rfs bd nb fl Rf) : rfs bd nb (fl + 1) (va_up Rf 2 (Rf 2 + 1)) := ⟨by rw [up_n (by decide)]; exact h.1, by rw [up_n (by decide)]; exact h.2.1, by rw [up_s, h.2.2]⟩
theorem mok_cong {n : Nat} {l F F' : Nat → Nat} (h : mok n l F) (e : ∀ i, i < 15 → F i = F' i) : mok n l F' := by
  obtain ⟨h1, h2, h3⟩ := h
  exact ⟨by rw [← e 0 (by omega)]; exact h1, h2, fun i hi => by rw [← e (1 + i) (by omega)]; exact h3 i hi⟩
theorem lok_cp {n : Nat} {l f g : Nat → Nat} (h : lok n l f) : lok n l (cpN f g n) := ⟨h.1, fun i hi => by
  unfold cpN; rw [if_pos hi]; exact h.2 i hi⟩
theorem stk_keep {sn : Nat} {NS : Nat → Nat} {CS : Nat → Nat → Nat} {Pa : Nat → Nat} (h : stk sn NS CS Pa) {n : Nat} {Cd Nw : Nat → Nat} (hl : lns n Cd Nw) : stk (kS sn) (kN sn NS n) (kC sn CS Cd n) (lvP sn Pa Nw) := by
  obtain ⟨h5, hs⟩ := h
  obtain ⟨ln, hlk, hmk⟩ := hl
  by_cases e : sn = 5
  · subst e
    refine ⟨by simp [kS], fun j hj => ?_⟩
    have hj5 : j < 5 := by simpa [kS] using hj
    by_cases e4 : j < 4
    · obtain ⟨l, a1, a2⟩ := hs (j + 1) (by omega)
      refine ⟨l, ?_, ?_⟩
      · simp only [kN, kC, if_true, if_pos e4]; exact a1
      · simp only [kN, if_true, if_pos e4]
        refine mok_cong a2 (fun i hi => ?_)
        simp only [lvP, if_true, ptP, shP]
        rw [if_neg (by omega), if_pos (by omega), show 15 * (j + 1) + i = 15 * j + i + 15 by omega]
    · have ej : j = 4 := by omega
      subst ej
      refine ⟨ln, ?_, ?_⟩
      · simp only [kN, kC, if_true, if_neg e4]; exact lok_cp hlk
      · simp only [kN, if_true, if_neg e4]
        refine mok_cong hmk (fun i hi => ?_)
        simp only [lvP, if_true, ptP]
        rw [if_pos (by omega), show 15 * 4 + i - 60 = i by omega]
  · refine ⟨by simp only [kS, if_neg e]; omega, fun j hj => ?_⟩
    have hj5 : j < sn + 1 := by simpa [kS, e] using hj
    by_cases ej : j = sn
    · subst ej
      refine ⟨ln, ?_, ?_⟩
      · simp only [kN, kC, if_neg e, up_s]; exact lok_cp hlk
      · simp only [kN, if_neg e, up_s]
        refine mok_cong hmk (fun i hi => ?_)
        simp only [lvP, if_neg e, ptP]
        rw [if_pos (by omega), show 15 * j + i - 15 * j = i by omega]
    · obtain ⟨l, a1, a2⟩ := hs j (by omega)
      refine ⟨l, ?_, ?_⟩
      · simp only [kN, kC, if_neg e, up_n ej]; exact a1
      · simp only [kN, if_neg e, up_n ej]
        refine mok_cong a2 (fun i hi => ?_)
        simp only [lvP, if_neg e, ptP]
        rw [if_neg (by omega)]
theorem lns_line {n v : Nat} {Cd Nw : Nat → Nat} (h : lns n Cd Nw) (hn : n < 14) (hv : v < 400) : lns (n + 1) (va_up Cd n (ce v)) (va_up (va_up Nw 0 (n + 1)) (n + 1) v) := by
  obtain ⟨ln, hlk, hmk⟩ := h
  refine ⟨va_up ln n v, ⟨by omega, fun i hi => ?_⟩, ⟨by rw [up_n (by omega), up_s], by omega, fun i hi => ?_⟩⟩
  · by_cases e : i = n
    · subst e; rw [up_s, up_s]; exact ⟨rfl, hv⟩
    · rw [up_n e, up_n e]; exact hlk.2 i (by omega)
  · by_cases e : i = n
    · subst e; rw [show 1 + i = i + 1 by omega, up_s, up_s]; exact ⟨rfl, hv⟩
    · rw [up_n (show ¬ 1 + i = n + 1 by omega), up_n (show ¬ 1 + i = 0 by omega), up_n e]; exact hmk.2.2 i (by omega)
/-- a place of a moved row comes from a place of the row -/
theorem mvT_src {α : Type} (f : Nat → α) {i p n j : Nat} (hi : i < n) (hp : p < n) (hj : j < n) : ∃ s, s < n ∧ mvT f i p j = f s := by
  unfold mvT
  by_cases h1 : j = p
  · exact ⟨i, hi, by rw [if_pos h1]⟩
  · rw [if_neg h1]
    by_cases h2 : i ≤ j ∧ j < p
    · exact ⟨j + 1, by omega, by rw [if_pos h2]⟩
    · rw [if_neg h2]
      by_cases h3 : p < j ∧ j ≤ i
      · exact ⟨j - 1, by omega, by rw [if_pos h3]⟩
      · exact ⟨j, hj, by rw [if_neg h3]⟩
theorem mvT_map {α β : Type} (f : Nat → α) (g : Nat → β) (r : α → β → Prop) {i p n j : Nat} (hi : i < n) (hp : p < n) (hj : j < n) (h : ∀ k, k < n → r (f k) (g k)) : r (mvT f i p j) (mvT g i p j) := by
  unfold mvT
  by_cases h1 : j = p
  · rw [if_pos h1, if_pos h1]; exact h i hi
  · rw [if_neg h1, if_neg h1]
    by_cases h2 : i ≤ j ∧ j < p
    · rw [if_pos h2, if_pos h2]; exact h _ (by omega)
    · rw [if_neg h2, if_neg h2]
      by_cases h3 : p < j ∧ j ≤ i
      · rw [if_pos h3, if_pos h3]; exact h _ (by omega)
      · rw [if_neg h3, if_neg h3]; exact h j hj
theorem mvT_sh {α : Type} (f : Nat → α) (i p j : Nat) : mvT f (1 + i) (1 + p) (1 + j) = mvT (fun k => f (1 + k)) i p j := by
  unfold mvT
  by_cases h1 : j = p
  · rw [if_pos (by omega), if_pos h1]
  · rw [if_neg (by omega), if_neg h1]
    by_cases h2 : i ≤ j ∧ j < p
    · rw [if_pos (by omega), if_pos h2, show 1 + j + 1 = 1 + (j + 1) by omega]
    · rw [if_neg (by omega), if_neg h2]
      by_cases h3 : p < j ∧ j ≤ i
      · rw [if_pos (by omega), if_pos h3, show 1 + j - 1 = 1 + (j - 1) by omega]
      · rw [if_neg (by omega), if_neg h3]
theorem lns_moves {n i p : Nat} {Cd Nw : Nat → Nat} (h : lns n Cd Nw) (hi : i < n) (hp : p < n) : lns n (mvT Cd i p) (mvT Nw (1 + i) (1 + p)) := by
  obtain ⟨ln, hlk, hmk⟩ := h
  refine ⟨mvT ln i p, ⟨hlk.1, fun j hj => ?_⟩, ⟨?_, hmk.2.1, fun j hj => ?_⟩⟩
  · exact mvT_map Cd ln (fun a b => a = ce b ∧ b < 400) hi hp hj (fun k hk => hlk.2 k hk)
  · unfold mvT; rw [if_neg (by omega), if_neg (by omega), if_neg (by omega)]; exact hmk.1
  · rw [mvT_sh]
    exact mvT_map (fun k => Nw (1 + k)) ln (fun a b => a = b ∧ b < 400) hi hp hj (fun k hk => hmk.2.2 k hk)
theorem lns_drops {n i : Nat} {Cd Nw : Nat → Nat} (h : lns n Cd Nw) (hi : i < n) : lns (n - 1) (mvT Cd i (n - 1)) (va_up (sh1 Nw (i + 1) n) 0 (n - 1)) := by
  obtain ⟨ln, hlk, hmk⟩ := h
  have h14 := hlk.1
  refine ⟨mvT ln i (n - 1), ⟨by omega, fun j hj => ?_⟩, ⟨up_s, by omega, fun j hj => ?_⟩⟩
  · exact mvT_map Cd ln (fun a b => a = ce b ∧ b < 400) hi (show n - 1 < n by omega) (show j < n by omega) (fun k hk => hlk.2 k hk)
  · rw [up_n (by omega)]
    unfold sh1 mvT
    rw [if_neg (show ¬ j = n - 1 by omega)]
    by_cases h2 : i ≤ j ∧ j < n - 1
    · rw [if_pos (show i + 1 ≤ 1 + j ∧ 1 + j < n by omega), if_pos h2, show 1 + j + 1 = 1 + (j + 1) by omega]; exact hmk.2.2 (j + 1) (by omega)
    · rw [if_neg (show ¬ (i + 1 ≤ 1 + j ∧ 1 + j < n) by omega), if_neg h2, if_neg (by omega)]; exact hmk.2.2 j (by omega)
theorem lns_back {sn : Nat} {NS : Nat → Nat} {CS : Nat → Nat → Nat} {Pa : Nat → Nat} (h : stk sn NS CS Pa) (h0 : 0 < sn) (Cd Nw : Nat → Nat) : lns (NS (sn - 1)) (cpN (CS (sn - 1)) Cd (NS (sn - 1))) (flG (fun j => Pa (15 * (sn - 1) + j)) Nw 15) := by
  obtain ⟨l, a1, a2⟩ := h.2 (sn - 1) (by omega)
  exact ⟨l, lok_cp a1, mok_cong a2 (fun i hi => (flG_in (fun j => Pa (15 * (sn - 1) + j)) Nw hi).symm)⟩
theorem stk_back {sn : Nat} {NS : Nat → Nat} {CS : Nat → Nat → Nat} {Pa : Nat → Nat} (h : stk sn NS CS Pa) : stk (sn - 1) NS CS Pa := ⟨by have := h.1; omega, fun j hj => h.2 j (by omega)⟩
theorem stk_n {sn : Nat} {NS : Nat → Nat} {CS : Nat → Nat → Nat} {Pa : Nat → Nat} (h : stk sn NS CS Pa) : ∀ j, j < sn → NS j ≤ 14 := fun j hj => by
  obtain ⟨l, a1, -⟩ := h.2 j hj; exact a1.1
theorem lns_reads {n : Nat} {PC Cd Nw Fr : Nat → Nat} (h : fok n PC Fr) : lns n (cpN PC Cd n) (flG Fr Nw 15) := by
  refine ⟨fun i => Fr (1 + i), ⟨h.2.1, fun i hi => ?_⟩, ⟨?_, h.2.1, fun i hi => ?_⟩⟩
  · unfold cpN; rw [if_pos hi]; exact ⟨(h.2.2 i hi).2, (h.2.2 i hi).1⟩
  · rw [flG_in _ _ (by omega)]; exact h.1
  · have := h.2.1
    rw [flG_in _ _ (by omega)]; exact ⟨rfl, (h.2.2 i hi).1⟩
theorem pstep_sr {q : pS} (h : q.2.1 < 4) (c : Nat) : (pstep q c).2.1 < 4 := by
  unfold pstep
  repeat' split
  all_goals first | exact h | (simp; done) | (show (3 : Nat) < 4; decide) | (show (1 : Nat) < 4; decide) | (show (0 : Nat) < 4; decide) | (show (2 : Nat) < 4; decide)
theorem pk_sr {q0 : pS} (h : q0.2.1 < 4) (Bt : Nat → Nat) : ∀ k, (pk q0 Bt k).2.1 < 4
  | 0 => h
  | k + 1 => by
    simp only [pk]
    by_cases e : Bt k = 32
    · rw [if_pos e]; exact pk_sr h Bt k
    · rw [if_neg e]; exact pstep_sr (pk_sr h Bt k) _
theorem pflt_lt {q0 : pS} {Bt : Nat → Nat} : ∀ k f, pflt q0 Bt k = some f → f < k
  | 0, f, h => by cases h
  | k + 1, f, h => by
    simp only [pflt] at h
    cases e : pflt q0 Bt k with
    | some g =>
      rw [e] at h
      have := pflt_lt k g e
      have : g = f := Option.some.inj h
      omega
    | none =>
      rw [e] at h
      by_cases e6 : (pk q0 Bt (k + 1)).1 = 6
      · rw [if_pos e6] at h; have : k = f := Option.some.inj h; omega
      · rw [if_neg e6] at h; cases h
theorem pres_le {q0 : pS} {Bt : Nat → Nat} {len f : Nat} (h : pres q0 Bt len = some f) : f ≤ len := by
  unfold pres at h
  cases e : pflt q0 Bt len with
  | some g => rw [e] at h; have := pflt_lt len g e; have : g = f := Option.some.inj h; omega
  | none =>
    rw [e] at h
    by_cases e0 : (pk q0 Bt len).1 = 0
    · simp [e0] at h
    · simp [e0] at h; omega
theorem pres_pv {q0 : pS} (hq : pv q0) {Bt : Nat → Nat} {len : Nat} (h : pres q0 Bt len = none) : pv (pk q0 Bt (pend q0 Bt len)) := by
  unfold pres at h
  unfold pend
  cases e : pflt q0 Bt len with
  | some g => rw [e] at h; cases h
  | none => exact pv_pk hq len e
theorem txo_type {len : Nat} {Bt : Nat → Nat} {sr cb : Nat} (h : txo len Bt sr) (hl : len < 120) (hc : cb < 128) : txo (len + 1) (va_up Bt len cb) sr := by
  refine ⟨by omega, fun k hk => ?_, h.2.2⟩
  by_cases e : k = len
  · subst e; rw [up_s]; exact hc
  · rw [up_n e]; exact h.2.1 k (by omega)
theorem txo_clear {len : Nat} {Bt : Nat → Nat} {sr : Nat} (h : txo len Bt sr) : txo 0 Bt sr := ⟨by omega, fun k hk => absurd hk (Nat.not_lt_zero _), h.2.2⟩
theorem lg_cmp_self (x : Int64) : lg_cmp x x = 0 := by
  unfold lg_cmp
  rw [if_neg (by show ¬ x < x; exact Int64.lt_irrefl), if_pos rfl]
theorem inb_cases (x : Int32) {n : Nat} (hn : n < 2 ^ 31) : inb x n = false ∨ ∃ j : Nat, j < n ∧ x = nI j := by
  cases h : inb x n with
  | false => exact Or.inl rfl
  | true => exact Or.inr (inb_of h hn)
