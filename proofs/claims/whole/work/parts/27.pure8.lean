-- THE COARSE RECKONING: groups known by one name, joins come to an end
def cinv (Gp : Nat → Nat) (Tt : Nat → Option Nat) : Prop := (∀ k, k < 10 → Gp k < 10 ∧ Gp (Gp k) = Gp k) ∧ ∀ k, k < 10 → ∀ g, Tt k = some g → g < 10 ∧ Gp g = g ∧ Gp k = k
def rep (Gp : Nat → Nat) (t : Option Nat) : Prop := ∀ g, t = some g → g < 10 ∧ Gp g = g
theorem cinv.g {Gp : Nat → Nat} {Tt : Nat → Option Nat} (h : cinv Gp Tt) : gok Gp := fun k hk => (h.1 k hk).1
theorem cinv.t {Gp : Nat → Nat} {Tt : Nat → Option Nat} (h : cinv Gp Tt) : tok Tt := fun k hk g hg => (h.2 k hk g hg).1
theorem cinv.r {Gp : Nat → Nat} {Tt : Nat → Option Nat} (h : cinv Gp Tt) {k : Nat} (hk : k < 10) : rep Gp (Tt k) := fun g hg => ⟨(h.2 k hk g hg).1, (h.2 k hk g hg).2.1⟩
theorem rep.o {Gp : Nat → Nat} {t : Option Nat} (h : rep Gp t) : ook t := fun g hg => (h g hg).1
theorem gcn_le {G G' : Nat → Nat} : ∀ i, (∀ k, k < i → G' k = k → G k = k) → gcn G' i ≤ gcn G i
  | 0, _ => Nat.le_refl _
  | i + 1, h => by
    have ih := gcn_le (G := G) (G' := G') i (fun k hk => h k (by omega))
    simp only [gcn]
    by_cases e : G' i = i
    · rw [if_pos e, if_pos (h i (by omega) e)]; omega
    · rw [if_neg e]; omega
theorem gcn_lt {G G' : Nat → Nat} {x : Nat} (hG : G x = x) (hG' : ¬ G' x = x) : ∀ i, x < i → (∀ k, k < i → G' k = k → G k = k) → gcn G' i + 1 ≤ gcn G i
  | 0, hx, _ => absurd hx (Nat.not_lt_zero _)
  | i + 1, hx, h => by
    simp only [gcn]
    by_cases ex : x = i
    · subst ex
      have h1 := gcn_le (G := G) (G' := G') x (fun k hk => h k (by omega))
      rw [if_neg hG', if_pos hG]; omega
    · have ih := gcn_lt hG hG' i (by omega) (fun k hk => h k (by omega))
      by_cases e : G' i = i
      · rw [if_pos e, if_pos (h i (by omega) e)]; omega
      · rw [if_neg e]; omega
theorem gcn_b (G : Nat → Nat) : ∀ i, gcn G i ≤ i
  | 0 => Nat.le_refl _
  | i + 1 => by have h := gcn_b G i; simp only [gcn]; split <;> omega
theorem pnc_le {T T' : Nat → Option Nat} : ∀ i, (∀ k, k < i → T' k = none → T k = none) → pnc T i ≤ pnc T' i
  | 0, _ => Nat.le_refl _
  | i + 1, h => by
    have ih := pnc_le (T := T) (T' := T') i (fun k hk => h k (by omega))
    simp only [pnc]
    by_cases e : T' i = none
    · rw [if_pos e, if_pos (h i (by omega) e)]; omega
    · rw [if_neg e]; split <;> omega
theorem pnc_drop (T : Nat → Option Nat) (x : Nat) : ∀ i, pnc T i ≤ pnc (va_up T x none) i + 1 ∧ (i ≤ x → pnc T i = pnc (va_up T x none) i)
  | 0 => ⟨Nat.zero_le _, fun _ => rfl⟩
  | i + 1 => by
    obtain ⟨h1, h2⟩ := pnc_drop T x i
    simp only [pnc]
    by_cases e : i = x
    · subst e
      rw [up_s, if_pos rfl, h2 (Nat.le_refl _)]
      refine ⟨by split <;> omega, fun h => by omega⟩
    · rw [up_n e]
      exact ⟨by omega, fun h => by rw [h2 (by omega)]⟩
theorem pnc_set {T : Nat → Option Nat} {x y : Nat} (hx : T x = none) : ∀ i, x < i → pnc T i + 1 ≤ pnc (va_up T x (some y)) i
  | 0, h => absurd h (Nat.not_lt_zero _)
  | i + 1, h => by
    simp only [pnc]
    by_cases e : i = x
    · subst e
      have h1 := pnc_le (T := T) (T' := va_up T i (some y)) i (fun k hk h2 => by rw [up_n (by omega)] at h2; exact h2)
      rw [up_s, hx, if_pos rfl]; simp; omega
    · have ih := pnc_set (y := y) hx i (by omega)
      rw [up_n e]; omega
theorem pnc_gcn {Gp : Nat → Nat} {Tt : Nat → Option Nat} (h : cinv Gp Tt) : ∀ i, i ≤ 10 → pnc Tt i ≤ gcn Gp i
  | 0, _ => Nat.le_refl _
  | i + 1, hi => by
    have ih := pnc_gcn h i (by omega)
    simp only [pnc, gcn]
    cases e : Tt i with
    | none => simp; split <;> omega
    | some g => rw [if_pos (h.2 i (by omega) g e).2.2]; simp; omega
/-- two different groups are joined -/
theorem jone_inv {Gp : Nat → Nat} {Tt : Nat → Option Nat} (h : cinv Gp Tt) {lo hi : Nat} (hl : lo < 10) (hh : hi < 10) (hne : ¬ lo = hi) (rl : Gp lo = lo) (rh : Gp hi = hi) :
    cinv (jone Gp Tt lo hi).1 (jone Gp Tt lo hi).2.1 ∧ rep (jone Gp Tt lo hi).1 (jone Gp Tt lo hi).2.2.1 ∧ rep (jone Gp Tt lo hi).1 (jone Gp Tt lo hi).2.2.2 ∧ gcn (jone Gp Tt lo hi).1 10 + 1 ≤ gcn Gp 10 ∧ pnc Tt 10 ≤ pnc (jone Gp Tt lo hi).2.1 10 + 1 := by
  have eG : ∀ k, k < 10 → renN Gp hi lo 10 k = if Gp k = hi then lo else Gp k := fun k hk => by simp [renN, hk]
  have eT : ∀ k, k < 10 → renO Tt hi lo 10 k = if Tt k = some hi then some lo else Tt k := fun k hk => by simp [renO, hk]
  have gl : renN Gp hi lo 10 lo = lo := by rw [eG lo hl, rl, if_neg hne]
  have gr : ∀ g, g < 10 → Gp g = g → ¬ g = hi → renN Gp hi lo 10 g = g := fun g hg e1 e2 => by rw [eG g hg, e1, if_neg e2]
  have rT : ∀ k, k < 10 → rep (renN Gp hi lo 10) (renO Tt hi lo 10 k) := by
    intro k hk g hg
    rw [eT k hk] at hg
    by_cases e : Tt k = some hi
    · rw [if_pos e] at hg; cases hg; exact ⟨hl, gl⟩
    · rw [if_neg e] at hg
      have h1 := h.2 k hk g hg
      exact ⟨h1.1, gr g h1.1 h1.2.1 (fun e2 => e (by rw [hg, e2]))⟩
  -- the targets behind the join
  have eT3 : ∀ k, k < 10 → (jone Gp Tt lo hi).2.1 k = if k = hi then none else if k = lo then (if renO Tt hi lo 10 lo = none then renO Tt hi lo 10 hi else renO Tt hi lo 10 lo) else renO Tt hi lo 10 k := by
    intro k hk
    show (if renO Tt hi lo 10 lo = none then va_up (va_up (renO Tt hi lo 10) hi none) lo (renO Tt hi lo 10 hi) else va_up (renO Tt hi lo 10) hi none) k = _
    by_cases e : renO Tt hi lo 10 lo = none
    · rw [if_pos e]
      by_cases k1 : k = lo
      · subst k1; rw [up_s, if_neg hne, if_pos rfl, if_pos e]
      · rw [up_n k1]
        by_cases k2 : k = hi
        · subst k2; rw [up_s, if_pos rfl]
        · rw [up_n k2, if_neg k2, if_neg k1]
    · rw [if_neg e]
      by_cases k2 : k = hi
      · subst k2; rw [up_s, if_pos rfl]
      · rw [up_n k2, if_neg k2]
        by_cases k1 : k = lo
        · subst k1; rw [if_pos rfl, if_neg e]
        · rw [if_neg k1]
  have key : ∀ k, k < 10 → ∀ g, (jone Gp Tt lo hi).2.1 k = some g → g < 10 ∧ renN Gp hi lo 10 g = g ∧ renN Gp hi lo 10 k = k := by
    intro k hk g hg
    rw [eT3 k hk] at hg
    by_cases k2 : k = hi
    · rw [if_pos k2] at hg; cases hg
    · rw [if_neg k2] at hg
      by_cases k1 : k = lo
      · rw [if_pos k1] at hg
        subst k1
        have h1 : rep (renN Gp hi k 10) (some g) := by
          rw [← hg]
          split
          · exact rT hi hh
          · exact rT k hk
        exact ⟨(h1 g rfl).1, (h1 g rfl).2, gl⟩
      · rw [if_neg k1] at hg
        have h1 := rT k hk g hg
        refine ⟨h1.1, h1.2, ?_⟩
        rw [eT k hk] at hg
        have hk2 : Gp k = k := by
          cases e : Tt k with
          | none => rw [e] at hg; simp at hg
          | some g2 => exact (h.2 k hk g2 e).2.2
        exact gr k hk hk2 k2
  have inv1 : ∀ k, k < 10 → renN Gp hi lo 10 k < 10 ∧ renN Gp hi lo 10 (renN Gp hi lo 10 k) = renN Gp hi lo 10 k := by
    intro k hk
    rw [eG k hk]
    by_cases e : Gp k = hi
    · rw [if_pos e]; exact ⟨hl, gl⟩
    · rw [if_neg e]; exact ⟨(h.1 k hk).1, gr _ (h.1 k hk).1 (h.1 k hk).2 e⟩
  refine ⟨⟨inv1, key⟩, rT lo hl, rT hi hh, ?_, ?_⟩
  · show gcn (renN Gp hi lo 10) 10 + 1 ≤ gcn Gp 10
    refine gcn_lt (x := hi) rh ?_ 10 hh ?_
    · rw [eG hi hh, rh, if_pos rfl]; exact hne
    · intro k hk e
      rw [eG k hk] at e
      by_cases e2 : Gp k = hi
      · rw [if_pos e2] at e; subst e; rw [rl] at e2; exact absurd e2 hne
      · rw [if_neg e2] at e; exact e
  · have h1 := (pnc_drop Tt hi 10).1
    have h2 : pnc (va_up Tt hi none) 10 ≤ pnc (jone Gp Tt lo hi).2.1 10 := by
      refine pnc_le 10 (fun k hk e => ?_)
      rw [eT3 k hk] at e
      by_cases k2 : k = hi
      · subst k2; rw [up_s]
      · rw [up_n k2]
        rw [if_neg k2] at e
        have nn : ∀ j, j < 10 → renO Tt hi lo 10 j = none → Tt j = none := fun j hj e3 => by
          rw [eT j hj] at e3
          by_cases e4 : Tt j = some hi
          · rw [if_pos e4] at e3; cases e3
          · rw [if_neg e4] at e3; exact e3
        by_cases k1 : k = lo
        · subst k1
          rw [if_pos rfl] at e
          by_cases e5 : renO Tt hi k 10 k = none
          · exact nn k hk e5
          · rw [if_neg e5] at e; exact absurd e e5
        · rw [if_neg k1] at e; exact nn k hk e
    omega
def jinv (q : jQ) : Prop := cinv q.1 q.2.1 ∧ rep q.1 q.2.2.1 ∧ rep q.1 q.2.2.2
theorem jstep_some {Gp : Nat → Nat} {Tt : Nat → Option Nat} {x y : Nat} (h : ¬ x = y) : jstep (Gp, Tt, some x, some y) = jone Gp Tt (min x y) (max x y) := by
  show (if x = y then _ else _) = _
  rw [if_neg h]
theorem jinv_step {q : jQ} (h : jinv q) : jinv (jstep q) ∧ (jstep q = q ∨ (gcn (jstep q).1 10 + 1 ≤ gcn q.1 10 ∧ pnc q.2.1 10 ≤ pnc (jstep q).2.1 10 + 1)) := by
  obtain ⟨Gp, Tt, a, b⟩ := q
  cases a with
  | none => exact ⟨h, Or.inl rfl⟩
  | some x =>
    cases b with
    | none => exact ⟨h, Or.inl rfl⟩
    | some y =>
      by_cases e : x = y
      · have e2 : jstep (Gp, Tt, some x, some y) = (Gp, Tt, some x, some y) := jstep_eq (Or.inl (by rw [e]))
        rw [e2]; exact ⟨h, Or.inl rfl⟩
      · rw [jstep_some e]
        have hx : x < 10 ∧ Gp x = x := h.2.1 x rfl
        have hy : y < 10 ∧ Gp y = y := h.2.2 y rfl
        have r1 : Gp (min x y) = min x y := by rcases Nat.le_total x y with h1 | h1 <;> simp [Nat.min_eq_left, Nat.min_eq_right, h1, hx.2, hy.2]
        have r2 : Gp (max x y) = max x y := by rcases Nat.le_total x y with h1 | h1 <;> simp [Nat.max_eq_left, Nat.max_eq_right, h1, hx.2, hy.2]
        obtain ⟨a1, a2, a3, a4, a5⟩ := jone_inv (lo := min x y) (hi := max x y) h.1 (by omega) (by omega) (by omega) r1 r2
        exact ⟨⟨a1, a2, a3⟩, Or.inr ⟨a4, a5⟩⟩
theorem jinv_it {q : jQ} (h : jinv q) : ∀ t, jinv (jit q t) ∧ 2 * gcn (jit q t).1 10 + pnc q.2.1 10 ≤ 2 * gcn q.1 10 + pnc (jit q t).2.1 10
  | 0 => ⟨h, Nat.le_refl _⟩
  | t + 1 => by
    obtain ⟨h1, h2⟩ := jinv_it h t
    obtain ⟨g1, g2⟩ := jinv_step h1
    refine ⟨g1, ?_⟩
    show 2 * gcn (jstep (jit q t)).1 10 + _ ≤ _ + pnc (jstep (jit q t)).2.1 10
    rcases g2 with g2 | g2
    · rw [g2]; exact h2
    · omega
theorem jit_add (q : jQ) (t : Nat) : ∀ d, jit q (t + d) = jit (jit q t) d
  | 0 => rfl
  | d + 1 => by
    show jstep (jit q (t + d)) = jstep (jit (jit q t) d)
    rw [jit_add q t d]
/-- a line's step: nothing changes, or the measure falls -/
theorem pt_inv {Gp : Nat → Nat} {Tt : Nat → Option Nat} (h : cinv Gp Tt) {f t : Option Nat} (hf : rep Gp f) (ht : rep Gp t) :
    cinv (pt Gp Tt f t).1 (pt Gp Tt f t).2.1 ∧ ((pt Gp Tt f t).2.2 = false ∧ (pt Gp Tt f t).1 = Gp ∧ (pt Gp Tt f t).2.1 = Tt ∨ (pt Gp Tt f t).2.2 = true ∧ 2 * gcn (pt Gp Tt f t).1 10 + pnc Tt 10 + 1 ≤ 2 * gcn Gp 10 + pnc (pt Gp Tt f t).2.1 10) := by
  cases f with
  | none => exact ⟨h, Or.inl ⟨rfl, rfl, rfl⟩⟩
  | some x =>
    cases t with
    | none => exact ⟨h, Or.inl ⟨rfl, rfl, rfl⟩⟩
    | some y =>
      have hx := hf x rfl
      have hy := ht y rfl
      by_cases e : Tt x = some y
      · have e1 : pt Gp Tt (some x) (some y) = (Gp, Tt, false) := by simp [pt, e]
        rw [e1]; exact ⟨h, Or.inl ⟨rfl, rfl, rfl⟩⟩
      · by_cases e2 : Tt x = none
        · have e1 : pt Gp Tt (some x) (some y) = (Gp, va_up Tt x (some y), true) := by simp [pt, e2]
          rw [e1]
          refine ⟨⟨h.1, fun k hk g hg => ?_⟩, Or.inr ⟨rfl, ?_⟩⟩
          · by_cases ek : k = x
            · subst ek
              have hg : va_up Tt k (some y) k = some g := hg
              rw [up_s] at hg; cases hg; exact ⟨hy.1, hy.2, hx.2⟩
            · have hg : va_up Tt x (some y) k = some g := hg
              rw [up_n ek] at hg; exact h.2 k hk g hg
          · show 2 * gcn Gp 10 + pnc Tt 10 + 1 ≤ 2 * gcn Gp 10 + pnc (va_up Tt x (some y)) 10
            have := pnc_set (y := y) e2 10 hx.1
            omega
        · obtain ⟨g, hg⟩ := Option.ne_none_iff_exists'.mp e2
          have hgr := h.2 x hx.1 g hg
          have hgy : ¬ g = y := fun e3 => e (by rw [hg, e3])
          have e1 : pt Gp Tt (some x) (some y) = ((jn Gp Tt (some g) (some y)).1, (jn Gp Tt (some g) (some y)).2.1, true) := by simp [pt, hg, hgy]
          rw [e1]
          have q0 : jinv (Gp, Tt, some g, some y) := ⟨h, fun a ha => by cases ha; exact ⟨hgr.1, hgr.2.1⟩, fun a ha => by cases ha; exact hy⟩
          obtain ⟨s1, s2⟩ := jinv_step q0
          have e9 : jn Gp Tt (some g) (some y) = jit (jstep (Gp, Tt, some g, some y)) 9 := jit_add (Gp, Tt, some g, some y) 1 9
          rw [e9]
          obtain ⟨i1, i2⟩ := jinv_it s1 9
          generalize jit (jstep (Gp, Tt, some g, some y)) 9 = Z at i1 i2 ⊢
          refine ⟨i1.1, Or.inr ⟨rfl, ?_⟩⟩
          rcases s2 with s2 | s2
          · rw [jstep_some hgy] at s2
            have h1 := jone_inv (lo := min g y) (hi := max g y) h (by omega) (by omega) (by omega)
              (by rcases Nat.le_total g y with h1 | h1 <;> simp [Nat.min_eq_left, Nat.min_eq_right, h1, hgr.2.1, hy.2])
              (by rcases Nat.le_total g y with h1 | h1 <;> simp [Nat.max_eq_left, Nat.max_eq_right, h1, hgr.2.1, hy.2])
            have h2 := h1.2.2.2.1
            rw [s2] at h2
            exact absurd h2 (by show ¬ gcn Gp 10 + 1 ≤ gcn Gp 10; omega)
          · show 2 * gcn Z.1 10 + pnc Tt 10 + 1 ≤ 2 * gcn Gp 10 + pnc Z.2.1 10
            have s3 : gcn (jstep (Gp, Tt, some g, some y)).1 10 + 1 ≤ gcn Gp 10 := s2.1
            have s4 : pnc Tt 10 ≤ pnc (jstep (Gp, Tt, some g, some y)).2.1 10 + 1 := s2.2
            omega
theorem rep_g {Gp : Nat → Nat} {Tt : Nat → Option Nat} (h : cinv Gp Tt) {k : Nat} (hk : k < 10) : rep Gp (some (Gp k)) := fun g hg => by cases hg; exact h.1 k hk
theorem rep_bind {Gp : Nat → Nat} {Tt : Nat → Option Nat} (h : cinv Gp Tt) {t : Option Nat} (ht : rep Gp t) : rep Gp (t.bind Tt) := by
  cases t with
  | none => exact fun g hg => by cases hg
  | some k => exact h.r (ht k rfl).1
theorem cst_inv {Gp : Nat → Nat} {Tt : Nat → Option Nat} (h : cinv Gp Tt) (v : Nat) :
    cinv (cst v Gp Tt).1 (cst v Gp Tt).2.1 ∧ ((cst v Gp Tt).2.2 = false ∧ (cst v Gp Tt).1 = Gp ∧ (cst v Gp Tt).2.1 = Tt ∨ (cst v Gp Tt).2.2 = true ∧ 2 * gcn (cst v Gp Tt).1 10 + pnc Tt 10 + 1 ≤ 2 * gcn Gp 10 + pnc (cst v Gp Tt).2.1 10) := by
  have hx : v / 10 % 10 < 10 := by omega
  have hy : v % 10 < 10 := by omega
  unfold cst
  by_cases h0 : v / 100 = 0
  · rw [if_pos h0]; exact pt_inv h (rep_g h hx) (rep_g h hy)
  · rw [if_neg h0]
    by_cases h1 : v / 100 = 1
    · rw [if_pos h1]; exact pt_inv h (rep_g h hx) (h.r (h.1 _ hy).1)
    · rw [if_neg h1]
      by_cases h2 : v / 100 = 2
      · rw [if_pos h2]; exact pt_inv h (rep_g h hx) (rep_bind h (h.r (h.1 _ hy).1))
      · rw [if_neg h2]; exact pt_inv h (h.r (h.1 _ hx).1) (h.r (h.1 _ hy).1)
theorem cp_inv {ln : Nat → Nat} {lo : Option Nat} {Gp : Nat → Nat} {Tt : Nat → Option Nat} (h : cinv Gp Tt) : ∀ i, cinv (cp ln lo Gp Tt i).1 (cp ln lo Gp Tt i).2.1 ∧ ((cp ln lo Gp Tt i).2.2 = false ∧ (cp ln lo Gp Tt i).1 = Gp ∧ (cp ln lo Gp Tt i).2.1 = Tt ∨ (cp ln lo Gp Tt i).2.2 = true ∧ 2 * gcn (cp ln lo Gp Tt i).1 10 + pnc Tt 10 + 1 ≤ 2 * gcn Gp 10 + pnc (cp ln lo Gp Tt i).2.1 10)
  | 0 => ⟨h, Or.inl ⟨rfl, rfl, rfl⟩⟩
  | i + 1 => by
    obtain ⟨h1, h2⟩ := cp_inv (ln := ln) (lo := lo) h i
    simp only [cp]
    by_cases e : some i = lo
    · rw [if_pos e]; exact ⟨h1, h2⟩
    · rw [if_neg e]
      obtain ⟨g1, g2⟩ := cst_inv h1 (ln i)
      refine ⟨g1, ?_⟩
      rcases g2 with ⟨a, b, d⟩ | ⟨a, b⟩
      · rcases h2 with ⟨a2, b2, d2⟩ | ⟨a2, b2⟩
        · left; exact ⟨by rw [a, a2]; rfl, b.trans b2, d.trans d2⟩
        · right
          refine ⟨by rw [a2]; rfl, ?_⟩
          show 2 * gcn (cst (ln i) (cp ln lo Gp Tt i).1 (cp ln lo Gp Tt i).2.1).1 10 + _ + 1 ≤ _ + pnc (cst (ln i) (cp ln lo Gp Tt i).1 (cp ln lo Gp Tt i).2.1).2.1 10
          rw [b, d]; exact b2
      · right
        refine ⟨by rw [a]; simp, ?_⟩
        show 2 * gcn (cst (ln i) (cp ln lo Gp Tt i).1 (cp ln lo Gp Tt i).2.1).1 10 + _ + 1 ≤ _ + pnc (cst (ln i) (cp ln lo Gp Tt i).1 (cp ln lo Gp Tt i).2.1).2.1 10
        rcases h2 with ⟨a2, b2, d2⟩ | ⟨a2, b2⟩
        · rw [b2, d2] at b ⊢; exact b
        · omega
theorem cinv_0 : cinv (fun k => k) (fun _ => none) := ⟨fun k hk => ⟨hk, rfl⟩, fun k hk g hg => by cases hg⟩
theorem gcn_id : gcn (fun k => k) 10 = 10 := by decide
theorem pnc_no : pnc (fun _ => none) 10 = 0 := by decide
theorem cit_inv {ln : Nat → Nat} {n : Nat} {lo : Option Nat} : ∀ j, cinv (cit ln n lo j).1 (cit ln n lo j).2.1
  | 0 => cinv_0
  | j + 1 => by
    have h1 := cit_inv (ln := ln) (n := n) (lo := lo) j
    simp only [cit]
    by_cases e : (cit ln n lo j).2.2 = true
    · rw [if_pos e]; exact (cp_inv h1 n).1
    · rw [if_neg e]; exact h1
theorem cit_cnt {ln : Nat → Nat} {n : Nat} {lo : Option Nat} : ∀ j, (∀ i, i ≤ j → (cit ln n lo i).2.2 = true) → 2 * gcn (cit ln n lo j).1 10 + j ≤ 20 + pnc (cit ln n lo j).2.1 10
  | 0, _ => by show 2 * gcn (fun k => k) 10 + 0 ≤ 20 + _; rw [gcn_id]; omega
  | j + 1, h => by
    have ih := cit_cnt j (fun i hi => h i (by omega))
    have hj := h j (by omega)
    have hj1 := h (j + 1) (Nat.le_refl _)
    simp only [cit] at hj1 ⊢
    rw [if_pos hj] at hj1 ⊢
    rcases (cp_inv (ln := ln) (lo := lo) (cit_inv (ln := ln) (n := n) (lo := lo) j) n).2 with ⟨a, -, -⟩ | ⟨-, b⟩
    · rw [a] at hj1; cases hj1
    · omega
/-- the passes come to rest, at most 21 of them -/
theorem cit_end (ln : Nat → Nat) (n : Nat) (lo : Option Nat) : ∃ J, J ≤ 21 ∧ (cit ln n lo J).2.2 = false ∧ (∀ j, j < J → (cit ln n lo j).2.2 = true) ∧ (cit ln n lo J).1 = coarG ln n lo ∧ (cit ln n lo J).2.1 = coarT ln n lo := by
  have hex : ∃ J, J ≤ 21 ∧ (cit ln n lo J).2.2 = false := by
    apply Classical.byContradiction
    intro hno
    have hall : ∀ i, i ≤ 21 → (cit ln n lo i).2.2 = true := by
      intro i hi
      cases h : (cit ln n lo i).2.2 with
      | true => rfl
      | false => exact absurd ⟨i, hi, h⟩ hno
    have h1 := cit_cnt 21 hall
    have h2 := pnc_gcn (cit_inv (ln := ln) (n := n) (lo := lo) 21) 10 (Nat.le_refl _)
    have h3 := gcn_b (cit ln n lo 21).1 10
    omega
  obtain ⟨J, ⟨hJ, hf⟩, hmin⟩ := pk_least (fun J => J ≤ 21 ∧ (cit ln n lo J).2.2 = false) hex
  have e := cit_stay hf (21 - J)
  rw [show J + (21 - J) = 21 by omega] at e
  refine ⟨J, hJ, hf, fun j hj => ?_, ?_, ?_⟩
  · cases h : (cit ln n lo j).2.2 with
    | true => rfl
    | false => exact absurd ⟨by omega, h⟩ (hmin j hj)
  · unfold coarG; rw [e]
  · unfold coarT; rw [e]
theorem coar_inv (ln : Nat → Nat) (n : Nat) (lo : Option Nat) : cinv (coarG ln n lo) (coarT ln n lo) := cit_inv 21
