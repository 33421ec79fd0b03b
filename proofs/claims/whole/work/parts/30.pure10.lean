theorem jone_T {Tt : Nat → Option Nat} {lo hi : Nat} (hne : ¬ lo = hi) : va_up (va_up (renO Tt hi lo 10) lo (if renO Tt hi lo 10 lo = none then renO Tt hi lo 10 hi else renO Tt hi lo 10 lo)) hi none = if renO Tt hi lo 10 lo = none then va_up (va_up (renO Tt hi lo 10) hi none) lo (renO Tt hi lo 10 hi) else va_up (renO Tt hi lo 10) hi none := by
  by_cases e : renO Tt hi lo 10 lo = none
  · rw [if_pos e, if_pos e]
    funext k
    by_cases k1 : k = hi
    · subst k1; rw [up_s, up_n (Ne.symm hne), up_s]
    · rw [up_n k1]
      by_cases k2 : k = lo
      · subst k2; rw [up_s, up_s]
      · rw [up_n k2, up_n k2, up_n k1]
  · rw [if_neg e, if_neg e, up_same (f := renO Tt hi lo 10) rfl]
theorem renO_lo {Tt : Nat → Option Nat} {hi lo k : Nat} (h : k < 10) : renO Tt hi lo 10 k = if Tt k = some hi then some lo else Tt k := by simp [renO, h]
/-- the join's loop, as the reference runs it -/
def jmi (q : jQ) (u : Nat × Nat × Nat) : Prop := u.1 + gcn (jit q u.1).1 10 ≤ 10 ∧ u.2.1 < 10 ∧ u.2.2 < 10 ∧ ((jit q u.1).2.2 = (some u.2.1, some u.2.2) ∨ (u.2.1 = u.2.2 ∧ jstep (jit q u.1) = jit q u.1))
theorem jmi_end {Gp : Nat → Nat} {Tt : Nat → Option Nat} {oa ob : Option Nat} {u : Nat × Nat × Nat} (h : jmi (Gp, Tt, oa, ob) u) (he : u.2.1 = u.2.2) : jn Gp Tt oa ob = jit (Gp, Tt, oa, ob) u.1 := by
  have hs : jstep (jit (Gp, Tt, oa, ob) u.1) = jit (Gp, Tt, oa, ob) u.1 := by
    rcases h.2.2.2 with h1 | h1
    · generalize jit (Gp, Tt, oa, ob) u.1 = Q at h1 ⊢
      obtain ⟨G1, T1, a, b⟩ := Q
      cases h1
      exact jstep_eq (Or.inl (by rw [he]))
    · exact h1.2
  have e := jit_stay hs (10 - u.1)
  have := h.1
  rw [show u.1 + (10 - u.1) = 10 by omega] at e
  exact e
