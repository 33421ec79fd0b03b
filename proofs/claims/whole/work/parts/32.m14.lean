set_option maxHeartbeats 4000000 in
set_option maxRecDepth 100000 in
theorem c_X7_joins (l : Launch) (E : gE) (mo ma0 ma1 ma2 ma4 ma5 ma7 ma9 ma10 ma11 ma12 ma15 ns mlen mm pl wm : Nat) (gw : Bool) (hh : Int64) (Gp : Nat → Nat) (Tt : Nat → Option Nat) (ja jb : Nat) (hci : cinv Gp Tt) (ha : ja < 10) (hb : jb < 10) (hra : Gp ja = ja) (hrb : Gp jb = jb) : FD l E yX7_joins cX7_joins 10 none { frames := 0, cells := 0, slots := 0, locals := 0 } [.ref mo, .int (nI ja), .int (nI jb)] [(mo, .inr (7, [.ref ma0, .ref ma1, .ref ma2, .int (nI ns), .ref ma4, .ref ma5, .int (nI mlen), .ref ma7, .int (bI gw), .ref ma9, .ref ma10, .ref ma11, .ref ma12, .int (nI mm), .int (nI pl), .ref ma15, .int (nI wm), .long hh])), (ma9, .inl (E.2.1, 10, .inl (aN Gp))), (ma10, .inl (E.2.1, 10, .inl (aO Tt)))] none [(mo, .inr (7, [.ref ma0, .ref ma1, .ref ma2, .int (nI ns), .ref ma4, .ref ma5, .int (nI mlen), .ref ma7, .int (bI true), .ref ma9, .ref ma10, .ref ma11, .ref ma12, .int (nI mm), .int (nI pl), .ref ma15, .int (nI wm), .long hh])), (ma9, .inl (E.2.1, 10, .inl (aN ((jn Gp Tt (some ja) (some jb)).1)))), (ma10, .inl (E.2.1, 10, .inl (aO ((jn Gp Tt (some ja) (some jb)).2.1))))] := by
  refine Fn_ofL (own := RX7) (by decide) rfl rfl [(0, .ref mo), (1, .int (nI ja)), (2, .int (nI jb))] rfl ?_
  intro p e s m below meth c A C hr hnm
  refine G_iload_n C dX7_joins_0 rfl 1 rfl ?_
  refine G_istore_n C dX7_joins_1 (by decide) [(3, .int (nI ja)), (0, .ref mo), (1, .int (nI ja)), (2, .int (nI jb))] rfl 2 rfl ?_
  refine G_iload_n C dX7_joins_2 rfl 3 rfl ?_
  refine G_istore C dX7_joins_3 (by decide) [(4, .int (nI jb)), (3, .int (nI ja)), (0, .ref mo), (1, .int (nI ja)), (2, .int (nI jb))] rfl 5 rfl ?_
  have hq0 : jinv (Gp, Tt, some ja, some jb) := ⟨hci, fun g hg => by cases hg; exact ⟨ha, hra⟩, fun g hg => by cases hg; exact ⟨hb, hrb⟩⟩
  refine G_sel [1, 0, 2] [(3, .int (nI ja)), (4, .int (nI jb)), (0, .ref mo)] rfl ?_
  refine G_while (X := Nat × Nat × Nat) (Wf := fun u => [(mo, .inr (7, [.ref ma0, .ref ma1, .ref ma2, .int (nI ns), .ref ma4, .ref ma5, .int (nI mlen), .ref ma7, .int (bI gw), .ref ma9, .ref ma10, .ref ma11, .ref ma12, .int (nI mm), .int (nI pl), .ref ma15, .int (nI wm), .long hh])), (ma9, .inl (E.2.1, 10, .inl (aN ((jit (Gp, Tt, some ja, some jb) u.1).1)))), (ma10, .inl (E.2.1, 10, .inl (aO ((jit (Gp, Tt, some ja, some jb) u.1).2.1))))]) (Lf := fun u => [(3, .int (nI u.2.1)), (4, .int (nI u.2.2)), (0, .ref mo)]) (Sf := fun _ => []) (fun u => jmi (Gp, Tt, some ja, some jb) u) (fun u => gcn (jit (Gp, Tt, some ja, some jb) u.1).1 10) (fun u hu ihu => ?_) (0, ja, jb) ⟨by show 0 + gcn Gp 10 ≤ 10; have := gcn_b Gp 10; omega, ha, hb, Or.inl rfl⟩
  obtain ⟨t, a, b⟩ := u
  refine G_eq (ws' := [(mo, .inr (7, [.ref ma0, .ref ma1, .ref ma2, .int (nI ns), .ref ma4, .ref ma5, .int (nI mlen), .ref ma7, .int (bI gw), .ref ma9, .ref ma10, .ref ma11, .ref ma12, .int (nI mm), .int (nI pl), .ref ma15, .int (nI wm), .long hh])), (ma9, .inl (E.2.1, 10, .inl (aN ((jit (Gp, Tt, some ja, some jb) t).1)))), (ma10, .inl (E.2.1, 10, .inl (aO ((jit (Gp, Tt, some ja, some jb) t).2.1))))]) (L' := [(3, .int (nI a)), (4, .int (nI b)), (0, .ref mo)]) rfl rfl rfl ?_
  have ha9 : a < 10 := hu.2.1
  have hb9 : b < 10 := hu.2.2.1
  refine G_iload_n C dX7_joins_5 rfl 6 rfl ?_
  refine G_iload C dX7_joins_6 rfl 8 rfl ?_
  refine G_icmp_eq C dX7_joins_8 239 rfl 11 rfl (nI_eq (by omega) (by omega)) (fun h_ab => ?_) (fun h_ab => ?_)
  · refine G_eq (ws' := [(mo, .inr (7, [.ref ma0, .ref ma1, .ref ma2, .int (nI ns), .ref ma4, .ref ma5, .int (nI mlen), .ref ma7, .int (bI gw), .ref ma9, .ref ma10, .ref ma11, .ref ma12, .int (nI mm), .int (nI pl), .ref ma15, .int (nI wm), .long hh])), (ma9, .inl (E.2.1, 10, .inl (aN ((jn Gp Tt (some ja) (some jb)).1)))), (ma10, .inl (E.2.1, 10, .inl (aO ((jn Gp Tt (some ja) (some jb)).2.1))))]) (by rw [jmi_end hu h_ab]) rfl rfl ?_
    refine G_aload_n C dX7_joins_239 rfl 240 rfl ?_
    refine G_iconst C dX7_joins_240 (v := nI 1) rfl 241 rfl ?_
    refine G_putf C dX7_joins_241 wF_X7 wf_X7_65 (f := 8) (by decide) (ci := 7) rfl tyX7_ok nmX7 rfl 0 rfl (by decide) (by decide) (Nat.le_of_ble_eq_true rfl) [(mo, .inr (7, [.ref ma0, .ref ma1, .ref ma2, .int (nI ns), .ref ma4, .ref ma5, .int (nI mlen), .ref ma7, .int (nI 1), .ref ma9, .ref ma10, .ref ma11, .ref ma12, .int (nI mm), .int (nI pl), .ref ma15, .int (nI wm), .long hh])), (ma9, .inl (E.2.1, 10, .inl (aN ((jn Gp Tt (some ja) (some jb)).1)))), (ma10, .inl (E.2.1, 10, .inl (aO ((jn Gp Tt (some ja) (some jb)).2.1))))] rfl 244 rfl ?_
    exact G_vret C hr dX7_joins_244 () trivial rfl rfl
  · obtain ⟨G1, T1, hQ⟩ : ∃ G1 T1, jit (Gp, Tt, some ja, some jb) t = (G1, T1, some a, some b) := by
      rcases hu.2.2.2 with h9 | h9
      · dsimp only at h9
        generalize jit (Gp, Tt, some ja, some jb) t = Q at h9 ⊢
        obtain ⟨G1, T1, a1, b1⟩ := Q
        cases h9
        exact ⟨G1, T1, rfl⟩
      · exact absurd h9.1 h_ab
    have hJ := (jinv_it hq0 t).1
    rw [hQ] at hJ
    have hc1 : cinv G1 T1 := hJ.1
    have hra1 : G1 a = a := (hJ.2.1 a rfl).2
    have hrb1 : G1 b = b := (hJ.2.2 b rfl).2
    refine G_eq (ws' := [(mo, .inr (7, [.ref ma0, .ref ma1, .ref ma2, .int (nI ns), .ref ma4, .ref ma5, .int (nI mlen), .ref ma7, .int (bI gw), .ref ma9, .ref ma10, .ref ma11, .ref ma12, .int (nI mm), .int (nI pl), .ref ma15, .int (nI wm), .long hh])), (ma9, .inl (E.2.1, 10, .inl (aN G1))), (ma10, .inl (E.2.1, 10, .inl (aO T1)))]) (by rw [hQ]) rfl rfl ?_
    refine G_join (X := Unit) (pcj := 23) (Wf := fun _ => [(mo, .inr (7, [.ref ma0, .ref ma1, .ref ma2, .int (nI ns), .ref ma4, .ref ma5, .int (nI mlen), .ref ma7, .int (bI gw), .ref ma9, .ref ma10, .ref ma11, .ref ma12, .int (nI mm), .int (nI pl), .ref ma15, .int (nI wm), .long hh])), (ma9, .inl (E.2.1, 10, .inl (aN G1))), (ma10, .inl (E.2.1, 10, .inl (aO T1)))]) (Lf := fun _ => [(3, .int (nI a)), (4, .int (nI b)), (0, .ref mo)]) (Sf := fun _ => [.int (nI (min a b))]) (fun _ => True) (fun _ _ => ?_) (fun K1 => ?_)
    · refine G_istore C dX7_joins_23 (by decide) [(5, .int (nI (min a b))), (3, .int (nI a)), (4, .int (nI b)), (0, .ref mo)] rfl 25 rfl ?_
      refine G_join (X := Unit) (pcj := 37) (Wf := fun _ => [(mo, .inr (7, [.ref ma0, .ref ma1, .ref ma2, .int (nI ns), .ref ma4, .ref ma5, .int (nI mlen), .ref ma7, .int (bI gw), .ref ma9, .ref ma10, .ref ma11, .ref ma12, .int (nI mm), .int (nI pl), .ref ma15, .int (nI wm), .long hh])), (ma9, .inl (E.2.1, 10, .inl (aN G1))), (ma10, .inl (E.2.1, 10, .inl (aO T1)))]) (Lf := fun _ => [(5, .int (nI (min a b))), (3, .int (nI a)), (4, .int (nI b)), (0, .ref mo)]) (Sf := fun _ => [.int (nI (max a b))]) (fun _ => True) (fun _ _ => ?_) (fun K2 => ?_)
      · refine G_istore C dX7_joins_37 (by decide) [(6, .int (nI (max a b))), (5, .int (nI (min a b))), (3, .int (nI a)), (4, .int (nI b)), (0, .ref mo)] rfl 39 rfl ?_
        obtain ⟨lo, elo⟩ : ∃ lo, lo = min a b := ⟨_, rfl⟩
        obtain ⟨hi, ehi⟩ : ∃ hi, hi = max a b := ⟨_, rfl⟩
        have hlo : lo < 10 := by omega
        have hhi : hi < 10 := by omega
        have hne : ¬ lo = hi := by omega
        have hrl : G1 lo = lo := by rcases Nat.le_total a b with h9 | h9; rw [elo, Nat.min_eq_left h9, hra1]; rw [elo, Nat.min_eq_right h9, hrb1]
        have hrh : G1 hi = hi := by rcases Nat.le_total a b with h9 | h9; rw [ehi, Nat.max_eq_right h9, hrb1]; rw [ehi, Nat.max_eq_left h9, hra1]
        have hjo := jone_inv hc1 hlo hhi hne hrl hrh
        refine G_eq (ws' := [(mo, .inr (7, [.ref ma0, .ref ma1, .ref ma2, .int (nI ns), .ref ma4, .ref ma5, .int (nI mlen), .ref ma7, .int (bI gw), .ref ma9, .ref ma10, .ref ma11, .ref ma12, .int (nI mm), .int (nI pl), .ref ma15, .int (nI wm), .long hh])), (ma9, .inl (E.2.1, 10, .inl (aN G1))), (ma10, .inl (E.2.1, 10, .inl (aO T1)))]) (L' := [(6, .int (nI hi)), (5, .int (nI lo)), (3, .int (nI a)), (4, .int (nI b)), (0, .ref mo)]) rfl (by rw [elo, ehi]) rfl ?_
        refine G_aload_n C dX7_joins_39 rfl 40 rfl ?_
        refine G_getf C dX7_joins_40 wF_X7 wf_X7_31 (f := 10) (by decide) (ci := 7) rfl 0 rfl rfl 43 rfl ?_
        refine G_iload C dX7_joins_43 rfl 45 rfl ?_
        refine G_ialdO C dX7_joins_45 2 rfl rfl (by omega) 46 rfl ?_
        refine G_istore C dX7_joins_46 (by decide) [(7, .int (oI (T1 lo))), (6, .int (nI hi)), (5, .int (nI lo)), (3, .int (nI a)), (4, .int (nI b)), (0, .ref mo)] rfl 48 rfl ?_
        refine G_aload_n C dX7_joins_48 rfl 49 rfl ?_
        refine G_getf C dX7_joins_49 wF_X7 wf_X7_31 (f := 10) (by decide) (ci := 7) rfl 0 rfl rfl 52 rfl ?_
        refine G_iload C dX7_joins_52 rfl 54 rfl ?_
        refine G_ialdO C dX7_joins_54 2 rfl rfl (by omega) 55 rfl ?_
        refine G_istore C dX7_joins_55 (by decide) [(8, .int (oI (T1 hi))), (7, .int (oI (T1 lo))), (6, .int (nI hi)), (5, .int (nI lo)), (3, .int (nI a)), (4, .int (nI b)), (0, .ref mo)] rfl 57 rfl ?_
        refine G_iconst C dX7_joins_57 (v := nI 0) rfl 58 rfl ?_
        refine G_istore C dX7_joins_58 (by decide) [(9, .int (nI 0)), (8, .int (oI (T1 hi))), (7, .int (oI (T1 lo))), (6, .int (nI hi)), (5, .int (nI lo)), (3, .int (nI a)), (4, .int (nI b)), (0, .ref mo)] rfl 60 rfl ?_
        refine G_eq (ws' := [(mo, .inr (7, [.ref ma0, .ref ma1, .ref ma2, .int (nI ns), .ref ma4, .ref ma5, .int (nI mlen), .ref ma7, .int (bI gw), .ref ma9, .ref ma10, .ref ma11, .ref ma12, .int (nI mm), .int (nI pl), .ref ma15, .int (nI wm), .long hh])), (ma9, .inl (E.2.1, 10, .inl (aN (renN G1 hi lo 0)))), (ma10, .inl (E.2.1, 10, .inl (aO (renO T1 hi lo 0))))]) (by rw [renN_0, renO_0]) rfl rfl ?_
        refine G_sel [0, 4, 3, 2, 1, 5, 6, 7] [(9, .int (nI 0)), (5, .int (nI lo)), (6, .int (nI hi)), (7, .int (oI (T1 lo))), (8, .int (oI (T1 hi))), (3, .int (nI a)), (4, .int (nI b)), (0, .ref mo)] rfl ?_
        refine G_while (X := Nat) (Wf := fun x => [(mo, .inr (7, [.ref ma0, .ref ma1, .ref ma2, .int (nI ns), .ref ma4, .ref ma5, .int (nI mlen), .ref ma7, .int (bI gw), .ref ma9, .ref ma10, .ref ma11, .ref ma12, .int (nI mm), .int (nI pl), .ref ma15, .int (nI wm), .long hh])), (ma9, .inl (E.2.1, 10, .inl (aN (renN G1 hi lo x)))), (ma10, .inl (E.2.1, 10, .inl (aO (renO T1 hi lo x))))]) (Lf := fun x => [(9, .int (nI x)), (5, .int (nI lo)), (6, .int (nI hi)), (7, .int (oI (T1 lo))), (8, .int (oI (T1 hi))), (3, .int (nI a)), (4, .int (nI b)), (0, .ref mo)]) (Sf := fun _ => []) (fun x => x ≤ 10) (fun x => 10 - x) (fun x hx9 ihx => ?_) 0 (by omega)
        refine G_iload C dX7_joins_60 rfl 62 rfl ?_
        refine G_bipush C dX7_joins_62 (v := nI 10) (by decide) 64 rfl ?_
        refine G_icmp_ge C dX7_joins_64 135 rfl 67 rfl (nI_leI (by omega) (by omega)) (fun h_1 => ?_) (fun h_1 => ?_)
        · refine G_eq (ws' := [(mo, .inr (7, [.ref ma0, .ref ma1, .ref ma2, .int (nI ns), .ref ma4, .ref ma5, .int (nI mlen), .ref ma7, .int (bI gw), .ref ma9, .ref ma10, .ref ma11, .ref ma12, .int (nI mm), .int (nI pl), .ref ma15, .int (nI wm), .long hh])), (ma9, .inl (E.2.1, 10, .inl (aN (renN G1 hi lo 10)))), (ma10, .inl (E.2.1, 10, .inl (aO (renO T1 hi lo 10))))]) (by rw [show x = 10 by omega]) rfl rfl ?_
          refine G_sel [1, 2, 3, 4, 5, 6, 7] [(5, .int (nI lo)), (6, .int (nI hi)), (7, .int (oI (T1 lo))), (8, .int (oI (T1 hi))), (3, .int (nI a)), (4, .int (nI b)), (0, .ref mo)] rfl ?_
          refine G_join (X := Unit) (pcj := 149) (Wf := fun _ => [(mo, .inr (7, [.ref ma0, .ref ma1, .ref ma2, .int (nI ns), .ref ma4, .ref ma5, .int (nI mlen), .ref ma7, .int (bI gw), .ref ma9, .ref ma10, .ref ma11, .ref ma12, .int (nI mm), .int (nI pl), .ref ma15, .int (nI wm), .long hh])), (ma9, .inl (E.2.1, 10, .inl (aN (renN G1 hi lo 10)))), (ma10, .inl (E.2.1, 10, .inl (aO (renO T1 hi lo 10))))]) (Lf := fun _ => [(5, .int (nI lo)), (6, .int (nI hi)), (7, .int (oI (T1 lo))), (8, .int (oI (T1 hi))), (3, .int (nI a)), (4, .int (nI b)), (0, .ref mo)]) (Sf := fun _ => [.int (oI (renO T1 hi lo 10 lo))]) (fun _ => True) (fun _ _ => ?_) (fun K3 => ?_)
          · refine G_istore C dX7_joins_149 (by decide) [(7, .int (oI (renO T1 hi lo 10 lo))), (5, .int (nI lo)), (6, .int (nI hi)), (8, .int (oI (T1 hi))), (3, .int (nI a)), (4, .int (nI b)), (0, .ref mo)] rfl 151 rfl ?_
            refine G_join (X := Unit) (pcj := 165) (Wf := fun _ => [(mo, .inr (7, [.ref ma0, .ref ma1, .ref ma2, .int (nI ns), .ref ma4, .ref ma5, .int (nI mlen), .ref ma7, .int (bI gw), .ref ma9, .ref ma10, .ref ma11, .ref ma12, .int (nI mm), .int (nI pl), .ref ma15, .int (nI wm), .long hh])), (ma9, .inl (E.2.1, 10, .inl (aN (renN G1 hi lo 10)))), (ma10, .inl (E.2.1, 10, .inl (aO (renO T1 hi lo 10))))]) (Lf := fun _ => [(7, .int (oI (renO T1 hi lo 10 lo))), (5, .int (nI lo)), (6, .int (nI hi)), (8, .int (oI (T1 hi))), (3, .int (nI a)), (4, .int (nI b)), (0, .ref mo)]) (Sf := fun _ => [.int (oI (renO T1 hi lo 10 hi))]) (fun _ => True) (fun _ _ => ?_) (fun K4 => ?_)
            · refine G_istore C dX7_joins_165 (by decide) [(8, .int (oI (renO T1 hi lo 10 hi))), (7, .int (oI (renO T1 hi lo 10 lo))), (5, .int (nI lo)), (6, .int (nI hi)), (3, .int (nI a)), (4, .int (nI b)), (0, .ref mo)] rfl 167 rfl ?_
              refine G_join (X := Unit) (pcj := 186) (Wf := fun _ => [(mo, .inr (7, [.ref ma0, .ref ma1, .ref ma2, .int (nI ns), .ref ma4, .ref ma5, .int (nI mlen), .ref ma7, .int (bI gw), .ref ma9, .ref ma10, .ref ma11, .ref ma12, .int (nI mm), .int (nI pl), .ref ma15, .int (nI wm), .long hh])), (ma9, .inl (E.2.1, 10, .inl (aN (renN G1 hi lo 10)))), (ma10, .inl (E.2.1, 10, .inl (aO (renO T1 hi lo 10))))]) (Lf := fun _ => [(8, .int (oI (renO T1 hi lo 10 hi))), (7, .int (oI (renO T1 hi lo 10 lo))), (5, .int (nI lo)), (6, .int (nI hi)), (3, .int (nI a)), (4, .int (nI b)), (0, .ref mo)]) (Sf := fun _ => [.int (oI (if renO T1 hi lo 10 lo = none then renO T1 hi lo 10 hi else renO T1 hi lo 10 lo)), .int (nI lo), .ref ma10]) (fun _ => True) (fun _ _ => ?_) (fun K5 => ?_)
              · refine G_iastO C dX7_joins_186 2 rfl rfl (x := if renO T1 hi lo 10 lo = none then renO T1 hi lo 10 hi else renO T1 hi lo 10 lo) (by omega) [(mo, .inr (7, [.ref ma0, .ref ma1, .ref ma2, .int (nI ns), .ref ma4, .ref ma5, .int (nI mlen), .ref ma7, .int (bI gw), .ref ma9, .ref ma10, .ref ma11, .ref ma12, .int (nI mm), .int (nI pl), .ref ma15, .int (nI wm), .long hh])), (ma9, .inl (E.2.1, 10, .inl (aN (renN G1 hi lo 10)))), (ma10, .inl (E.2.1, 10, .inl (aO (va_up (renO T1 hi lo 10) lo (if renO T1 hi lo 10 lo = none then renO T1 hi lo 10 hi else renO T1 hi lo 10 lo)))))] rfl 187 rfl ?_
                refine G_aload_n C dX7_joins_187 rfl 188 rfl ?_
                refine G_getf C dX7_joins_188 wF_X7 wf_X7_31 (f := 10) (by decide) (ci := 7) rfl 0 rfl rfl 191 rfl ?_
                refine G_iload C dX7_joins_191 rfl 193 rfl ?_
                refine G_iconst C dX7_joins_193 (v := oI none) rfl 194 rfl ?_
                refine G_iastO C dX7_joins_194 2 rfl rfl (x := none) (by omega) [(mo, .inr (7, [.ref ma0, .ref ma1, .ref ma2, .int (nI ns), .ref ma4, .ref ma5, .int (nI mlen), .ref ma7, .int (bI gw), .ref ma9, .ref ma10, .ref ma11, .ref ma12, .int (nI mm), .int (nI pl), .ref ma15, .int (nI wm), .long hh])), (ma9, .inl (E.2.1, 10, .inl (aN (renN G1 hi lo 10)))), (ma10, .inl (E.2.1, 10, .inl (aO (va_up (va_up (renO T1 hi lo 10) lo (if renO T1 hi lo 10 lo = none then renO T1 hi lo 10 hi else renO T1 hi lo 10 lo)) hi none))))] rfl 195 rfl ?_
                refine G_iload C dX7_joins_195 rfl 197 rfl ?_
                refine G_iconst C dX7_joins_197 (v := oI none) rfl 198 rfl ?_
                refine G_icmp_eq C dX7_joins_198 207 rfl 201 rfl (oI_none (hjo.2.1).o.b) (fun h_f => ?_) (fun h_f => ?_)
                · refine G_iload C dX7_joins_207 rfl 209 rfl ?_
                  refine G_goto C dX7_joins_209 214 rfl ?_
                  refine G_istore_n C dX7_joins_214 (by decide) [(3, .int (nI lo)), (8, .int (oI (renO T1 hi lo 10 hi))), (7, .int (oI (renO T1 hi lo 10 lo))), (5, .int (nI lo)), (6, .int (nI hi)), (4, .int (nI b)), (0, .ref mo)] rfl 215 rfl ?_
                  refine G_iload C dX7_joins_215 rfl 217 rfl ?_
                  refine G_iconst C dX7_joins_217 (v := oI none) rfl 218 rfl ?_
                  refine G_icmp_eq_t C dX7_joins_218 227 rfl ((oI_none (hjo.2.1).o.b).mpr h_f) ?_
                  refine G_iload C dX7_joins_227 rfl 229 rfl ?_
                  refine G_goto C dX7_joins_229 234 rfl ?_
                  refine G_istore C dX7_joins_234 (by decide) [(4, .int (nI lo)), (3, .int (nI lo)), (8, .int (oI (renO T1 hi lo 10 hi))), (7, .int (oI (renO T1 hi lo 10 lo))), (5, .int (nI lo)), (6, .int (nI hi)), (0, .ref mo)] rfl 236 rfl ?_
                  refine G_goto C dX7_joins_236 5 rfl ?_
                  have e : jit (Gp, Tt, some ja, some jb) (t + 1) = jone G1 T1 lo hi := by show jstep (jit (Gp, Tt, some ja, some jb) t) = _; rw [hQ, jstep_some h_ab, ← elo, ← ehi]
                  have hcnt : gcn (jone G1 T1 lo hi).1 10 + 1 ≤ gcn G1 10 := hjo.2.2.2.1
                  have hc0 : t + gcn G1 10 ≤ 10 := by have h9 := hu.1; dsimp only at h9; rw [hQ] at h9; exact h9
                  refine G_sel [1, 0, 6] [(3, .int (nI lo)), (4, .int (nI lo)), (0, .ref mo)] rfl ?_
                  refine G_eq (ws' := [(mo, .inr (7, [.ref ma0, .ref ma1, .ref ma2, .int (nI ns), .ref ma4, .ref ma5, .int (nI mlen), .ref ma7, .int (bI gw), .ref ma9, .ref ma10, .ref ma11, .ref ma12, .int (nI mm), .int (nI pl), .ref ma15, .int (nI wm), .long hh])), (ma9, .inl (E.2.1, 10, .inl (aN ((jit (Gp, Tt, some ja, some jb) (t + 1)).1)))), (ma10, .inl (E.2.1, 10, .inl (aO ((jit (Gp, Tt, some ja, some jb) (t + 1)).2.1))))]) (L' := [(3, .int (nI lo)), (4, .int (nI lo)), (0, .ref mo)]) (by rw [e, jone_T hne]; rfl) (by rfl) rfl ?_
                  exact ihu (t + 1, lo, lo) ⟨by show t + 1 + gcn (jit (Gp, Tt, some ja, some jb) (t + 1)).1 10 ≤ 10; rw [e]; omega, hlo, hlo, Or.inr ⟨rfl, by show jstep (jit (Gp, Tt, some ja, some jb) (t + 1)) = jit (Gp, Tt, some ja, some jb) (t + 1); rw [e]; exact jstep_eq (Or.inr (Or.inl h_f))⟩⟩ (by show gcn (jit (Gp, Tt, some ja, some jb) (t + 1)).1 10 < gcn (jit (Gp, Tt, some ja, some jb) t).1 10; rw [e, hQ]; exact hcnt)
                · refine G_iload C dX7_joins_201 rfl 203 rfl ?_
                  refine G_iconst C dX7_joins_203 (v := oI none) rfl 204 rfl ?_
                  refine G_icmp_ne C dX7_joins_204 212 rfl 207 rfl (oI_none (hjo.2.2.1).o.b) (fun h_s => ?_) (fun h_s => ?_)
                  · refine G_iload C dX7_joins_212 rfl 214 rfl ?_
                    refine G_istore_n C dX7_joins_214 (by decide) [(3, .int (oI (renO T1 hi lo 10 lo))), (8, .int (oI (renO T1 hi lo 10 hi))), (7, .int (oI (renO T1 hi lo 10 lo))), (5, .int (nI lo)), (6, .int (nI hi)), (4, .int (nI b)), (0, .ref mo)] rfl 215 rfl ?_
                    refine G_iload C dX7_joins_215 rfl 217 rfl ?_
                    refine G_iconst C dX7_joins_217 (v := oI none) rfl 218 rfl ?_
                    refine G_icmp_eq_f C dX7_joins_218 227 rfl 221 rfl (fun h9 => h_f ((oI_none (hjo.2.1).o.b).mp h9)) ?_
                    refine G_iload C dX7_joins_221 rfl 223 rfl ?_
                    refine G_iconst C dX7_joins_223 (v := oI none) rfl 224 rfl ?_
                    refine G_icmp_ne_t C dX7_joins_224 232 rfl (fun h9 => h_s ((oI_none (hjo.2.2.1).o.b).mp h9)) ?_
                    refine G_iload C dX7_joins_232 rfl 234 rfl ?_
                    refine G_istore C dX7_joins_234 (by decide) [(4, .int (oI (renO T1 hi lo 10 hi))), (3, .int (oI (renO T1 hi lo 10 lo))), (8, .int (oI (renO T1 hi lo 10 hi))), (7, .int (oI (renO T1 hi lo 10 lo))), (5, .int (nI lo)), (6, .int (nI hi)), (0, .ref mo)] rfl 236 rfl ?_
                    refine G_goto C dX7_joins_236 5 rfl ?_
                    have e : jit (Gp, Tt, some ja, some jb) (t + 1) = jone G1 T1 lo hi := by show jstep (jit (Gp, Tt, some ja, some jb) t) = _; rw [hQ, jstep_some h_ab, ← elo, ← ehi]
                    have hcnt : gcn (jone G1 T1 lo hi).1 10 + 1 ≤ gcn G1 10 := hjo.2.2.2.1
                    have hc0 : t + gcn G1 10 ≤ 10 := by have h9 := hu.1; dsimp only at h9; rw [hQ] at h9; exact h9
                    obtain ⟨x, ex⟩ := Option.ne_none_iff_exists'.mp h_f
                    obtain ⟨y, ey⟩ := Option.ne_none_iff_exists'.mp h_s
                    have hx9 := hjo.2.1 x ex
                    have hy9 := hjo.2.2.1 y ey
                    refine G_sel [1, 0, 6] [(3, .int (oI (renO T1 hi lo 10 lo))), (4, .int (oI (renO T1 hi lo 10 hi))), (0, .ref mo)] rfl ?_
                    refine G_eq (ws' := [(mo, .inr (7, [.ref ma0, .ref ma1, .ref ma2, .int (nI ns), .ref ma4, .ref ma5, .int (nI mlen), .ref ma7, .int (bI gw), .ref ma9, .ref ma10, .ref ma11, .ref ma12, .int (nI mm), .int (nI pl), .ref ma15, .int (nI wm), .long hh])), (ma9, .inl (E.2.1, 10, .inl (aN ((jit (Gp, Tt, some ja, some jb) (t + 1)).1)))), (ma10, .inl (E.2.1, 10, .inl (aO ((jit (Gp, Tt, some ja, some jb) (t + 1)).2.1))))]) (L' := [(3, .int (nI x)), (4, .int (nI y)), (0, .ref mo)]) (by rw [e, jone_T hne]; rfl) (by rw [ex, ey]; rfl) rfl ?_
                    exact ihu (t + 1, x, y) ⟨by show t + 1 + gcn (jit (Gp, Tt, some ja, some jb) (t + 1)).1 10 ≤ 10; rw [e]; omega, hx9.1, hy9.1, Or.inl (by show (jit (Gp, Tt, some ja, some jb) (t + 1)).2.2 = (some x, some y); rw [e, ← ex, ← ey]; rfl)⟩ (by show gcn (jit (Gp, Tt, some ja, some jb) (t + 1)).1 10 < gcn (jit (Gp, Tt, some ja, some jb) t).1 10; rw [e, hQ]; exact hcnt)
                  · refine G_iload C dX7_joins_207 rfl 209 rfl ?_
                    refine G_goto C dX7_joins_209 214 rfl ?_
                    refine G_istore_n C dX7_joins_214 (by decide) [(3, .int (nI lo)), (8, .int (oI (renO T1 hi lo 10 hi))), (7, .int (oI (renO T1 hi lo 10 lo))), (5, .int (nI lo)), (6, .int (nI hi)), (4, .int (nI b)), (0, .ref mo)] rfl 215 rfl ?_
                    refine G_iload C dX7_joins_215 rfl 217 rfl ?_
                    refine G_iconst C dX7_joins_217 (v := oI none) rfl 218 rfl ?_
                    refine G_icmp_eq_f C dX7_joins_218 227 rfl 221 rfl (fun h9 => h_f ((oI_none (hjo.2.1).o.b).mp h9)) ?_
                    refine G_iload C dX7_joins_221 rfl 223 rfl ?_
                    refine G_iconst C dX7_joins_223 (v := oI none) rfl 224 rfl ?_
                    refine G_icmp_ne_f C dX7_joins_224 232 rfl 227 rfl ((oI_none (hjo.2.2.1).o.b).mpr h_s) ?_
                    refine G_iload C dX7_joins_227 rfl 229 rfl ?_
                    refine G_goto C dX7_joins_229 234 rfl ?_
                    refine G_istore C dX7_joins_234 (by decide) [(4, .int (nI lo)), (3, .int (nI lo)), (8, .int (oI (renO T1 hi lo 10 hi))), (7, .int (oI (renO T1 hi lo 10 lo))), (5, .int (nI lo)), (6, .int (nI hi)), (0, .ref mo)] rfl 236 rfl ?_
                    refine G_goto C dX7_joins_236 5 rfl ?_
                    have e : jit (Gp, Tt, some ja, some jb) (t + 1) = jone G1 T1 lo hi := by show jstep (jit (Gp, Tt, some ja, some jb) t) = _; rw [hQ, jstep_some h_ab, ← elo, ← ehi]
                    have hcnt : gcn (jone G1 T1 lo hi).1 10 + 1 ≤ gcn G1 10 := hjo.2.2.2.1
                    have hc0 : t + gcn G1 10 ≤ 10 := by have h9 := hu.1; dsimp only at h9; rw [hQ] at h9; exact h9
                    refine G_sel [1, 0, 6] [(3, .int (nI lo)), (4, .int (nI lo)), (0, .ref mo)] rfl ?_
                    refine G_eq (ws' := [(mo, .inr (7, [.ref ma0, .ref ma1, .ref ma2, .int (nI ns), .ref ma4, .ref ma5, .int (nI mlen), .ref ma7, .int (bI gw), .ref ma9, .ref ma10, .ref ma11, .ref ma12, .int (nI mm), .int (nI pl), .ref ma15, .int (nI wm), .long hh])), (ma9, .inl (E.2.1, 10, .inl (aN ((jit (Gp, Tt, some ja, some jb) (t + 1)).1)))), (ma10, .inl (E.2.1, 10, .inl (aO ((jit (Gp, Tt, some ja, some jb) (t + 1)).2.1))))]) (L' := [(3, .int (nI lo)), (4, .int (nI lo)), (0, .ref mo)]) (by rw [e, jone_T hne]; rfl) (by rfl) rfl ?_
                    exact ihu (t + 1, lo, lo) ⟨by show t + 1 + gcn (jit (Gp, Tt, some ja, some jb) (t + 1)).1 10 ≤ 10; rw [e]; omega, hlo, hlo, Or.inr ⟨rfl, by show jstep (jit (Gp, Tt, some ja, some jb) (t + 1)) = jit (Gp, Tt, some ja, some jb) (t + 1); rw [e]; exact jstep_eq (Or.inr (Or.inr h_s))⟩⟩ (by show gcn (jit (Gp, Tt, some ja, some jb) (t + 1)).1 10 < gcn (jit (Gp, Tt, some ja, some jb) t).1 10; rw [e, hQ]; exact hcnt)
              · refine G_aload_n C dX7_joins_167 rfl 168 rfl ?_
                refine G_getf C dX7_joins_168 wF_X7 wf_X7_31 (f := 10) (by decide) (ci := 7) rfl 0 rfl rfl 171 rfl ?_
                refine G_iload C dX7_joins_171 rfl 173 rfl ?_
                refine G_iload C dX7_joins_173 rfl 175 rfl ?_
                refine G_iconst C dX7_joins_175 (v := oI none) rfl 176 rfl ?_
                refine G_icmp_ne C dX7_joins_176 184 rfl 179 rfl (oI_none (hjo.2.1).o.b) (fun h_6 => ?_) (fun h_6 => ?_)
                · refine G_iload C dX7_joins_184 rfl 186 rfl ?_
                  refine G_top (v' := .int (oI (if renO T1 hi lo 10 lo = none then renO T1 hi lo 10 hi else renO T1 hi lo 10 lo))) (by rw [if_neg h_6]) ?_
                  exact K5 () trivial
                · refine G_iload C dX7_joins_179 rfl 181 rfl ?_
                  refine G_goto C dX7_joins_181 186 rfl ?_
                  refine G_top (v' := .int (oI (if renO T1 hi lo 10 lo = none then renO T1 hi lo 10 hi else renO T1 hi lo 10 lo))) (by rw [if_pos h_6]) ?_
                  exact K5 () trivial
            · refine G_iload C dX7_joins_151 rfl 153 rfl ?_
              refine G_iload C dX7_joins_153 rfl 155 rfl ?_
              refine G_icmp_ne C dX7_joins_155 163 rfl 158 rfl (oI_eq (t := T1 hi) (u := some hi) (hc1.t hi hhi).b (ook.b (ook_s hhi))) (fun h_5 => ?_) (fun h_5 => ?_)
              · refine G_iload C dX7_joins_163 rfl 165 rfl ?_
                refine G_top (v' := .int (oI (renO T1 hi lo 10 hi))) (by rw [renO_lo hhi, if_neg h_5]) ?_
                exact K4 () trivial
              · refine G_iload C dX7_joins_158 rfl 160 rfl ?_
                refine G_goto C dX7_joins_160 165 rfl ?_
                refine G_top (v' := .int (oI (renO T1 hi lo 10 hi))) (by rw [renO_lo hhi, if_pos h_5]; rfl) ?_
                exact K4 () trivial
          · refine G_iload C dX7_joins_135 rfl 137 rfl ?_
            refine G_iload C dX7_joins_137 rfl 139 rfl ?_
            refine G_icmp_ne C dX7_joins_139 147 rfl 142 rfl (oI_eq (t := T1 lo) (u := some hi) (hc1.t lo hlo).b (ook.b (ook_s hhi))) (fun h_4 => ?_) (fun h_4 => ?_)
            · refine G_iload C dX7_joins_147 rfl 149 rfl ?_
              refine G_top (v' := .int (oI (renO T1 hi lo 10 lo))) (by rw [renO_lo hlo, if_neg h_4]) ?_
              exact K3 () trivial
            · refine G_iload C dX7_joins_142 rfl 144 rfl ?_
              refine G_goto C dX7_joins_144 149 rfl ?_
              refine G_top (v' := .int (oI (renO T1 hi lo 10 lo))) (by rw [renO_lo hlo, if_pos h_4]; rfl) ?_
              exact K3 () trivial
        · refine G_aload_n C dX7_joins_67 rfl 68 rfl ?_
          refine G_getf C dX7_joins_68 wF_X7 wf_X7_28 (f := 9) (by decide) (ci := 7) rfl 0 rfl rfl 71 rfl ?_
          refine G_iload C dX7_joins_71 rfl 73 rfl ?_
          refine G_aload_n C dX7_joins_73 rfl 74 rfl ?_
          refine G_getf C dX7_joins_74 wF_X7 wf_X7_28 (f := 9) (by decide) (ci := 7) rfl 0 rfl rfl 77 rfl ?_
          refine G_iload C dX7_joins_77 rfl 79 rfl ?_
          refine G_ialdN C dX7_joins_79 1 rfl rfl (by omega) 80 rfl ?_
          refine G_iload C dX7_joins_80 rfl 82 rfl ?_
          refine G_icmp_ne C dX7_joins_82 90 rfl 85 rfl (show nI (renN G1 hi lo x x) = nI hi ↔ G1 x = hi by rw [renN_at]; exact nI_eq (Nat.lt_trans (hc1.g x (by omega)) (by decide)) (by omega)) (fun h_2 => ?_) (fun h_2 => ?_)
          · refine G_aload_n C dX7_joins_90 rfl 91 rfl ?_
            refine G_getf C dX7_joins_91 wF_X7 wf_X7_28 (f := 9) (by decide) (ci := 7) rfl 0 rfl rfl 94 rfl ?_
            refine G_iload C dX7_joins_94 rfl 96 rfl ?_
            refine G_ialdN C dX7_joins_96 1 rfl rfl (by omega) 97 rfl ?_
            refine G_iastN C dX7_joins_97 1 rfl rfl (x := (renN G1 hi lo x) x) (by omega) [(mo, .inr (7, [.ref ma0, .ref ma1, .ref ma2, .int (nI ns), .ref ma4, .ref ma5, .int (nI mlen), .ref ma7, .int (bI gw), .ref ma9, .ref ma10, .ref ma11, .ref ma12, .int (nI mm), .int (nI pl), .ref ma15, .int (nI wm), .long hh])), (ma9, .inl (E.2.1, 10, .inl (aN (va_up (renN G1 hi lo x) x ((renN G1 hi lo x) x))))), (ma10, .inl (E.2.1, 10, .inl (aO (renO T1 hi lo x))))] rfl 98 rfl ?_
            refine G_aload_n C dX7_joins_98 rfl 99 rfl ?_
            refine G_getf C dX7_joins_99 wF_X7 wf_X7_31 (f := 10) (by decide) (ci := 7) rfl 0 rfl rfl 102 rfl ?_
            refine G_iload C dX7_joins_102 rfl 104 rfl ?_
            refine G_aload_n C dX7_joins_104 rfl 105 rfl ?_
            refine G_getf C dX7_joins_105 wF_X7 wf_X7_31 (f := 10) (by decide) (ci := 7) rfl 0 rfl rfl 108 rfl ?_
            refine G_iload C dX7_joins_108 rfl 110 rfl ?_
            refine G_ialdO C dX7_joins_110 2 rfl rfl (by omega) 111 rfl ?_
            refine G_iload C dX7_joins_111 rfl 113 rfl ?_
            refine G_icmp_ne C dX7_joins_113 121 rfl 116 rfl (show oI (renO T1 hi lo x x) = nI hi ↔ T1 x = some hi by rw [renO_at]; exact oI_eq (t := T1 x) (u := some hi) (hc1.t x (by omega)).b (ook.b (ook_s hhi))) (fun h_3 => ?_) (fun h_3 => ?_)
            · refine G_aload_n C dX7_joins_121 rfl 122 rfl ?_
              refine G_getf C dX7_joins_122 wF_X7 wf_X7_31 (f := 10) (by decide) (ci := 7) rfl 0 rfl rfl 125 rfl ?_
              refine G_iload C dX7_joins_125 rfl 127 rfl ?_
              refine G_ialdO C dX7_joins_127 2 rfl rfl (by omega) 128 rfl ?_
              refine G_iastO C dX7_joins_128 2 rfl rfl (x := (renO T1 hi lo x) x) (by omega) [(mo, .inr (7, [.ref ma0, .ref ma1, .ref ma2, .int (nI ns), .ref ma4, .ref ma5, .int (nI mlen), .ref ma7, .int (bI gw), .ref ma9, .ref ma10, .ref ma11, .ref ma12, .int (nI mm), .int (nI pl), .ref ma15, .int (nI wm), .long hh])), (ma9, .inl (E.2.1, 10, .inl (aN (va_up (renN G1 hi lo x) x ((renN G1 hi lo x) x))))), (ma10, .inl (E.2.1, 10, .inl (aO (va_up (renO T1 hi lo x) x ((renO T1 hi lo x) x)))))] rfl 129 rfl ?_
              refine G_iinc C dX7_joins_129 0 rfl (nI_1 _) (by decide) [(9, .int (nI (x + 1))), (5, .int (nI lo)), (6, .int (nI hi)), (7, .int (oI (T1 lo))), (8, .int (oI (T1 hi))), (3, .int (nI a)), (4, .int (nI b)), (0, .ref mo)] rfl 132 rfl ?_
              refine G_goto C dX7_joins_132 60 rfl ?_
              refine G_eq (ws' := [(mo, .inr (7, [.ref ma0, .ref ma1, .ref ma2, .int (nI ns), .ref ma4, .ref ma5, .int (nI mlen), .ref ma7, .int (bI gw), .ref ma9, .ref ma10, .ref ma11, .ref ma12, .int (nI mm), .int (nI pl), .ref ma15, .int (nI wm), .long hh])), (ma9, .inl (E.2.1, 10, .inl (aN (renN G1 hi lo (x + 1))))), (ma10, .inl (E.2.1, 10, .inl (aO (renO T1 hi lo (x + 1)))))]) (by rw [up_same (f := renN G1 hi lo x) rfl, renN_s0 h_2, up_same (f := renO T1 hi lo x) rfl, renO_s0 h_3]) rfl rfl ?_
              exact ihx (x + 1) (by omega) (by omega)
            · refine G_iload C dX7_joins_116 rfl 118 rfl ?_
              refine G_goto C dX7_joins_118 128 rfl ?_
              refine G_iastO C dX7_joins_128 2 rfl rfl (x := some lo) (by omega) [(mo, .inr (7, [.ref ma0, .ref ma1, .ref ma2, .int (nI ns), .ref ma4, .ref ma5, .int (nI mlen), .ref ma7, .int (bI gw), .ref ma9, .ref ma10, .ref ma11, .ref ma12, .int (nI mm), .int (nI pl), .ref ma15, .int (nI wm), .long hh])), (ma9, .inl (E.2.1, 10, .inl (aN (va_up (renN G1 hi lo x) x ((renN G1 hi lo x) x))))), (ma10, .inl (E.2.1, 10, .inl (aO (va_up (renO T1 hi lo x) x (some lo)))))] rfl 129 rfl ?_
              refine G_iinc C dX7_joins_129 0 rfl (nI_1 _) (by decide) [(9, .int (nI (x + 1))), (5, .int (nI lo)), (6, .int (nI hi)), (7, .int (oI (T1 lo))), (8, .int (oI (T1 hi))), (3, .int (nI a)), (4, .int (nI b)), (0, .ref mo)] rfl 132 rfl ?_
              refine G_goto C dX7_joins_132 60 rfl ?_
              refine G_eq (ws' := [(mo, .inr (7, [.ref ma0, .ref ma1, .ref ma2, .int (nI ns), .ref ma4, .ref ma5, .int (nI mlen), .ref ma7, .int (bI gw), .ref ma9, .ref ma10, .ref ma11, .ref ma12, .int (nI mm), .int (nI pl), .ref ma15, .int (nI wm), .long hh])), (ma9, .inl (E.2.1, 10, .inl (aN (renN G1 hi lo (x + 1))))), (ma10, .inl (E.2.1, 10, .inl (aO (renO T1 hi lo (x + 1)))))]) (by rw [up_same (f := renN G1 hi lo x) rfl, renN_s0 h_2, renO_s1 h_3]) rfl rfl ?_
              exact ihx (x + 1) (by omega) (by omega)
          · refine G_iload C dX7_joins_85 rfl 87 rfl ?_
            refine G_goto C dX7_joins_87 97 rfl ?_
            refine G_iastN C dX7_joins_97 1 rfl rfl (x := lo) (by omega) [(mo, .inr (7, [.ref ma0, .ref ma1, .ref ma2, .int (nI ns), .ref ma4, .ref ma5, .int (nI mlen), .ref ma7, .int (bI gw), .ref ma9, .ref ma10, .ref ma11, .ref ma12, .int (nI mm), .int (nI pl), .ref ma15, .int (nI wm), .long hh])), (ma9, .inl (E.2.1, 10, .inl (aN (va_up (renN G1 hi lo x) x lo)))), (ma10, .inl (E.2.1, 10, .inl (aO (renO T1 hi lo x))))] rfl 98 rfl ?_
            refine G_aload_n C dX7_joins_98 rfl 99 rfl ?_
            refine G_getf C dX7_joins_99 wF_X7 wf_X7_31 (f := 10) (by decide) (ci := 7) rfl 0 rfl rfl 102 rfl ?_
            refine G_iload C dX7_joins_102 rfl 104 rfl ?_
            refine G_aload_n C dX7_joins_104 rfl 105 rfl ?_
            refine G_getf C dX7_joins_105 wF_X7 wf_X7_31 (f := 10) (by decide) (ci := 7) rfl 0 rfl rfl 108 rfl ?_
            refine G_iload C dX7_joins_108 rfl 110 rfl ?_
            refine G_ialdO C dX7_joins_110 2 rfl rfl (by omega) 111 rfl ?_
            refine G_iload C dX7_joins_111 rfl 113 rfl ?_
            refine G_icmp_ne C dX7_joins_113 121 rfl 116 rfl (show oI (renO T1 hi lo x x) = nI hi ↔ T1 x = some hi by rw [renO_at]; exact oI_eq (t := T1 x) (u := some hi) (hc1.t x (by omega)).b (ook.b (ook_s hhi))) (fun h_3 => ?_) (fun h_3 => ?_)
            · refine G_aload_n C dX7_joins_121 rfl 122 rfl ?_
              refine G_getf C dX7_joins_122 wF_X7 wf_X7_31 (f := 10) (by decide) (ci := 7) rfl 0 rfl rfl 125 rfl ?_
              refine G_iload C dX7_joins_125 rfl 127 rfl ?_
              refine G_ialdO C dX7_joins_127 2 rfl rfl (by omega) 128 rfl ?_
              refine G_iastO C dX7_joins_128 2 rfl rfl (x := (renO T1 hi lo x) x) (by omega) [(mo, .inr (7, [.ref ma0, .ref ma1, .ref ma2, .int (nI ns), .ref ma4, .ref ma5, .int (nI mlen), .ref ma7, .int (bI gw), .ref ma9, .ref ma10, .ref ma11, .ref ma12, .int (nI mm), .int (nI pl), .ref ma15, .int (nI wm), .long hh])), (ma9, .inl (E.2.1, 10, .inl (aN (va_up (renN G1 hi lo x) x lo)))), (ma10, .inl (E.2.1, 10, .inl (aO (va_up (renO T1 hi lo x) x ((renO T1 hi lo x) x)))))] rfl 129 rfl ?_
              refine G_iinc C dX7_joins_129 0 rfl (nI_1 _) (by decide) [(9, .int (nI (x + 1))), (5, .int (nI lo)), (6, .int (nI hi)), (7, .int (oI (T1 lo))), (8, .int (oI (T1 hi))), (3, .int (nI a)), (4, .int (nI b)), (0, .ref mo)] rfl 132 rfl ?_
              refine G_goto C dX7_joins_132 60 rfl ?_
              refine G_eq (ws' := [(mo, .inr (7, [.ref ma0, .ref ma1, .ref ma2, .int (nI ns), .ref ma4, .ref ma5, .int (nI mlen), .ref ma7, .int (bI gw), .ref ma9, .ref ma10, .ref ma11, .ref ma12, .int (nI mm), .int (nI pl), .ref ma15, .int (nI wm), .long hh])), (ma9, .inl (E.2.1, 10, .inl (aN (renN G1 hi lo (x + 1))))), (ma10, .inl (E.2.1, 10, .inl (aO (renO T1 hi lo (x + 1)))))]) (by rw [renN_s1 h_2, up_same (f := renO T1 hi lo x) rfl, renO_s0 h_3]) rfl rfl ?_
              exact ihx (x + 1) (by omega) (by omega)
            · refine G_iload C dX7_joins_116 rfl 118 rfl ?_
              refine G_goto C dX7_joins_118 128 rfl ?_
              refine G_iastO C dX7_joins_128 2 rfl rfl (x := some lo) (by omega) [(mo, .inr (7, [.ref ma0, .ref ma1, .ref ma2, .int (nI ns), .ref ma4, .ref ma5, .int (nI mlen), .ref ma7, .int (bI gw), .ref ma9, .ref ma10, .ref ma11, .ref ma12, .int (nI mm), .int (nI pl), .ref ma15, .int (nI wm), .long hh])), (ma9, .inl (E.2.1, 10, .inl (aN (va_up (renN G1 hi lo x) x lo)))), (ma10, .inl (E.2.1, 10, .inl (aO (va_up (renO T1 hi lo x) x (some lo)))))] rfl 129 rfl ?_
              refine G_iinc C dX7_joins_129 0 rfl (nI_1 _) (by decide) [(9, .int (nI (x + 1))), (5, .int (nI lo)), (6, .int (nI hi)), (7, .int (oI (T1 lo))), (8, .int (oI (T1 hi))), (3, .int (nI a)), (4, .int (nI b)), (0, .ref mo)] rfl 132 rfl ?_
              refine G_goto C dX7_joins_132 60 rfl ?_
              refine G_eq (ws' := [(mo, .inr (7, [.ref ma0, .ref ma1, .ref ma2, .int (nI ns), .ref ma4, .ref ma5, .int (nI mlen), .ref ma7, .int (bI gw), .ref ma9, .ref ma10, .ref ma11, .ref ma12, .int (nI mm), .int (nI pl), .ref ma15, .int (nI wm), .long hh])), (ma9, .inl (E.2.1, 10, .inl (aN (renN G1 hi lo (x + 1))))), (ma10, .inl (E.2.1, 10, .inl (aO (renO T1 hi lo (x + 1)))))]) (by rw [renN_s1 h_2, renO_s1 h_3]) rfl rfl ?_
              exact ihx (x + 1) (by omega) (by omega)
      · refine G_iload_n C dX7_joins_25 rfl 26 rfl ?_
        refine G_iload C dX7_joins_26 rfl 28 rfl ?_
        refine G_icmp_ge C dX7_joins_28 36 rfl 31 rfl (nI_leI (by omega) (by omega)) (fun h_8 => ?_) (fun h_8 => ?_)
        · refine G_iload_n C dX7_joins_36 rfl 37 rfl ?_
          refine G_top (v' := .int (nI (max a b))) (by rw [show max a b = a by omega]) ?_
          exact K2 () trivial
        · refine G_iload C dX7_joins_31 rfl 33 rfl ?_
          refine G_goto C dX7_joins_33 37 rfl ?_
          refine G_top (v' := .int (nI (max a b))) (by rw [show max a b = b by omega]) ?_
          exact K2 () trivial
    · refine G_iload_n C dX7_joins_11 rfl 12 rfl ?_
      refine G_iload C dX7_joins_12 rfl 14 rfl ?_
      refine G_icmp_ge C dX7_joins_14 21 rfl 17 rfl (nI_leI (by omega) (by omega)) (fun h_7 => ?_) (fun h_7 => ?_)
      · refine G_iload C dX7_joins_21 rfl 23 rfl ?_
        refine G_top (v' := .int (nI (min a b))) (by rw [show min a b = b by omega]) ?_
        exact K1 () trivial
      · refine G_iload_n C dX7_joins_17 rfl 18 rfl ?_
        refine G_goto C dX7_joins_18 23 rfl ?_
        refine G_top (v' := .int (nI (min a b))) (by rw [show min a b = a by omega]) ?_
        exact K1 () trivial

set_option maxHeartbeats 4000000 in
set_option maxRecDepth 100000 in
theorem c_X7_pointsTo (l : Launch) (E : gE) (mo ma0 ma1 ma2 ma4 ma5 ma7 ma9 ma10 ma11 ma12 ma15 ns mlen mm pl wm : Nat) (gw : Bool) (hh : Int64) (Gp : Nat → Nat) (Tt : Nat → Option Nat) (x y : Nat) (hci : cinv Gp Tt) (hx : x < 10) (hrx : Gp x = x) (hy : y < 10) (hry : Gp y = y) : FD l E yX7_pointsTo cX7_pointsTo 3 none { frames := 1, cells := 0, slots := 0, locals := 29 } [.ref mo, .int (nI x), .int (nI y)] [(mo, .inr (7, [.ref ma0, .ref ma1, .ref ma2, .int (nI ns), .ref ma4, .ref ma5, .int (nI mlen), .ref ma7, .int (bI gw), .ref ma9, .ref ma10, .ref ma11, .ref ma12, .int (nI mm), .int (nI pl), .ref ma15, .int (nI wm), .long hh])), (ma9, .inl (E.2.1, 10, .inl (aN Gp))), (ma10, .inl (E.2.1, 10, .inl (aO Tt)))] none [(mo, .inr (7, [.ref ma0, .ref ma1, .ref ma2, .int (nI ns), .ref ma4, .ref ma5, .int (nI mlen), .ref ma7, .int (bI (gw || (pt Gp Tt (some x) (some y)).2.2)), .ref ma9, .ref ma10, .ref ma11, .ref ma12, .int (nI mm), .int (nI pl), .ref ma15, .int (nI wm), .long hh])), (ma9, .inl (E.2.1, 10, .inl (aN ((pt Gp Tt (some x) (some y)).1)))), (ma10, .inl (E.2.1, 10, .inl (aO ((pt Gp Tt (some x) (some y)).2.1))))] := by
  refine Fn_ofL (own := RX7) (by decide) rfl rfl [(0, .ref mo), (1, .int (nI x)), (2, .int (nI y))] rfl ?_
  intro p e s m below meth c A C hr hnm
  refine G_aload_n C dX7_pointsTo_0 rfl 1 rfl ?_
  refine G_getf C dX7_pointsTo_1 wF_X7 wf_X7_31 (f := 10) (by decide) (ci := 7) rfl 0 rfl rfl 4 rfl ?_
  refine G_iload_n C dX7_pointsTo_4 rfl 5 rfl ?_
  refine G_ialdO C dX7_pointsTo_5 2 rfl rfl (by omega) 6 rfl ?_
  refine G_iconst C dX7_pointsTo_6 (v := oI none) rfl 7 rfl ?_
  refine G_icmp_ne C dX7_pointsTo_7 25 rfl 10 rfl (oI_none (hci.t x hx).b) (fun h_1 => ?_) (fun h_1 => ?_)
  · refine G_aload_n C dX7_pointsTo_25 rfl 26 rfl ?_
    refine G_getf C dX7_pointsTo_26 wF_X7 wf_X7_31 (f := 10) (by decide) (ci := 7) rfl 0 rfl rfl 29 rfl ?_
    refine G_iload_n C dX7_pointsTo_29 rfl 30 rfl ?_
    refine G_ialdO C dX7_pointsTo_30 2 rfl rfl (by omega) 31 rfl ?_
    refine G_iload_n C dX7_pointsTo_31 rfl 32 rfl ?_
    refine G_icmp_eq C dX7_pointsTo_32 46 rfl 35 rfl (oI_eq (t := Tt x) (u := some y) (hci.t x hx).b (ook.b (ook_s hy))) (fun h_2 => ?_) (fun h_2 => ?_)
    · exact G_vret C hr dX7_pointsTo_46 () trivial rfl (by simp [pt, h_2])
    · obtain ⟨g, eg⟩ := Option.ne_none_iff_exists'.mp h_1
      have hg := hci.2 x hx g eg
      have h_3 : ¬ g = y := fun e9 => h_2 (by rw [eg, e9])
      refine G_aload_n C dX7_pointsTo_35 rfl 36 rfl ?_
      refine G_aload_n C dX7_pointsTo_36 rfl 37 rfl ?_
      refine G_getf C dX7_pointsTo_37 wF_X7 wf_X7_31 (f := 10) (by decide) (ci := 7) rfl 0 rfl rfl 40 rfl ?_
      refine G_iload_n C dX7_pointsTo_40 rfl 41 rfl ?_
      refine G_ialdO C dX7_pointsTo_41 2 rfl rfl (by omega) 42 rfl ?_
      refine G_top (v' := .int (nI g)) (by rw [eg]; rfl) ?_
      refine G_iload_n C dX7_pointsTo_42 rfl 43 rfl ?_
      refine G_cV C dX7_pointsTo_43 (c_X7_joins l E mo ma0 ma1 ma2 ma4 ma5 ma7 ma9 ma10 ma11 ma12 ma15 ns mlen mm pl wm gw hh Gp Tt g y hci hg.1 hy hg.2.1 hry) wm_X7_90 wi_X7_joins wsel_X7_joins wn_X7 wc_X7_joins rfl rfl ⟨by decide, by decide, rfl⟩ rfl (Nat.le_of_ble_eq_true rfl) 7 rfl rfl 0 rfl [0, 1, 2] [] (wr := []) rfl rfl rfl rfl rfl [0, 1, 2] rfl [(mo, .inr (7, [.ref ma0, .ref ma1, .ref ma2, .int (nI ns), .ref ma4, .ref ma5, .int (nI mlen), .ref ma7, .int (bI true), .ref ma9, .ref ma10, .ref ma11, .ref ma12, .int (nI mm), .int (nI pl), .ref ma15, .int (nI wm), .long hh])), (ma9, .inl (E.2.1, 10, .inl (aN ((jn Gp Tt (some g) (some y)).1)))), (ma10, .inl (E.2.1, 10, .inl (aO ((jn Gp Tt (some g) (some y)).2.1))))] rfl rfl [] rfl 46 rfl ?_
      exact G_vret C hr dX7_pointsTo_46 () trivial rfl (by simp [pt, eg, h_3])
  · refine G_aload_n C dX7_pointsTo_10 rfl 11 rfl ?_
    refine G_getf C dX7_pointsTo_11 wF_X7 wf_X7_31 (f := 10) (by decide) (ci := 7) rfl 0 rfl rfl 14 rfl ?_
    refine G_iload_n C dX7_pointsTo_14 rfl 15 rfl ?_
    refine G_iload_n C dX7_pointsTo_15 rfl 16 rfl ?_
    refine G_iastO C dX7_pointsTo_16 2 rfl rfl (x := some y) (by omega) [(mo, .inr (7, [.ref ma0, .ref ma1, .ref ma2, .int (nI ns), .ref ma4, .ref ma5, .int (nI mlen), .ref ma7, .int (bI gw), .ref ma9, .ref ma10, .ref ma11, .ref ma12, .int (nI mm), .int (nI pl), .ref ma15, .int (nI wm), .long hh])), (ma9, .inl (E.2.1, 10, .inl (aN Gp))), (ma10, .inl (E.2.1, 10, .inl (aO (va_up Tt x (some y)))))] rfl 17 rfl ?_
    refine G_aload_n C dX7_pointsTo_17 rfl 18 rfl ?_
    refine G_iconst C dX7_pointsTo_18 (v := nI 1) rfl 19 rfl ?_
    refine G_putf C dX7_pointsTo_19 wF_X7 wf_X7_65 (f := 8) (by decide) (ci := 7) rfl tyX7_ok nmX7 rfl 0 rfl (by decide) (by decide) (Nat.le_of_ble_eq_true rfl) [(mo, .inr (7, [.ref ma0, .ref ma1, .ref ma2, .int (nI ns), .ref ma4, .ref ma5, .int (nI mlen), .ref ma7, .int (nI 1), .ref ma9, .ref ma10, .ref ma11, .ref ma12, .int (nI mm), .int (nI pl), .ref ma15, .int (nI wm), .long hh])), (ma9, .inl (E.2.1, 10, .inl (aN Gp))), (ma10, .inl (E.2.1, 10, .inl (aO (va_up Tt x (some y)))))] rfl 22 rfl ?_
    refine G_goto C dX7_pointsTo_22 46 rfl ?_
    exact G_vret C hr dX7_pointsTo_46 () trivial rfl (by simp [pt, h_1]; rfl)

set_option maxHeartbeats 4000000 in
set_option maxRecDepth 100000 in
theorem c_X7_joinsBy (l : Launch) (E : gE) (mo ma0 ma1 ma2 ma4 ma5 ma7 ma9 ma10 ma11 ma12 ma15 ns mlen mm pl wm : Nat) (gw : Bool) (hh : Int64) (Nw : Nat → Nat) (Gp : Nat → Nat) (Tt : Nat → Option Nat) (i v : Nat) (hi : i < 14) (hc : Nw (1 + i) = v) (hv : v < 400) (hci : cinv Gp Tt) : FD l E yX7_joinsBy cX7_joinsBy 4 none { frames := 2, cells := 0, slots := 0, locals := 51 } [.ref mo, .int (nI i)] [(mo, .inr (7, [.ref ma0, .ref ma1, .ref ma2, .int (nI ns), .ref ma4, .ref ma5, .int (nI mlen), .ref ma7, .int (bI gw), .ref ma9, .ref ma10, .ref ma11, .ref ma12, .int (nI mm), .int (nI pl), .ref ma15, .int (nI wm), .long hh])), (ma0, .inl (E.2.1, 15, .inl (aN Nw))), (ma9, .inl (E.2.1, 10, .inl (aN Gp))), (ma10, .inl (E.2.1, 10, .inl (aO Tt)))] none [(mo, .inr (7, [.ref ma0, .ref ma1, .ref ma2, .int (nI ns), .ref ma4, .ref ma5, .int (nI mlen), .ref ma7, .int (bI (gw || (cst v Gp Tt).2.2)), .ref ma9, .ref ma10, .ref ma11, .ref ma12, .int (nI mm), .int (nI pl), .ref ma15, .int (nI wm), .long hh])), (ma0, .inl (E.2.1, 15, .inl (aN Nw))), (ma9, .inl (E.2.1, 10, .inl (aN ((cst v Gp Tt).1)))), (ma10, .inl (E.2.1, 10, .inl (aO ((cst v Gp Tt).2.1))))] := by
  refine Fn_ofL (own := RX7) (by decide) rfl rfl [(0, .ref mo), (1, .int (nI i))] rfl ?_
  intro p e s m below meth c A C hr hnm
  refine G_aload_n C dX7_joinsBy_0 rfl 1 rfl ?_
  refine G_getf C dX7_joinsBy_1 wF_X7 wf_X7_28 (f := 9) (by decide) (ci := 7) rfl 0 rfl rfl 4 rfl ?_
  refine G_aload_n C dX7_joinsBy_4 rfl 5 rfl ?_
  refine G_iload_n C dX7_joinsBy_5 rfl 6 rfl ?_
  refine G_cV C dX7_joinsBy_6 (c_X7_xOf l E mo ma0 ma1 ma2 ma4 ma5 ma7 ma9 ma10 ma11 ma12 ma15 ns mlen mm pl wm gw hh Nw i v (by first | assumption | omega) (by first | assumption | omega) (by first | assumption | omega)) wm_X7_69 wi_X7_xOf wsel_X7_xOf wn_X7 wc_X7_xOf rfl rfl ⟨by decide, by decide, rfl⟩ rfl (Nat.le_of_ble_eq_true rfl) 7 rfl rfl 0 rfl [0, 1] [2, 3] (wr := [(ma9, .inl (E.2.1, 10, .inl (aN Gp))), (ma10, .inl (E.2.1, 10, .inl (aO Tt)))]) rfl rfl rfl rfl rfl [2, 3, 0, 1] rfl [(mo, .inr (7, [.ref ma0, .ref ma1, .ref ma2, .int (nI ns), .ref ma4, .ref ma5, .int (nI mlen), .ref ma7, .int (bI gw), .ref ma9, .ref ma10, .ref ma11, .ref ma12, .int (nI mm), .int (nI pl), .ref ma15, .int (nI wm), .long hh])), (ma0, .inl (E.2.1, 15, .inl (aN Nw))), (ma9, .inl (E.2.1, 10, .inl (aN Gp))), (ma10, .inl (E.2.1, 10, .inl (aO Tt)))] rfl rfl [.int (nI (v / 10 % 10)), .ref ma9] rfl 9 rfl ?_
  refine G_ialdN C dX7_joinsBy_9 2 rfl rfl (by omega) 10 rfl ?_
  refine G_istore_n C dX7_joinsBy_10 (by decide) [(2, .int (nI (Gp (v / 10 % 10)))), (0, .ref mo), (1, .int (nI i))] rfl 11 rfl ?_
  refine G_aload_n C dX7_joinsBy_11 rfl 12 rfl ?_
  refine G_getf C dX7_joinsBy_12 wF_X7 wf_X7_28 (f := 9) (by decide) (ci := 7) rfl 0 rfl rfl 15 rfl ?_
  refine G_aload_n C dX7_joinsBy_15 rfl 16 rfl ?_
  refine G_iload_n C dX7_joinsBy_16 rfl 17 rfl ?_
  refine G_cV C dX7_joinsBy_17 (c_X7_yOf l E mo ma0 ma1 ma2 ma4 ma5 ma7 ma9 ma10 ma11 ma12 ma15 ns mlen mm pl wm gw hh Nw i v (by first | assumption | omega) (by first | assumption | omega) (by first | assumption | omega)) wm_X7_72 wi_X7_yOf wsel_X7_yOf wn_X7 wc_X7_yOf rfl rfl ⟨by decide, by decide, rfl⟩ rfl (Nat.le_of_ble_eq_true rfl) 7 rfl rfl 0 rfl [0, 1] [2, 3] (wr := [(ma9, .inl (E.2.1, 10, .inl (aN Gp))), (ma10, .inl (E.2.1, 10, .inl (aO Tt)))]) rfl rfl rfl rfl rfl [2, 3, 0, 1] rfl [(mo, .inr (7, [.ref ma0, .ref ma1, .ref ma2, .int (nI ns), .ref ma4, .ref ma5, .int (nI mlen), .ref ma7, .int (bI gw), .ref ma9, .ref ma10, .ref ma11, .ref ma12, .int (nI mm), .int (nI pl), .ref ma15, .int (nI wm), .long hh])), (ma0, .inl (E.2.1, 15, .inl (aN Nw))), (ma9, .inl (E.2.1, 10, .inl (aN Gp))), (ma10, .inl (E.2.1, 10, .inl (aO Tt)))] rfl rfl [.int (nI (v % 10)), .ref ma9] rfl 20 rfl ?_
  refine G_ialdN C dX7_joinsBy_20 2 rfl rfl (by omega) 21 rfl ?_
  refine G_istore_n C dX7_joinsBy_21 (by decide) [(3, .int (nI (Gp (v % 10)))), (2, .int (nI (Gp (v / 10 % 10)))), (0, .ref mo), (1, .int (nI i))] rfl 22 rfl ?_
  refine G_aload_n C dX7_joinsBy_22 rfl 23 rfl ?_
  refine G_iload_n C dX7_joinsBy_23 rfl 24 rfl ?_
  refine G_cV C dX7_joinsBy_24 (c_X7_sortOf l E mo ma0 ma1 ma2 ma4 ma5 ma7 ma9 ma10 ma11 ma12 ma15 ns mlen mm pl wm gw hh Nw i v (by first | assumption | omega) (by first | assumption | omega) (by first | assumption | omega)) wm_X7_75 wi_X7_sortOf wsel_X7_sortOf wn_X7 wc_X7_sortOf rfl rfl ⟨by decide, by decide, rfl⟩ rfl (Nat.le_of_ble_eq_true rfl) 7 rfl rfl 0 rfl [0, 1] [2, 3] (wr := [(ma9, .inl (E.2.1, 10, .inl (aN Gp))), (ma10, .inl (E.2.1, 10, .inl (aO Tt)))]) rfl rfl rfl rfl rfl [2, 3, 0, 1] rfl [(mo, .inr (7, [.ref ma0, .ref ma1, .ref ma2, .int (nI ns), .ref ma4, .ref ma5, .int (nI mlen), .ref ma7, .int (bI gw), .ref ma9, .ref ma10, .ref ma11, .ref ma12, .int (nI mm), .int (nI pl), .ref ma15, .int (nI wm), .long hh])), (ma0, .inl (E.2.1, 15, .inl (aN Nw))), (ma9, .inl (E.2.1, 10, .inl (aN Gp))), (ma10, .inl (E.2.1, 10, .inl (aO Tt)))] rfl rfl [.int (nI (v / 100))] rfl 27 rfl ?_
  rcases (show v / 100 = 0 ∨ v / 100 = 1 ∨ v / 100 = 2 ∨ v / 100 = 3 by omega) with hs_1 | hs_1 | hs_1 | hs_1
  · refine G_top (v' := .int (nI 0)) (by rw [hs_1]) ?_
    refine G_tabIn C dX7_joinsBy_27 (25) (by decide) (by decide) rfl 52 rfl ?_
    refine G_aload_n C dX7_joinsBy_52 rfl 53 rfl ?_
    refine G_iload_n C dX7_joinsBy_53 rfl 54 rfl ?_
    refine G_iload_n C dX7_joinsBy_54 rfl 55 rfl ?_
    refine G_cV C dX7_joinsBy_55 (c_X7_pointsTo l E mo ma0 ma1 ma2 ma4 ma5 ma7 ma9 ma10 ma11 ma12 ma15 ns mlen mm pl wm gw hh Gp Tt (Gp (v / 10 % 10)) (Gp (v % 10)) (by first | assumption | omega) (hci.g _ (by omega)) (hci.1 _ (by omega)).2 (hci.g _ (by omega)) (hci.1 _ (by omega)).2) wm_X7_93 wi_X7_pointsTo wsel_X7_pointsTo wn_X7 wc_X7_pointsTo rfl rfl ⟨by decide, by decide, rfl⟩ rfl (Nat.le_of_ble_eq_true rfl) 7 rfl rfl 0 rfl [0, 2, 3] [1] (wr := [(ma0, .inl (E.2.1, 15, .inl (aN Nw)))]) rfl rfl rfl rfl rfl [1, 0, 2, 3] rfl [(mo, .inr (7, [.ref ma0, .ref ma1, .ref ma2, .int (nI ns), .ref ma4, .ref ma5, .int (nI mlen), .ref ma7, .int (bI (gw || (pt Gp Tt (some (Gp (v / 10 % 10))) (some (Gp (v % 10)))).2.2)), .ref ma9, .ref ma10, .ref ma11, .ref ma12, .int (nI mm), .int (nI pl), .ref ma15, .int (nI wm), .long hh])), (ma0, .inl (E.2.1, 15, .inl (aN Nw))), (ma9, .inl (E.2.1, 10, .inl (aN ((pt Gp Tt (some (Gp (v / 10 % 10))) (some (Gp (v % 10)))).1)))), (ma10, .inl (E.2.1, 10, .inl (aO ((pt Gp Tt (some (Gp (v / 10 % 10))) (some (Gp (v % 10)))).2.1))))] rfl rfl [] rfl 58 rfl ?_
    refine G_goto C dX7_joinsBy_58 165 rfl ?_
    exact G_vret C hr dX7_joinsBy_165 () trivial rfl (by simp [cst, hs_1])
  · refine G_top (v' := .int (nI 1)) (by rw [hs_1]) ?_
    refine G_tabIn C dX7_joinsBy_27 (34) (by decide) (by decide) rfl 61 rfl ?_
    refine G_aload_n C dX7_joinsBy_61 rfl 62 rfl ?_
    refine G_getf C dX7_joinsBy_62 wF_X7 wf_X7_31 (f := 10) (by decide) (ci := 7) rfl 0 rfl rfl 65 rfl ?_
    refine G_iload_n C dX7_joinsBy_65 rfl 66 rfl ?_
    refine G_ialdO C dX7_joinsBy_66 3 rfl rfl (hci.g _ (by omega)) 67 rfl ?_
    refine G_iconst C dX7_joinsBy_67 (v := oI none) rfl 68 rfl ?_
    refine G_icmp_eq C dX7_joinsBy_68 165 rfl 71 rfl (oI_none (hci.t _ (hci.g _ (by omega))).b) (fun h_1 => ?_) (fun h_1 => ?_)
    · exact G_vret C hr dX7_joinsBy_165 () trivial rfl (by simp [cst, hs_1, h_1, pt])
    · obtain ⟨g, e1⟩ := Option.ne_none_iff_exists'.mp h_1
      have hg := hci.2 _ (hci.g _ (by omega)) g e1
      refine G_aload_n C dX7_joinsBy_71 rfl 72 rfl ?_
      refine G_iload_n C dX7_joinsBy_72 rfl 73 rfl ?_
      refine G_aload_n C dX7_joinsBy_73 rfl 74 rfl ?_
      refine G_getf C dX7_joinsBy_74 wF_X7 wf_X7_31 (f := 10) (by decide) (ci := 7) rfl 0 rfl rfl 77 rfl ?_
      refine G_iload_n C dX7_joinsBy_77 rfl 78 rfl ?_
      refine G_ialdO C dX7_joinsBy_78 3 rfl rfl (hci.g _ (by omega)) 79 rfl ?_
      refine G_top (v' := .int (nI g)) (by rw [e1]; rfl) ?_
      refine G_cV C dX7_joinsBy_79 (c_X7_pointsTo l E mo ma0 ma1 ma2 ma4 ma5 ma7 ma9 ma10 ma11 ma12 ma15 ns mlen mm pl wm gw hh Gp Tt (Gp (v / 10 % 10)) g (by first | assumption | omega) (hci.g _ (by omega)) (hci.1 _ (by omega)).2 hg.1 hg.2.1) wm_X7_93 wi_X7_pointsTo wsel_X7_pointsTo wn_X7 wc_X7_pointsTo rfl rfl ⟨by decide, by decide, rfl⟩ rfl (Nat.le_of_ble_eq_true rfl) 7 rfl rfl 0 rfl [0, 2, 3] [1] (wr := [(ma0, .inl (E.2.1, 15, .inl (aN Nw)))]) rfl rfl rfl rfl rfl [1, 0, 2, 3] rfl [(mo, .inr (7, [.ref ma0, .ref ma1, .ref ma2, .int (nI ns), .ref ma4, .ref ma5, .int (nI mlen), .ref ma7, .int (bI (gw || (pt Gp Tt (some (Gp (v / 10 % 10))) (some g)).2.2)), .ref ma9, .ref ma10, .ref ma11, .ref ma12, .int (nI mm), .int (nI pl), .ref ma15, .int (nI wm), .long hh])), (ma0, .inl (E.2.1, 15, .inl (aN Nw))), (ma9, .inl (E.2.1, 10, .inl (aN ((pt Gp Tt (some (Gp (v / 10 % 10))) (some g)).1)))), (ma10, .inl (E.2.1, 10, .inl (aO ((pt Gp Tt (some (Gp (v / 10 % 10))) (some g)).2.1))))] rfl rfl [] rfl 82 rfl ?_
      refine G_goto C dX7_joinsBy_82 165 rfl ?_
      exact G_vret C hr dX7_joinsBy_165 () trivial rfl (by simp [cst, hs_1, e1])
  · refine G_top (v' := .int (nI 2)) (by rw [hs_1]) ?_
    refine G_tabIn C dX7_joinsBy_27 (58) (by decide) (by decide) rfl 85 rfl ?_
    refine G_aload_n C dX7_joinsBy_85 rfl 86 rfl ?_
    refine G_getf C dX7_joinsBy_86 wF_X7 wf_X7_31 (f := 10) (by decide) (ci := 7) rfl 0 rfl rfl 89 rfl ?_
    refine G_iload_n C dX7_joinsBy_89 rfl 90 rfl ?_
    refine G_ialdO C dX7_joinsBy_90 3 rfl rfl (hci.g _ (by omega)) 91 rfl ?_
    refine G_iconst C dX7_joinsBy_91 (v := oI none) rfl 92 rfl ?_
    refine G_icmp_eq C dX7_joinsBy_92 165 rfl 95 rfl (oI_none (hci.t _ (hci.g _ (by omega))).b) (fun h_2 => ?_) (fun h_2 => ?_)
    · exact G_vret C hr dX7_joinsBy_165 () trivial rfl (by simp [cst, hs_1, h_2, pt])
    · obtain ⟨g, e1⟩ := Option.ne_none_iff_exists'.mp h_2
      have hg := hci.2 _ (hci.g _ (by omega)) g e1
      refine G_aload_n C dX7_joinsBy_95 rfl 96 rfl ?_
      refine G_getf C dX7_joinsBy_96 wF_X7 wf_X7_31 (f := 10) (by decide) (ci := 7) rfl 0 rfl rfl 99 rfl ?_
      refine G_aload_n C dX7_joinsBy_99 rfl 100 rfl ?_
      refine G_getf C dX7_joinsBy_100 wF_X7 wf_X7_31 (f := 10) (by decide) (ci := 7) rfl 0 rfl rfl 103 rfl ?_
      refine G_iload_n C dX7_joinsBy_103 rfl 104 rfl ?_
      refine G_ialdO C dX7_joinsBy_104 3 rfl rfl (hci.g _ (by omega)) 105 rfl ?_
      refine G_top (v' := .int (nI g)) (by rw [e1]; rfl) ?_
      refine G_ialdO C dX7_joinsBy_105 3 rfl rfl hg.1 106 rfl ?_
      refine G_iconst C dX7_joinsBy_106 (v := oI none) rfl 107 rfl ?_
      refine G_icmp_eq C dX7_joinsBy_107 165 rfl 110 rfl (oI_none (hci.t _ hg.1).b) (fun h_3 => ?_) (fun h_3 => ?_)
      · exact G_vret C hr dX7_joinsBy_165 () trivial rfl (by simp [cst, hs_1, e1, h_3, pt])
      · obtain ⟨g2, e2⟩ := Option.ne_none_iff_exists'.mp h_3
        have hg2 := hci.2 _ hg.1 g2 e2
        refine G_aload_n C dX7_joinsBy_110 rfl 111 rfl ?_
        refine G_iload_n C dX7_joinsBy_111 rfl 112 rfl ?_
        refine G_aload_n C dX7_joinsBy_112 rfl 113 rfl ?_
        refine G_getf C dX7_joinsBy_113 wF_X7 wf_X7_31 (f := 10) (by decide) (ci := 7) rfl 0 rfl rfl 116 rfl ?_
        refine G_aload_n C dX7_joinsBy_116 rfl 117 rfl ?_
        refine G_getf C dX7_joinsBy_117 wF_X7 wf_X7_31 (f := 10) (by decide) (ci := 7) rfl 0 rfl rfl 120 rfl ?_
        refine G_iload_n C dX7_joinsBy_120 rfl 121 rfl ?_
        refine G_ialdO C dX7_joinsBy_121 3 rfl rfl (hci.g _ (by omega)) 122 rfl ?_
        refine G_top (v' := .int (nI g)) (by rw [e1]; rfl) ?_
        refine G_ialdO C dX7_joinsBy_122 3 rfl rfl hg.1 123 rfl ?_
        refine G_top (v' := .int (nI g2)) (by rw [e2]; rfl) ?_
        refine G_cV C dX7_joinsBy_123 (c_X7_pointsTo l E mo ma0 ma1 ma2 ma4 ma5 ma7 ma9 ma10 ma11 ma12 ma15 ns mlen mm pl wm gw hh Gp Tt (Gp (v / 10 % 10)) g2 (by first | assumption | omega) (hci.g _ (by omega)) (hci.1 _ (by omega)).2 hg2.1 hg2.2.1) wm_X7_93 wi_X7_pointsTo wsel_X7_pointsTo wn_X7 wc_X7_pointsTo rfl rfl ⟨by decide, by decide, rfl⟩ rfl (Nat.le_of_ble_eq_true rfl) 7 rfl rfl 0 rfl [0, 2, 3] [1] (wr := [(ma0, .inl (E.2.1, 15, .inl (aN Nw)))]) rfl rfl rfl rfl rfl [1, 0, 2, 3] rfl [(mo, .inr (7, [.ref ma0, .ref ma1, .ref ma2, .int (nI ns), .ref ma4, .ref ma5, .int (nI mlen), .ref ma7, .int (bI (gw || (pt Gp Tt (some (Gp (v / 10 % 10))) (some g2)).2.2)), .ref ma9, .ref ma10, .ref ma11, .ref ma12, .int (nI mm), .int (nI pl), .ref ma15, .int (nI wm), .long hh])), (ma0, .inl (E.2.1, 15, .inl (aN Nw))), (ma9, .inl (E.2.1, 10, .inl (aN ((pt Gp Tt (some (Gp (v / 10 % 10))) (some g2)).1)))), (ma10, .inl (E.2.1, 10, .inl (aO ((pt Gp Tt (some (Gp (v / 10 % 10))) (some g2)).2.1))))] rfl rfl [] rfl 126 rfl ?_
        refine G_goto C dX7_joinsBy_126 165 rfl ?_
        exact G_vret C hr dX7_joinsBy_165 () trivial rfl (by simp [cst, hs_1, e1, e2])
  · refine G_top (v' := .int (nI 3)) (by rw [hs_1]) ?_
    refine G_tabOut C dX7_joinsBy_27 (by decide) 129 rfl ?_
    refine G_aload_n C dX7_joinsBy_129 rfl 130 rfl ?_
    refine G_getf C dX7_joinsBy_130 wF_X7 wf_X7_31 (f := 10) (by decide) (ci := 7) rfl 0 rfl rfl 133 rfl ?_
    refine G_iload_n C dX7_joinsBy_133 rfl 134 rfl ?_
    refine G_ialdO C dX7_joinsBy_134 3 rfl rfl (hci.g _ (by omega)) 135 rfl ?_
    refine G_iconst C dX7_joinsBy_135 (v := oI none) rfl 136 rfl ?_
    refine G_icmp_eq C dX7_joinsBy_136 165 rfl 139 rfl (oI_none (hci.t _ (hci.g _ (by omega))).b) (fun h_4 => ?_) (fun h_4 => ?_)
    · exact G_vret C hr dX7_joinsBy_165 () trivial rfl (by simp [cst, hs_1, h_4, pt])
    · refine G_aload_n C dX7_joinsBy_139 rfl 140 rfl ?_
      refine G_getf C dX7_joinsBy_140 wF_X7 wf_X7_31 (f := 10) (by decide) (ci := 7) rfl 0 rfl rfl 143 rfl ?_
      refine G_iload_n C dX7_joinsBy_143 rfl 144 rfl ?_
      refine G_ialdO C dX7_joinsBy_144 3 rfl rfl (hci.g _ (by omega)) 145 rfl ?_
      refine G_iconst C dX7_joinsBy_145 (v := oI none) rfl 146 rfl ?_
      refine G_icmp_eq C dX7_joinsBy_146 165 rfl 149 rfl (oI_none (hci.t _ (hci.g _ (by omega))).b) (fun h_5 => ?_) (fun h_5 => ?_)
      · exact G_vret C hr dX7_joinsBy_165 () trivial rfl (by simp [cst, hs_1, h_5, pt])
      · obtain ⟨g, e1⟩ := Option.ne_none_iff_exists'.mp h_4
        have hg := hci.2 _ (hci.g _ (by omega)) g e1
        obtain ⟨g2, e2⟩ := Option.ne_none_iff_exists'.mp h_5
        have hg2 := hci.2 _ (hci.g _ (by omega)) g2 e2
        refine G_aload_n C dX7_joinsBy_149 rfl 150 rfl ?_
        refine G_aload_n C dX7_joinsBy_150 rfl 151 rfl ?_
        refine G_getf C dX7_joinsBy_151 wF_X7 wf_X7_31 (f := 10) (by decide) (ci := 7) rfl 0 rfl rfl 154 rfl ?_
        refine G_iload_n C dX7_joinsBy_154 rfl 155 rfl ?_
        refine G_ialdO C dX7_joinsBy_155 3 rfl rfl (hci.g _ (by omega)) 156 rfl ?_
        refine G_top (v' := .int (nI g)) (by rw [e1]; rfl) ?_
        refine G_aload_n C dX7_joinsBy_156 rfl 157 rfl ?_
        refine G_getf C dX7_joinsBy_157 wF_X7 wf_X7_31 (f := 10) (by decide) (ci := 7) rfl 0 rfl rfl 160 rfl ?_
        refine G_iload_n C dX7_joinsBy_160 rfl 161 rfl ?_
        refine G_ialdO C dX7_joinsBy_161 3 rfl rfl (hci.g _ (by omega)) 162 rfl ?_
        refine G_top (v' := .int (nI g2)) (by rw [e2]; rfl) ?_
        refine G_cV C dX7_joinsBy_162 (c_X7_pointsTo l E mo ma0 ma1 ma2 ma4 ma5 ma7 ma9 ma10 ma11 ma12 ma15 ns mlen mm pl wm gw hh Gp Tt g g2 (by first | assumption | omega) hg.1 hg.2.1 hg2.1 hg2.2.1) wm_X7_93 wi_X7_pointsTo wsel_X7_pointsTo wn_X7 wc_X7_pointsTo rfl rfl ⟨by decide, by decide, rfl⟩ rfl (Nat.le_of_ble_eq_true rfl) 7 rfl rfl 0 rfl [0, 2, 3] [1] (wr := [(ma0, .inl (E.2.1, 15, .inl (aN Nw)))]) rfl rfl rfl rfl rfl [1, 0, 2, 3] rfl [(mo, .inr (7, [.ref ma0, .ref ma1, .ref ma2, .int (nI ns), .ref ma4, .ref ma5, .int (nI mlen), .ref ma7, .int (bI (gw || (pt Gp Tt (some g) (some g2)).2.2)), .ref ma9, .ref ma10, .ref ma11, .ref ma12, .int (nI mm), .int (nI pl), .ref ma15, .int (nI wm), .long hh])), (ma0, .inl (E.2.1, 15, .inl (aN Nw))), (ma9, .inl (E.2.1, 10, .inl (aN ((pt Gp Tt (some g) (some g2)).1)))), (ma10, .inl (E.2.1, 10, .inl (aO ((pt Gp Tt (some g) (some g2)).2.1))))] rfl rfl [] rfl 165 rfl ?_
        exact G_vret C hr dX7_joinsBy_165 () trivial rfl (by simp [cst, hs_1, e1, e2])
