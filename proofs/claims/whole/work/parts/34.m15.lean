set_option maxHeartbeats 4000000 in
set_option maxRecDepth 100000 in
theorem c_X7_laysCoarse (l : Launch) (E : gE) (mo ma0 ma1 ma2 ma4 ma5 ma7 ma9 ma10 ma11 ma12 ma15 ns mlen mm pl wm : Nat) (gw : Bool) (hh : Int64) (Nw : Nat → Nat) (Gp : Nat → Nat) (Tt : Nat → Option Nat) (ln : Nat → Nat) (n : Nat) (lo : Option Nat) (hok : mok n ln Nw) (hlo : ∀ g, lo = some g → g < 2 ^ 31) : FD l E yX7_laysCoarse cX7_laysCoarse 3 none { frames := 3, cells := 0, slots := 0, locals := 74 } [.ref mo, .int (oI lo)] [(mo, .inr (7, [.ref ma0, .ref ma1, .ref ma2, .int (nI ns), .ref ma4, .ref ma5, .int (nI mlen), .ref ma7, .int (bI gw), .ref ma9, .ref ma10, .ref ma11, .ref ma12, .int (nI mm), .int (nI pl), .ref ma15, .int (nI wm), .long hh])), (ma0, .inl (E.2.1, 15, .inl (aN Nw))), (ma9, .inl (E.2.1, 10, .inl (aN Gp))), (ma10, .inl (E.2.1, 10, .inl (aO Tt)))] none [(mo, .inr (7, [.ref ma0, .ref ma1, .ref ma2, .int (nI ns), .ref ma4, .ref ma5, .int (nI mlen), .ref ma7, .int (bI false), .ref ma9, .ref ma10, .ref ma11, .ref ma12, .int (nI mm), .int (nI pl), .ref ma15, .int (nI wm), .long hh])), (ma0, .inl (E.2.1, 15, .inl (aN Nw))), (ma9, .inl (E.2.1, 10, .inl (aN (coarG ln n lo)))), (ma10, .inl (E.2.1, 10, .inl (aO (coarT ln n lo))))] := by
  refine Fn_ofL (own := RX7) (by decide) rfl rfl [(0, .ref mo), (1, .int (oI lo))] rfl ?_
  intro p e s m below meth c A C hr hnm
  have h14 : n ≤ 14 := hok.n
  obtain ⟨J, -, hf, hb, he1, he2⟩ := cit_end ln n lo
  refine G_iconst C dX7_laysCoarse_0 (v := nI 0) rfl 1 rfl ?_
  refine G_istore_n C dX7_laysCoarse_1 (by decide) [(2, .int (nI 0)), (0, .ref mo), (1, .int (oI lo))] rfl 2 rfl ?_
  refine G_eq (ws' := [(mo, .inr (7, [.ref ma0, .ref ma1, .ref ma2, .int (nI ns), .ref ma4, .ref ma5, .int (nI mlen), .ref ma7, .int (bI gw), .ref ma9, .ref ma10, .ref ma11, .ref ma12, .int (nI mm), .int (nI pl), .ref ma15, .int (nI wm), .long hh])), (ma0, .inl (E.2.1, 15, .inl (aN Nw))), (ma9, .inl (E.2.1, 10, .inl (aN (flG (fun k => k) Gp 0)))), (ma10, .inl (E.2.1, 10, .inl (aO (flG (fun _ => none) Tt 0))))]) (by rw [flG_0, flG_0]) rfl rfl ?_
  refine G_while (X := Nat) (Wf := fun x => [(mo, .inr (7, [.ref ma0, .ref ma1, .ref ma2, .int (nI ns), .ref ma4, .ref ma5, .int (nI mlen), .ref ma7, .int (bI gw), .ref ma9, .ref ma10, .ref ma11, .ref ma12, .int (nI mm), .int (nI pl), .ref ma15, .int (nI wm), .long hh])), (ma0, .inl (E.2.1, 15, .inl (aN Nw))), (ma9, .inl (E.2.1, 10, .inl (aN (flG (fun k => k) Gp x)))), (ma10, .inl (E.2.1, 10, .inl (aO (flG (fun _ => none) Tt x))))]) (Lf := fun x => [(2, .int (nI x)), (0, .ref mo), (1, .int (oI lo))]) (Sf := fun _ => []) (fun x => x ≤ 10) (fun x => 10 - x) (fun x hx9 ihx => ?_) 0 (by omega)
  refine G_iload_n C dX7_laysCoarse_2 rfl 3 rfl ?_
  refine G_bipush C dX7_laysCoarse_3 (v := nI 10) (by decide) 5 rfl ?_
  refine G_icmp_ge C dX7_laysCoarse_5 28 rfl 8 rfl (nI_leI (by omega) (by omega)) (fun h_1 => ?_) (fun h_1 => ?_)
  · refine G_cong 2 (aN (fun k => k)) rfl (fun j hj => by simp only [aN]; rw [flG_in _ _ (by omega)]) [(mo, .inr (7, [.ref ma0, .ref ma1, .ref ma2, .int (nI ns), .ref ma4, .ref ma5, .int (nI mlen), .ref ma7, .int (bI gw), .ref ma9, .ref ma10, .ref ma11, .ref ma12, .int (nI mm), .int (nI pl), .ref ma15, .int (nI wm), .long hh])), (ma0, .inl (E.2.1, 15, .inl (aN Nw))), (ma9, .inl (E.2.1, 10, .inl (aN (fun k => k)))), (ma10, .inl (E.2.1, 10, .inl (aO (flG (fun _ => none) Tt x))))] rfl ?_
    refine G_cong 3 (aO (fun _ => none)) rfl (fun j hj => by simp only [aO]; rw [flG_in _ _ (by omega)]) [(mo, .inr (7, [.ref ma0, .ref ma1, .ref ma2, .int (nI ns), .ref ma4, .ref ma5, .int (nI mlen), .ref ma7, .int (bI gw), .ref ma9, .ref ma10, .ref ma11, .ref ma12, .int (nI mm), .int (nI pl), .ref ma15, .int (nI wm), .long hh])), (ma0, .inl (E.2.1, 15, .inl (aN Nw))), (ma9, .inl (E.2.1, 10, .inl (aN (fun k => k)))), (ma10, .inl (E.2.1, 10, .inl (aO (fun _ => none))))] rfl ?_
    refine G_sel [1, 2] [(0, .ref mo), (1, .int (oI lo))] rfl ?_
    refine G_aload_n C dX7_laysCoarse_28 rfl 29 rfl ?_
    refine G_iconst C dX7_laysCoarse_29 (v := nI 1) rfl 30 rfl ?_
    refine G_putf C dX7_laysCoarse_30 wF_X7 wf_X7_65 (f := 8) (by decide) (ci := 7) rfl tyX7_ok nmX7 rfl 0 rfl (by decide) (by decide) (Nat.le_of_ble_eq_true rfl) [(mo, .inr (7, [.ref ma0, .ref ma1, .ref ma2, .int (nI ns), .ref ma4, .ref ma5, .int (nI mlen), .ref ma7, .int (nI 1), .ref ma9, .ref ma10, .ref ma11, .ref ma12, .int (nI mm), .int (nI pl), .ref ma15, .int (nI wm), .long hh])), (ma0, .inl (E.2.1, 15, .inl (aN Nw))), (ma9, .inl (E.2.1, 10, .inl (aN (fun k => k)))), (ma10, .inl (E.2.1, 10, .inl (aO (fun _ => none))))] rfl 33 rfl ?_
    refine G_eq (ws' := [(mo, .inr (7, [.ref ma0, .ref ma1, .ref ma2, .int (nI ns), .ref ma4, .ref ma5, .int (nI mlen), .ref ma7, .int (bI ((cit ln n lo 0).2.2)), .ref ma9, .ref ma10, .ref ma11, .ref ma12, .int (nI mm), .int (nI pl), .ref ma15, .int (nI wm), .long hh])), (ma0, .inl (E.2.1, 15, .inl (aN Nw))), (ma9, .inl (E.2.1, 10, .inl (aN ((cit ln n lo 0).1)))), (ma10, .inl (E.2.1, 10, .inl (aO ((cit ln n lo 0).2.1))))]) rfl rfl rfl ?_
    refine G_while (X := Nat) (Wf := fun j => [(mo, .inr (7, [.ref ma0, .ref ma1, .ref ma2, .int (nI ns), .ref ma4, .ref ma5, .int (nI mlen), .ref ma7, .int (bI ((cit ln n lo j).2.2)), .ref ma9, .ref ma10, .ref ma11, .ref ma12, .int (nI mm), .int (nI pl), .ref ma15, .int (nI wm), .long hh])), (ma0, .inl (E.2.1, 15, .inl (aN Nw))), (ma9, .inl (E.2.1, 10, .inl (aN ((cit ln n lo j).1)))), (ma10, .inl (E.2.1, 10, .inl (aO ((cit ln n lo j).2.1))))]) (Lf := fun j => [(0, .ref mo), (1, .int (oI lo))]) (Sf := fun _ => []) (fun j => j ≤ J) (fun j => J - j) (fun j hj ihj => ?_) 0 (by omega)
    refine G_aload_n C dX7_laysCoarse_33 rfl 34 rfl ?_
    refine G_getf C dX7_laysCoarse_34 wF_X7 wf_X7_65 (f := 8) (by decide) (ci := 7) rfl 0 rfl rfl 37 rfl ?_
    refine G_if_eq C dX7_laysCoarse_37 76 rfl 40 rfl (bI_0 _) (fun h_2 => ?_) (fun h_2 => ?_)
    · have hjJ : j = J := by rcases Nat.lt_or_ge j J with h9 | h9; exact absurd (hb j h9) (by rw [h_2]; simp); omega
      refine G_eq (ws' := [(mo, .inr (7, [.ref ma0, .ref ma1, .ref ma2, .int (nI ns), .ref ma4, .ref ma5, .int (nI mlen), .ref ma7, .int (bI false), .ref ma9, .ref ma10, .ref ma11, .ref ma12, .int (nI mm), .int (nI pl), .ref ma15, .int (nI wm), .long hh])), (ma0, .inl (E.2.1, 15, .inl (aN Nw))), (ma9, .inl (E.2.1, 10, .inl (aN (coarG ln n lo)))), (ma10, .inl (E.2.1, 10, .inl (aO (coarT ln n lo))))]) (by rw [h_2, hjJ, he1, he2]) rfl rfl ?_
      exact G_vret C hr dX7_laysCoarse_76 () trivial rfl rfl
    · refine G_aload_n C dX7_laysCoarse_40 rfl 41 rfl ?_
      refine G_iconst C dX7_laysCoarse_41 (v := nI 0) rfl 42 rfl ?_
      refine G_putf C dX7_laysCoarse_42 wF_X7 wf_X7_65 (f := 8) (by decide) (ci := 7) rfl tyX7_ok nmX7 rfl 0 rfl (by decide) (by decide) (Nat.le_of_ble_eq_true rfl) [(mo, .inr (7, [.ref ma0, .ref ma1, .ref ma2, .int (nI ns), .ref ma4, .ref ma5, .int (nI mlen), .ref ma7, .int (nI 0), .ref ma9, .ref ma10, .ref ma11, .ref ma12, .int (nI mm), .int (nI pl), .ref ma15, .int (nI wm), .long hh])), (ma0, .inl (E.2.1, 15, .inl (aN Nw))), (ma9, .inl (E.2.1, 10, .inl (aN ((cit ln n lo j).1)))), (ma10, .inl (E.2.1, 10, .inl (aO ((cit ln n lo j).2.1))))] rfl 45 rfl ?_
      refine G_iconst C dX7_laysCoarse_45 (v := nI 0) rfl 46 rfl ?_
      refine G_istore_n C dX7_laysCoarse_46 (by decide) [(2, .int (nI 0)), (0, .ref mo), (1, .int (oI lo))] rfl 47 rfl ?_
      refine G_eq (ws' := [(mo, .inr (7, [.ref ma0, .ref ma1, .ref ma2, .int (nI ns), .ref ma4, .ref ma5, .int (nI mlen), .ref ma7, .int (bI ((cp ln lo (cit ln n lo j).1 (cit ln n lo j).2.1 0).2.2)), .ref ma9, .ref ma10, .ref ma11, .ref ma12, .int (nI mm), .int (nI pl), .ref ma15, .int (nI wm), .long hh])), (ma0, .inl (E.2.1, 15, .inl (aN Nw))), (ma9, .inl (E.2.1, 10, .inl (aN ((cp ln lo (cit ln n lo j).1 (cit ln n lo j).2.1 0).1)))), (ma10, .inl (E.2.1, 10, .inl (aO ((cp ln lo (cit ln n lo j).1 (cit ln n lo j).2.1 0).2.1))))]) rfl rfl rfl ?_
      refine G_while (X := Nat) (Wf := fun i => [(mo, .inr (7, [.ref ma0, .ref ma1, .ref ma2, .int (nI ns), .ref ma4, .ref ma5, .int (nI mlen), .ref ma7, .int (bI ((cp ln lo (cit ln n lo j).1 (cit ln n lo j).2.1 i).2.2)), .ref ma9, .ref ma10, .ref ma11, .ref ma12, .int (nI mm), .int (nI pl), .ref ma15, .int (nI wm), .long hh])), (ma0, .inl (E.2.1, 15, .inl (aN Nw))), (ma9, .inl (E.2.1, 10, .inl (aN ((cp ln lo (cit ln n lo j).1 (cit ln n lo j).2.1 i).1)))), (ma10, .inl (E.2.1, 10, .inl (aO ((cp ln lo (cit ln n lo j).1 (cit ln n lo j).2.1 i).2.1))))]) (Lf := fun i => [(2, .int (nI i)), (0, .ref mo), (1, .int (oI lo))]) (Sf := fun _ => []) (fun i => i ≤ n) (fun i => n - i) (fun i hi ih => ?_) 0 (by omega)
      refine G_iload_n C dX7_laysCoarse_47 rfl 48 rfl ?_
      refine G_aload_n C dX7_laysCoarse_48 rfl 49 rfl ?_
      refine G_getf C dX7_laysCoarse_49 wF_X7 wf_X7_7 (f := 0) (by decide) (ci := 7) rfl 0 rfl rfl 52 rfl ?_
      refine G_iconst C dX7_laysCoarse_52 (v := nI 0) rfl 53 rfl ?_
      refine G_ialdN C dX7_laysCoarse_53 1 rfl rfl (by omega) 54 rfl ?_
      refine G_top (v' := .int (nI n)) (by rw [hok.z]) ?_
      refine G_icmp_ge C dX7_laysCoarse_54 73 rfl 57 rfl (nI_leI (by omega) (by omega)) (fun h_3 => ?_) (fun h_3 => ?_)
      · refine G_goto C dX7_laysCoarse_73 33 rfl ?_
        refine G_sel [1, 2] [(0, .ref mo), (1, .int (oI lo))] rfl ?_
        refine G_eq (ws' := [(mo, .inr (7, [.ref ma0, .ref ma1, .ref ma2, .int (nI ns), .ref ma4, .ref ma5, .int (nI mlen), .ref ma7, .int (bI ((cit ln n lo (j + 1)).2.2)), .ref ma9, .ref ma10, .ref ma11, .ref ma12, .int (nI mm), .int (nI pl), .ref ma15, .int (nI wm), .long hh])), (ma0, .inl (E.2.1, 15, .inl (aN Nw))), (ma9, .inl (E.2.1, 10, .inl (aN ((cit ln n lo (j + 1)).1)))), (ma10, .inl (E.2.1, 10, .inl (aO ((cit ln n lo (j + 1)).2.1))))]) (by simp only [cit]; rw [if_pos (by simpa using h_2), show i = n by omega]) rfl rfl ?_
        have hjl : j < J := by rcases Nat.lt_or_ge j J with h9 | h9; exact h9; exact absurd (show (cit ln n lo j).2.2 = false by rw [show j = J by omega]; exact hf) h_2
        exact ihj (j + 1) (by omega) (by omega)
      · refine G_iload_n C dX7_laysCoarse_57 rfl 58 rfl ?_
        refine G_iload_n C dX7_laysCoarse_58 rfl 59 rfl ?_
        refine G_icmp_eq C dX7_laysCoarse_59 67 rfl 62 rfl (oI_eq (t := some i) (u := lo) (fun _ h => (by cases h; omega)) hlo) (fun h_4 => ?_) (fun h_4 => ?_)
        · refine G_iinc C dX7_laysCoarse_67 0 rfl (nI_1 _) (by decide) [(2, .int (nI (i + 1))), (0, .ref mo), (1, .int (oI lo))] rfl 70 rfl ?_
          refine G_goto C dX7_laysCoarse_70 47 rfl ?_
          refine G_eq (ws' := [(mo, .inr (7, [.ref ma0, .ref ma1, .ref ma2, .int (nI ns), .ref ma4, .ref ma5, .int (nI mlen), .ref ma7, .int (bI ((cp ln lo (cit ln n lo j).1 (cit ln n lo j).2.1 (i + 1)).2.2)), .ref ma9, .ref ma10, .ref ma11, .ref ma12, .int (nI mm), .int (nI pl), .ref ma15, .int (nI wm), .long hh])), (ma0, .inl (E.2.1, 15, .inl (aN Nw))), (ma9, .inl (E.2.1, 10, .inl (aN ((cp ln lo (cit ln n lo j).1 (cit ln n lo j).2.1 (i + 1)).1)))), (ma10, .inl (E.2.1, 10, .inl (aO ((cp ln lo (cit ln n lo j).1 (cit ln n lo j).2.1 (i + 1)).2.1))))]) (by simp only [cp]; rw [if_pos h_4]) rfl rfl ?_
          exact ih (i + 1) (by omega) (by omega)
        · refine G_aload_n C dX7_laysCoarse_62 rfl 63 rfl ?_
          refine G_iload_n C dX7_laysCoarse_63 rfl 64 rfl ?_
          refine G_cV C dX7_laysCoarse_64 (c_X7_joinsBy l E mo ma0 ma1 ma2 ma4 ma5 ma7 ma9 ma10 ma11 ma12 ma15 ns mlen mm pl wm ((cp ln lo (cit ln n lo j).1 (cit ln n lo j).2.1 i).2.2) hh Nw ((cp ln lo (cit ln n lo j).1 (cit ln n lo j).2.1 i).1) ((cp ln lo (cit ln n lo j).1 (cit ln n lo j).2.1 i).2.1) i (ln i) (by omega) (hok.c (by omega)) (hok.v (by omega)) (cp_inv (cit_inv j) i).1) wm_X7_96 wi_X7_joinsBy wsel_X7_joinsBy wn_X7 wc_X7_joinsBy rfl rfl ⟨by decide, by decide, rfl⟩ rfl (Nat.le_of_ble_eq_true rfl) 7 rfl rfl 0 rfl [0, 1, 2, 3] [] (wr := []) rfl rfl rfl rfl rfl [0, 1, 2, 3] rfl [(mo, .inr (7, [.ref ma0, .ref ma1, .ref ma2, .int (nI ns), .ref ma4, .ref ma5, .int (nI mlen), .ref ma7, .int (bI (((cp ln lo (cit ln n lo j).1 (cit ln n lo j).2.1 i).2.2) || (cst (ln i) ((cp ln lo (cit ln n lo j).1 (cit ln n lo j).2.1 i).1) ((cp ln lo (cit ln n lo j).1 (cit ln n lo j).2.1 i).2.1)).2.2)), .ref ma9, .ref ma10, .ref ma11, .ref ma12, .int (nI mm), .int (nI pl), .ref ma15, .int (nI wm), .long hh])), (ma0, .inl (E.2.1, 15, .inl (aN Nw))), (ma9, .inl (E.2.1, 10, .inl (aN ((cst (ln i) ((cp ln lo (cit ln n lo j).1 (cit ln n lo j).2.1 i).1) ((cp ln lo (cit ln n lo j).1 (cit ln n lo j).2.1 i).2.1)).1)))), (ma10, .inl (E.2.1, 10, .inl (aO ((cst (ln i) ((cp ln lo (cit ln n lo j).1 (cit ln n lo j).2.1 i).1) ((cp ln lo (cit ln n lo j).1 (cit ln n lo j).2.1 i).2.1)).2.1))))] rfl rfl [] rfl 67 rfl ?_
          refine G_iinc C dX7_laysCoarse_67 0 rfl (nI_1 _) (by decide) [(2, .int (nI (i + 1))), (0, .ref mo), (1, .int (oI lo))] rfl 70 rfl ?_
          refine G_goto C dX7_laysCoarse_70 47 rfl ?_
          refine G_eq (ws' := [(mo, .inr (7, [.ref ma0, .ref ma1, .ref ma2, .int (nI ns), .ref ma4, .ref ma5, .int (nI mlen), .ref ma7, .int (bI ((cp ln lo (cit ln n lo j).1 (cit ln n lo j).2.1 (i + 1)).2.2)), .ref ma9, .ref ma10, .ref ma11, .ref ma12, .int (nI mm), .int (nI pl), .ref ma15, .int (nI wm), .long hh])), (ma0, .inl (E.2.1, 15, .inl (aN Nw))), (ma9, .inl (E.2.1, 10, .inl (aN ((cp ln lo (cit ln n lo j).1 (cit ln n lo j).2.1 (i + 1)).1)))), (ma10, .inl (E.2.1, 10, .inl (aO ((cp ln lo (cit ln n lo j).1 (cit ln n lo j).2.1 (i + 1)).2.1))))]) (by simp only [cp]; rw [if_neg h_4]) rfl rfl ?_
          exact ih (i + 1) (by omega) (by omega)
  · refine G_aload_n C dX7_laysCoarse_8 rfl 9 rfl ?_
    refine G_getf C dX7_laysCoarse_9 wF_X7 wf_X7_28 (f := 9) (by decide) (ci := 7) rfl 0 rfl rfl 12 rfl ?_
    refine G_iload_n C dX7_laysCoarse_12 rfl 13 rfl ?_
    refine G_iload_n C dX7_laysCoarse_13 rfl 14 rfl ?_
    refine G_iastN C dX7_laysCoarse_14 2 rfl rfl (x := x) (by omega) [(mo, .inr (7, [.ref ma0, .ref ma1, .ref ma2, .int (nI ns), .ref ma4, .ref ma5, .int (nI mlen), .ref ma7, .int (bI gw), .ref ma9, .ref ma10, .ref ma11, .ref ma12, .int (nI mm), .int (nI pl), .ref ma15, .int (nI wm), .long hh])), (ma0, .inl (E.2.1, 15, .inl (aN Nw))), (ma9, .inl (E.2.1, 10, .inl (aN (va_up (flG (fun k => k) Gp x) x x)))), (ma10, .inl (E.2.1, 10, .inl (aO (flG (fun _ => none) Tt x))))] rfl 15 rfl ?_
    refine G_aload_n C dX7_laysCoarse_15 rfl 16 rfl ?_
    refine G_getf C dX7_laysCoarse_16 wF_X7 wf_X7_31 (f := 10) (by decide) (ci := 7) rfl 0 rfl rfl 19 rfl ?_
    refine G_iload_n C dX7_laysCoarse_19 rfl 20 rfl ?_
    refine G_iconst C dX7_laysCoarse_20 (v := oI none) rfl 21 rfl ?_
    refine G_iastO C dX7_laysCoarse_21 3 rfl rfl (x := none) (by omega) [(mo, .inr (7, [.ref ma0, .ref ma1, .ref ma2, .int (nI ns), .ref ma4, .ref ma5, .int (nI mlen), .ref ma7, .int (bI gw), .ref ma9, .ref ma10, .ref ma11, .ref ma12, .int (nI mm), .int (nI pl), .ref ma15, .int (nI wm), .long hh])), (ma0, .inl (E.2.1, 15, .inl (aN Nw))), (ma9, .inl (E.2.1, 10, .inl (aN (va_up (flG (fun k => k) Gp x) x x)))), (ma10, .inl (E.2.1, 10, .inl (aO (va_up (flG (fun _ => none) Tt x) x none))))] rfl 22 rfl ?_
    refine G_iinc C dX7_laysCoarse_22 0 rfl (nI_1 _) (by decide) [(2, .int (nI (x + 1))), (0, .ref mo), (1, .int (oI lo))] rfl 25 rfl ?_
    refine G_goto C dX7_laysCoarse_25 2 rfl ?_
    refine G_eq (ws' := [(mo, .inr (7, [.ref ma0, .ref ma1, .ref ma2, .int (nI ns), .ref ma4, .ref ma5, .int (nI mlen), .ref ma7, .int (bI gw), .ref ma9, .ref ma10, .ref ma11, .ref ma12, .int (nI mm), .int (nI pl), .ref ma15, .int (nI wm), .long hh])), (ma0, .inl (E.2.1, 15, .inl (aN Nw))), (ma9, .inl (E.2.1, 10, .inl (aN (flG (fun k => k) Gp (x + 1))))), (ma10, .inl (E.2.1, 10, .inl (aO (flG (fun _ => none) Tt (x + 1)))))]) (by rw [flG_s (fun k => k) Gp x, flG_s (fun _ => none) Tt x]) rfl rfl ?_
    exact ihx (x + 1) (by omega) (by omega)

set_option maxHeartbeats 4000000 in
set_option maxRecDepth 100000 in
theorem c_X7_groupSet (l : Launch) (E : gE) (mo ma0 ma1 ma2 ma4 ma5 ma7 ma9 ma10 ma11 ma12 ma15 ns mlen mm pl wm : Nat) (gw : Bool) (hh : Int64) (Gp : Nat → Nat) (Tt : Nat → Option Nat) (t : Option Nat) (hG : gok Gp) (ht : ook t) : FD l E yX7_groupSet cX7_groupSet 4 (some .int) { frames := 0, cells := 0, slots := 0, locals := 0 } [.ref mo, .int (oI t)] [(mo, .inr (7, [.ref ma0, .ref ma1, .ref ma2, .int (nI ns), .ref ma4, .ref ma5, .int (nI mlen), .ref ma7, .int (bI gw), .ref ma9, .ref ma10, .ref ma11, .ref ma12, .int (nI mm), .int (nI pl), .ref ma15, .int (nI wm), .long hh])), (ma9, .inl (E.2.1, 10, .inl (aN Gp))), (ma10, .inl (E.2.1, 10, .inl (aO Tt)))] (some (.int (nI (mem Gp t 10)))) [(mo, .inr (7, [.ref ma0, .ref ma1, .ref ma2, .int (nI ns), .ref ma4, .ref ma5, .int (nI mlen), .ref ma7, .int (bI gw), .ref ma9, .ref ma10, .ref ma11, .ref ma12, .int (nI mm), .int (nI pl), .ref ma15, .int (nI wm), .long hh])), (ma9, .inl (E.2.1, 10, .inl (aN Gp))), (ma10, .inl (E.2.1, 10, .inl (aO Tt)))] := by
  refine Fn_ofL (own := RX7) (by decide) rfl rfl [(0, .ref mo), (1, .int (oI t))] rfl ?_
  intro p e s m below meth c A C hr hnm
  refine G_iconst C dX7_groupSet_0 (v := nI 0) rfl 1 rfl ?_
  refine G_istore_n C dX7_groupSet_1 (by decide) [(2, .int (nI 0)), (0, .ref mo), (1, .int (oI t))] rfl 2 rfl ?_
  refine G_iconst C dX7_groupSet_2 (v := nI 0) rfl 3 rfl ?_
  refine G_istore_n C dX7_groupSet_3 (by decide) [(3, .int (nI 0)), (2, .int (nI 0)), (0, .ref mo), (1, .int (oI t))] rfl 4 rfl ?_
  refine G_sel [1, 0, 2, 3] [(2, .int (nI 0)), (3, .int (nI 0)), (0, .ref mo), (1, .int (oI t))] rfl ?_
  refine G_while (X := Nat) (Wf := fun i => [(mo, .inr (7, [.ref ma0, .ref ma1, .ref ma2, .int (nI ns), .ref ma4, .ref ma5, .int (nI mlen), .ref ma7, .int (bI gw), .ref ma9, .ref ma10, .ref ma11, .ref ma12, .int (nI mm), .int (nI pl), .ref ma15, .int (nI wm), .long hh])), (ma9, .inl (E.2.1, 10, .inl (aN Gp))), (ma10, .inl (E.2.1, 10, .inl (aO Tt)))]) (Lf := fun i => [(2, .int (nI (mem Gp t i))), (3, .int (nI i)), (0, .ref mo), (1, .int (oI t))]) (Sf := fun _ => []) (fun i => i ≤ 10) (fun i => 10 - i) (fun i hi ih => ?_) 0 (by omega)
  refine G_iload_n C dX7_groupSet_4 rfl 5 rfl ?_
  refine G_bipush C dX7_groupSet_5 (v := nI 10) (by decide) 7 rfl ?_
  refine G_icmp_ge C dX7_groupSet_7 36 rfl 10 rfl (nI_leI (by omega) (by omega)) (fun h_1 => ?_) (fun h_1 => ?_)
  · refine G_iload_n C dX7_groupSet_36 rfl 37 rfl ?_
    exact G_iret C hr dX7_groupSet_37 rfl () trivial (by rw [show i = 10 by omega]) rfl
  · refine G_iload_n C dX7_groupSet_10 rfl 11 rfl ?_
    refine G_aload_n C dX7_groupSet_11 rfl 12 rfl ?_
    refine G_getf C dX7_groupSet_12 wF_X7 wf_X7_28 (f := 9) (by decide) (ci := 7) rfl 0 rfl rfl 15 rfl ?_
    refine G_iload_n C dX7_groupSet_15 rfl 16 rfl ?_
    refine G_ialdN C dX7_groupSet_16 1 rfl rfl (by omega) 17 rfl ?_
    refine G_iload_n C dX7_groupSet_17 rfl 18 rfl ?_
    refine G_icmp_ne C dX7_groupSet_18 27 rfl 21 rfl (oI_eq (t := some (Gp i)) (u := t) (ook.b (ook_s (hG i (by omega)))) ht.b) (fun h_2 => ?_) (fun h_2 => ?_)
    · refine G_iconst C dX7_groupSet_27 (v := nI 0) rfl 28 rfl ?_
      refine G_ior C dX7_groupSet_28 (v := nI ((mem Gp t i) ||| 0)) (fa_or _ _) 29 rfl ?_
      refine G_istore_n C dX7_groupSet_29 (by decide) [(2, .int (nI ((mem Gp t i) ||| 0))), (3, .int (nI i)), (0, .ref mo), (1, .int (oI t))] rfl 30 rfl ?_
      refine G_iinc C dX7_groupSet_30 1 rfl (nI_1 _) (by decide) [(3, .int (nI (i + 1))), (2, .int (nI ((mem Gp t i) ||| 0))), (0, .ref mo), (1, .int (oI t))] rfl 33 rfl ?_
      refine G_goto C dX7_groupSet_33 4 rfl ?_
      refine G_sel [1, 0, 2, 3] [(2, .int (nI ((mem Gp t i) ||| 0))), (3, .int (nI (i + 1))), (0, .ref mo), (1, .int (oI t))] rfl ?_
      refine G_eq (ws' := [(mo, .inr (7, [.ref ma0, .ref ma1, .ref ma2, .int (nI ns), .ref ma4, .ref ma5, .int (nI mlen), .ref ma7, .int (bI gw), .ref ma9, .ref ma10, .ref ma11, .ref ma12, .int (nI mm), .int (nI pl), .ref ma15, .int (nI wm), .long hh])), (ma9, .inl (E.2.1, 10, .inl (aN Gp))), (ma10, .inl (E.2.1, 10, .inl (aO Tt)))]) (L' := [(2, .int (nI (mem Gp t (i + 1)))), (3, .int (nI (i + 1))), (0, .ref mo), (1, .int (oI t))]) rfl (by simp [mem, h_2]) rfl ?_
      exact ih (i + 1) (by omega) (by omega)
    · refine G_iconst C dX7_groupSet_21 (v := nI 1) rfl 22 rfl ?_
      refine G_iload_n C dX7_groupSet_22 rfl 23 rfl ?_
      refine G_ishl C dX7_groupSet_23 (v := nI (2 ^ i)) (nI_bit _ (by omega)) 24 rfl ?_
      refine G_goto C dX7_groupSet_24 28 rfl ?_
      refine G_ior C dX7_groupSet_28 (v := nI ((mem Gp t i) ||| (2 ^ i))) (fa_or _ _) 29 rfl ?_
      refine G_istore_n C dX7_groupSet_29 (by decide) [(2, .int (nI ((mem Gp t i) ||| (2 ^ i)))), (3, .int (nI i)), (0, .ref mo), (1, .int (oI t))] rfl 30 rfl ?_
      refine G_iinc C dX7_groupSet_30 1 rfl (nI_1 _) (by decide) [(3, .int (nI (i + 1))), (2, .int (nI ((mem Gp t i) ||| (2 ^ i)))), (0, .ref mo), (1, .int (oI t))] rfl 33 rfl ?_
      refine G_goto C dX7_groupSet_33 4 rfl ?_
      refine G_sel [1, 0, 2, 3] [(2, .int (nI ((mem Gp t i) ||| (2 ^ i)))), (3, .int (nI (i + 1))), (0, .ref mo), (1, .int (oI t))] rfl ?_
      refine G_eq (ws' := [(mo, .inr (7, [.ref ma0, .ref ma1, .ref ma2, .int (nI ns), .ref ma4, .ref ma5, .int (nI mlen), .ref ma7, .int (bI gw), .ref ma9, .ref ma10, .ref ma11, .ref ma12, .int (nI mm), .int (nI pl), .ref ma15, .int (nI wm), .long hh])), (ma9, .inl (E.2.1, 10, .inl (aN Gp))), (ma10, .inl (E.2.1, 10, .inl (aO Tt)))]) (L' := [(2, .int (nI (mem Gp t (i + 1)))), (3, .int (nI (i + 1))), (0, .ref mo), (1, .int (oI t))]) rfl (by simp [mem, h_2]) rfl ?_
      exact ih (i + 1) (by omega) (by omega)

set_option maxHeartbeats 4000000 in
set_option maxRecDepth 100000 in
theorem c_X7_coarseOf (l : Launch) (E : gE) (mo ma0 ma1 ma2 ma4 ma5 ma7 ma9 ma10 ma11 ma12 ma15 ns mlen mm pl wm : Nat) (gw : Bool) (hh : Int64) (Gp : Nat → Nat) (Tt : Nat → Option Nat) (x : Nat) (hG : gok Gp) (hT : tok Tt) (hx : x < 10) : FD l E yX7_coarseOf cX7_coarseOf 3 (some .int) { frames := 1, cells := 0, slots := 0, locals := 23 } [.ref mo, .int (nI x)] [(mo, .inr (7, [.ref ma0, .ref ma1, .ref ma2, .int (nI ns), .ref ma4, .ref ma5, .int (nI mlen), .ref ma7, .int (bI gw), .ref ma9, .ref ma10, .ref ma11, .ref ma12, .int (nI mm), .int (nI pl), .ref ma15, .int (nI wm), .long hh])), (ma9, .inl (E.2.1, 10, .inl (aN Gp))), (ma10, .inl (E.2.1, 10, .inl (aO Tt)))] (some (.int (nI (cse Gp Tt x)))) [(mo, .inr (7, [.ref ma0, .ref ma1, .ref ma2, .int (nI ns), .ref ma4, .ref ma5, .int (nI mlen), .ref ma7, .int (bI gw), .ref ma9, .ref ma10, .ref ma11, .ref ma12, .int (nI mm), .int (nI pl), .ref ma15, .int (nI wm), .long hh])), (ma9, .inl (E.2.1, 10, .inl (aN Gp))), (ma10, .inl (E.2.1, 10, .inl (aO Tt)))] := by
  refine Fn_ofL (own := RX7) (by decide) rfl rfl [(0, .ref mo), (1, .int (nI x))] rfl ?_
  intro p e s m below meth c A C hr hnm
  refine G_aload_n C dX7_coarseOf_0 rfl 1 rfl ?_
  refine G_getf C dX7_coarseOf_1 wF_X7 wf_X7_31 (f := 10) (by decide) (ci := 7) rfl 0 rfl rfl 4 rfl ?_
  refine G_aload_n C dX7_coarseOf_4 rfl 5 rfl ?_
  refine G_getf C dX7_coarseOf_5 wF_X7 wf_X7_28 (f := 9) (by decide) (ci := 7) rfl 0 rfl rfl 8 rfl ?_
  refine G_iload_n C dX7_coarseOf_8 rfl 9 rfl ?_
  refine G_ialdN C dX7_coarseOf_9 1 rfl rfl (by omega) 10 rfl ?_
  refine G_ialdO C dX7_coarseOf_10 2 rfl rfl (hG _ hx) 11 rfl ?_
  refine G_istore_n C dX7_coarseOf_11 (by decide) [(2, .int (oI (Tt (Gp x)))), (0, .ref mo), (1, .int (nI x))] rfl 12 rfl ?_
  refine G_iload_n C dX7_coarseOf_12 rfl 13 rfl ?_
  refine G_iconst C dX7_coarseOf_13 (v := oI none) rfl 14 rfl ?_
  refine G_icmp_ne C dX7_coarseOf_14 21 rfl 17 rfl (oI_none (hT _ (hG _ hx)).b) (fun h_1 => ?_) (fun h_1 => ?_)
  · refine G_aload_n C dX7_coarseOf_21 rfl 22 rfl ?_
    refine G_iload_n C dX7_coarseOf_22 rfl 23 rfl ?_
    refine G_cV C dX7_coarseOf_23 (c_X7_groupSet l E mo ma0 ma1 ma2 ma4 ma5 ma7 ma9 ma10 ma11 ma12 ma15 ns mlen mm pl wm gw hh Gp Tt (Tt (Gp x)) (by first | assumption | omega) (hT _ (hG _ hx))) wm_X7_99 wi_X7_groupSet wsel_X7_groupSet wn_X7 wc_X7_groupSet rfl rfl ⟨by decide, by decide, rfl⟩ rfl (Nat.le_of_ble_eq_true rfl) 7 rfl rfl 0 rfl [0, 1, 2] [] (wr := []) rfl rfl rfl rfl rfl [0, 1, 2] rfl [(mo, .inr (7, [.ref ma0, .ref ma1, .ref ma2, .int (nI ns), .ref ma4, .ref ma5, .int (nI mlen), .ref ma7, .int (bI gw), .ref ma9, .ref ma10, .ref ma11, .ref ma12, .int (nI mm), .int (nI pl), .ref ma15, .int (nI wm), .long hh])), (ma9, .inl (E.2.1, 10, .inl (aN Gp))), (ma10, .inl (E.2.1, 10, .inl (aO Tt)))] rfl rfl [.int (nI (mem Gp (Tt (Gp x)) 10))] rfl 26 rfl ?_
    exact G_iret C hr dX7_coarseOf_26 rfl () trivial rfl rfl
  · refine G_iconst C dX7_coarseOf_17 (v := nI 0) rfl 18 rfl ?_
    refine G_goto C dX7_coarseOf_18 26 rfl ?_
    exact G_iret C hr dX7_coarseOf_26 rfl () trivial (by simp only [cse]; rw [h_1, mem_none]) rfl

set_option maxHeartbeats 4000000 in
set_option maxRecDepth 100000 in
theorem c_X7_writes (l : Launch) (E : gE) (mo ma0 ma1 ma2 ma4 ma5 ma7 ma9 ma10 ma11 ma12 ma15 ns mlen mm pl wm : Nat) (gw : Bool) (hh : Int64) (Nw : Nat → Nat) (S : Nat → Nat) (i v : Nat) (hi : i < 14) (hc : Nw (1 + i) = v) (hv : v < 400) : FD l E yX7_writes cX7_writes 2 (some .int) { frames := 1, cells := 0, slots := 0, locals := 21 } [.ref mo, .int (nI i)] [(mo, .inr (7, [.ref ma0, .ref ma1, .ref ma2, .int (nI ns), .ref ma4, .ref ma5, .int (nI mlen), .ref ma7, .int (bI gw), .ref ma9, .ref ma10, .ref ma11, .ref ma12, .int (nI mm), .int (nI pl), .ref ma15, .int (nI wm), .long hh])), (ma0, .inl (E.2.1, 15, .inl (aN Nw))), (ma7, .inl (E.2.1, 10, .inl (aN S)))] (some (.int (nI (wrs v S)))) [(mo, .inr (7, [.ref ma0, .ref ma1, .ref ma2, .int (nI ns), .ref ma4, .ref ma5, .int (nI mlen), .ref ma7, .int (bI gw), .ref ma9, .ref ma10, .ref ma11, .ref ma12, .int (nI mm), .int (nI pl), .ref ma15, .int (nI wm), .long hh])), (ma0, .inl (E.2.1, 15, .inl (aN Nw))), (ma7, .inl (E.2.1, 10, .inl (aN S)))] := by
  refine Fn_ofL (own := RX7) (by decide) rfl rfl [(0, .ref mo), (1, .int (nI i))] rfl ?_
  intro p e s m below meth c A C hr hnm
  refine G_aload_n C dX7_writes_0 rfl 1 rfl ?_
  refine G_iload_n C dX7_writes_1 rfl 2 rfl ?_
  refine G_cV C dX7_writes_2 (c_X7_sortOf l E mo ma0 ma1 ma2 ma4 ma5 ma7 ma9 ma10 ma11 ma12 ma15 ns mlen mm pl wm gw hh Nw i v (by first | assumption | omega) (by first | assumption | omega) (by first | assumption | omega)) wm_X7_75 wi_X7_sortOf wsel_X7_sortOf wn_X7 wc_X7_sortOf rfl rfl ⟨by decide, by decide, rfl⟩ rfl (Nat.le_of_ble_eq_true rfl) 7 rfl rfl 0 rfl [0, 1] [2] (wr := [(ma7, .inl (E.2.1, 10, .inl (aN S)))]) rfl rfl rfl rfl rfl [1, 2, 0] rfl [(mo, .inr (7, [.ref ma0, .ref ma1, .ref ma2, .int (nI ns), .ref ma4, .ref ma5, .int (nI mlen), .ref ma7, .int (bI gw), .ref ma9, .ref ma10, .ref ma11, .ref ma12, .int (nI mm), .int (nI pl), .ref ma15, .int (nI wm), .long hh])), (ma0, .inl (E.2.1, 15, .inl (aN Nw))), (ma7, .inl (E.2.1, 10, .inl (aN S)))] rfl rfl [.int (nI (v / 100))] rfl 5 rfl ?_
  refine G_iconst C dX7_writes_5 (v := nI 3) rfl 6 rfl ?_
  refine G_icmp_ne C dX7_writes_6 22 rfl 9 rfl (nI_eq (by omega) (by omega)) (fun h_1 => ?_) (fun h_1 => ?_)
  · refine G_iconst C dX7_writes_22 (v := nI 1) rfl 23 rfl ?_
    refine G_aload_n C dX7_writes_23 rfl 24 rfl ?_
    refine G_iload_n C dX7_writes_24 rfl 25 rfl ?_
    refine G_cV C dX7_writes_25 (c_X7_xOf l E mo ma0 ma1 ma2 ma4 ma5 ma7 ma9 ma10 ma11 ma12 ma15 ns mlen mm pl wm gw hh Nw i v (by first | assumption | omega) (by first | assumption | omega) (by first | assumption | omega)) wm_X7_69 wi_X7_xOf wsel_X7_xOf wn_X7 wc_X7_xOf rfl rfl ⟨by decide, by decide, rfl⟩ rfl (Nat.le_of_ble_eq_true rfl) 7 rfl rfl 0 rfl [0, 1] [2] (wr := [(ma7, .inl (E.2.1, 10, .inl (aN S)))]) rfl rfl rfl rfl rfl [1, 2, 0] rfl [(mo, .inr (7, [.ref ma0, .ref ma1, .ref ma2, .int (nI ns), .ref ma4, .ref ma5, .int (nI mlen), .ref ma7, .int (bI gw), .ref ma9, .ref ma10, .ref ma11, .ref ma12, .int (nI mm), .int (nI pl), .ref ma15, .int (nI wm), .long hh])), (ma0, .inl (E.2.1, 15, .inl (aN Nw))), (ma7, .inl (E.2.1, 10, .inl (aN S)))] rfl rfl [.int (nI (v / 10 % 10)), .int (nI 1)] rfl 28 rfl ?_
    refine G_ishl C dX7_writes_28 (v := nI (2 ^ (v / 10 % 10))) (nI_bit _ (by omega)) 29 rfl ?_
    exact G_iret C hr dX7_writes_29 rfl () trivial (by simp [wrs, h_1]) rfl
  · refine G_aload_n C dX7_writes_9 rfl 10 rfl ?_
    refine G_getf C dX7_writes_10 wF_X7 wf_X7_25 (f := 7) (by decide) (ci := 7) rfl 0 rfl rfl 13 rfl ?_
    refine G_aload_n C dX7_writes_13 rfl 14 rfl ?_
    refine G_iload_n C dX7_writes_14 rfl 15 rfl ?_
    refine G_cV C dX7_writes_15 (c_X7_xOf l E mo ma0 ma1 ma2 ma4 ma5 ma7 ma9 ma10 ma11 ma12 ma15 ns mlen mm pl wm gw hh Nw i v (by first | assumption | omega) (by first | assumption | omega) (by first | assumption | omega)) wm_X7_69 wi_X7_xOf wsel_X7_xOf wn_X7 wc_X7_xOf rfl rfl ⟨by decide, by decide, rfl⟩ rfl (Nat.le_of_ble_eq_true rfl) 7 rfl rfl 0 rfl [0, 1] [2] (wr := [(ma7, .inl (E.2.1, 10, .inl (aN S)))]) rfl rfl rfl rfl rfl [1, 2, 0] rfl [(mo, .inr (7, [.ref ma0, .ref ma1, .ref ma2, .int (nI ns), .ref ma4, .ref ma5, .int (nI mlen), .ref ma7, .int (bI gw), .ref ma9, .ref ma10, .ref ma11, .ref ma12, .int (nI mm), .int (nI pl), .ref ma15, .int (nI wm), .long hh])), (ma0, .inl (E.2.1, 15, .inl (aN Nw))), (ma7, .inl (E.2.1, 10, .inl (aN S)))] rfl rfl [.int (nI (v / 10 % 10)), .ref ma7] rfl 18 rfl ?_
    refine G_ialdN C dX7_writes_18 2 rfl rfl (by omega) 19 rfl ?_
    refine G_goto C dX7_writes_19 29 rfl ?_
    exact G_iret C hr dX7_writes_29 rfl () trivial (by simp [wrs, h_1]) rfl

set_option maxHeartbeats 4000000 in
set_option maxRecDepth 100000 in
theorem c_X7_readBy (l : Launch) (E : gE) (mo ma0 ma1 ma2 ma4 ma5 ma7 ma9 ma10 ma11 ma12 ma15 ns mlen mm pl wm : Nat) (gw : Bool) (hh : Int64) (Nw : Nat → Nat) (S : Nat → Nat) (i v : Nat) (hi : i < 14) (hc : Nw (1 + i) = v) (hv : v < 400) : FD l E yX7_readBy cX7_readBy 3 (some .int) { frames := 1, cells := 0, slots := 0, locals := 21 } [.ref mo, .int (nI i)] [(mo, .inr (7, [.ref ma0, .ref ma1, .ref ma2, .int (nI ns), .ref ma4, .ref ma5, .int (nI mlen), .ref ma7, .int (bI gw), .ref ma9, .ref ma10, .ref ma11, .ref ma12, .int (nI mm), .int (nI pl), .ref ma15, .int (nI wm), .long hh])), (ma0, .inl (E.2.1, 15, .inl (aN Nw))), (ma7, .inl (E.2.1, 10, .inl (aN S)))] (some (.int (nI (rds v S)))) [(mo, .inr (7, [.ref ma0, .ref ma1, .ref ma2, .int (nI ns), .ref ma4, .ref ma5, .int (nI mlen), .ref ma7, .int (bI gw), .ref ma9, .ref ma10, .ref ma11, .ref ma12, .int (nI mm), .int (nI pl), .ref ma15, .int (nI wm), .long hh])), (ma0, .inl (E.2.1, 15, .inl (aN Nw))), (ma7, .inl (E.2.1, 10, .inl (aN S)))] := by
  refine Fn_ofL (own := RX7) (by decide) rfl rfl [(0, .ref mo), (1, .int (nI i))] rfl ?_
  intro p e s m below meth c A C hr hnm
  refine G_iconst C dX7_readBy_0 (v := nI 1) rfl 1 rfl ?_
  refine G_aload_n C dX7_readBy_1 rfl 2 rfl ?_
  refine G_iload_n C dX7_readBy_2 rfl 3 rfl ?_
  refine G_cV C dX7_readBy_3 (c_X7_yOf l E mo ma0 ma1 ma2 ma4 ma5 ma7 ma9 ma10 ma11 ma12 ma15 ns mlen mm pl wm gw hh Nw i v (by first | assumption | omega) (by first | assumption | omega) (by first | assumption | omega)) wm_X7_72 wi_X7_yOf wsel_X7_yOf wn_X7 wc_X7_yOf rfl rfl ⟨by decide, by decide, rfl⟩ rfl (Nat.le_of_ble_eq_true rfl) 7 rfl rfl 0 rfl [0, 1] [2] (wr := [(ma7, .inl (E.2.1, 10, .inl (aN S)))]) rfl rfl rfl rfl rfl [1, 2, 0] rfl [(mo, .inr (7, [.ref ma0, .ref ma1, .ref ma2, .int (nI ns), .ref ma4, .ref ma5, .int (nI mlen), .ref ma7, .int (bI gw), .ref ma9, .ref ma10, .ref ma11, .ref ma12, .int (nI mm), .int (nI pl), .ref ma15, .int (nI wm), .long hh])), (ma0, .inl (E.2.1, 15, .inl (aN Nw))), (ma7, .inl (E.2.1, 10, .inl (aN S)))] rfl rfl [.int (nI (v % 10)), .int (nI 1)] rfl 6 rfl ?_
  refine G_ishl C dX7_readBy_6 (v := nI (2 ^ (v % 10))) (nI_bit _ (by omega)) 7 rfl ?_
  refine G_istore_n C dX7_readBy_7 (by decide) [(2, .int (nI (2 ^ (v % 10)))), (0, .ref mo), (1, .int (nI i))] rfl 8 rfl ?_
  refine G_aload_n C dX7_readBy_8 rfl 9 rfl ?_
  refine G_iload_n C dX7_readBy_9 rfl 10 rfl ?_
  refine G_cV C dX7_readBy_10 (c_X7_sortOf l E mo ma0 ma1 ma2 ma4 ma5 ma7 ma9 ma10 ma11 ma12 ma15 ns mlen mm pl wm gw hh Nw i v (by first | assumption | omega) (by first | assumption | omega) (by first | assumption | omega)) wm_X7_75 wi_X7_sortOf wsel_X7_sortOf wn_X7 wc_X7_sortOf rfl rfl ⟨by decide, by decide, rfl⟩ rfl (Nat.le_of_ble_eq_true rfl) 7 rfl rfl 0 rfl [0, 1] [2] (wr := [(ma7, .inl (E.2.1, 10, .inl (aN S)))]) rfl rfl rfl rfl rfl [1, 2, 0] rfl [(mo, .inr (7, [.ref ma0, .ref ma1, .ref ma2, .int (nI ns), .ref ma4, .ref ma5, .int (nI mlen), .ref ma7, .int (bI gw), .ref ma9, .ref ma10, .ref ma11, .ref ma12, .int (nI mm), .int (nI pl), .ref ma15, .int (nI wm), .long hh])), (ma0, .inl (E.2.1, 15, .inl (aN Nw))), (ma7, .inl (E.2.1, 10, .inl (aN S)))] rfl rfl [.int (nI (v / 100))] rfl 13 rfl ?_
  rcases (show v / 100 = 0 ∨ v / 100 = 1 ∨ v / 100 = 2 ∨ v / 100 = 3 by omega) with hs_1 | hs_1 | hs_1 | hs_1
  · refine G_top (v' := .int (nI 0)) (by rw [hs_1]) ?_
    refine G_tabIn C dX7_readBy_13 (27) (by decide) (by decide) rfl 40 rfl ?_
    refine G_iconst C dX7_readBy_40 (v := nI 0) rfl 41 rfl ?_
    exact G_iret C hr dX7_readBy_41 rfl () trivial (by simp [rds, hs_1]) rfl
  · refine G_top (v' := .int (nI 1)) (by rw [hs_1]) ?_
    refine G_tabIn C dX7_readBy_13 (29) (by decide) (by decide) rfl 42 rfl ?_
    refine G_iload_n C dX7_readBy_42 rfl 43 rfl ?_
    exact G_iret C hr dX7_readBy_43 rfl () trivial (by simp [rds, hs_1]) rfl
  · refine G_top (v' := .int (nI 2)) (by rw [hs_1]) ?_
    refine G_tabIn C dX7_readBy_13 (31) (by decide) (by decide) rfl 44 rfl ?_
    refine G_iload_n C dX7_readBy_44 rfl 45 rfl ?_
    refine G_aload_n C dX7_readBy_45 rfl 46 rfl ?_
    refine G_getf C dX7_readBy_46 wF_X7 wf_X7_25 (f := 7) (by decide) (ci := 7) rfl 0 rfl rfl 49 rfl ?_
    refine G_aload_n C dX7_readBy_49 rfl 50 rfl ?_
    refine G_iload_n C dX7_readBy_50 rfl 51 rfl ?_
    refine G_cV C dX7_readBy_51 (c_X7_yOf l E mo ma0 ma1 ma2 ma4 ma5 ma7 ma9 ma10 ma11 ma12 ma15 ns mlen mm pl wm gw hh Nw i v (by first | assumption | omega) (by first | assumption | omega) (by first | assumption | omega)) wm_X7_72 wi_X7_yOf wsel_X7_yOf wn_X7 wc_X7_yOf rfl rfl ⟨by decide, by decide, rfl⟩ rfl (Nat.le_of_ble_eq_true rfl) 7 rfl rfl 0 rfl [0, 1] [2] (wr := [(ma7, .inl (E.2.1, 10, .inl (aN S)))]) rfl rfl rfl rfl rfl [1, 2, 0] rfl [(mo, .inr (7, [.ref ma0, .ref ma1, .ref ma2, .int (nI ns), .ref ma4, .ref ma5, .int (nI mlen), .ref ma7, .int (bI gw), .ref ma9, .ref ma10, .ref ma11, .ref ma12, .int (nI mm), .int (nI pl), .ref ma15, .int (nI wm), .long hh])), (ma0, .inl (E.2.1, 15, .inl (aN Nw))), (ma7, .inl (E.2.1, 10, .inl (aN S)))] rfl rfl [.int (nI (v % 10)), .ref ma7, .int (nI (2 ^ (v % 10)))] rfl 54 rfl ?_
    refine G_ialdN C dX7_readBy_54 2 rfl rfl (by omega) 55 rfl ?_
    refine G_ior C dX7_readBy_55 (v := nI ((2 ^ (v % 10)) ||| (S (v % 10)))) (fa_or _ _) 56 rfl ?_
    exact G_iret C hr dX7_readBy_56 rfl () trivial (by simp [rds, hs_1]) rfl
  · refine G_top (v' := .int (nI 3)) (by rw [hs_1]) ?_
    refine G_tabOut C dX7_readBy_13 (by decide) 57 rfl ?_
    refine G_iload_n C dX7_readBy_57 rfl 58 rfl ?_
    refine G_iconst C dX7_readBy_58 (v := nI 1) rfl 59 rfl ?_
    refine G_aload_n C dX7_readBy_59 rfl 60 rfl ?_
    refine G_iload_n C dX7_readBy_60 rfl 61 rfl ?_
    refine G_cV C dX7_readBy_61 (c_X7_xOf l E mo ma0 ma1 ma2 ma4 ma5 ma7 ma9 ma10 ma11 ma12 ma15 ns mlen mm pl wm gw hh Nw i v (by first | assumption | omega) (by first | assumption | omega) (by first | assumption | omega)) wm_X7_69 wi_X7_xOf wsel_X7_xOf wn_X7 wc_X7_xOf rfl rfl ⟨by decide, by decide, rfl⟩ rfl (Nat.le_of_ble_eq_true rfl) 7 rfl rfl 0 rfl [0, 1] [2] (wr := [(ma7, .inl (E.2.1, 10, .inl (aN S)))]) rfl rfl rfl rfl rfl [1, 2, 0] rfl [(mo, .inr (7, [.ref ma0, .ref ma1, .ref ma2, .int (nI ns), .ref ma4, .ref ma5, .int (nI mlen), .ref ma7, .int (bI gw), .ref ma9, .ref ma10, .ref ma11, .ref ma12, .int (nI mm), .int (nI pl), .ref ma15, .int (nI wm), .long hh])), (ma0, .inl (E.2.1, 15, .inl (aN Nw))), (ma7, .inl (E.2.1, 10, .inl (aN S)))] rfl rfl [.int (nI (v / 10 % 10)), .int (nI 1), .int (nI (2 ^ (v % 10)))] rfl 64 rfl ?_
    refine G_ishl C dX7_readBy_64 (v := nI (2 ^ (v / 10 % 10))) (nI_bit _ (by omega)) 65 rfl ?_
    refine G_ior C dX7_readBy_65 (v := nI ((2 ^ (v % 10)) ||| (2 ^ (v / 10 % 10)))) (fa_or _ _) 66 rfl ?_
    exact G_iret C hr dX7_readBy_66 rfl () trivial (by simp [rds, hs_1, Nat.or_comm]) rfl

set_option maxHeartbeats 4000000 in
set_option maxRecDepth 100000 in
theorem c_X7_ofLine (l : Launch) (E : gE) (mo ma0 ma1 ma2 ma4 ma5 ma7 ma9 ma10 ma11 ma12 ma15 ns mlen mm pl wm : Nat) (gw : Bool) (hh : Int64) (Nw : Nat → Nat) (S : Nat → Nat) (i v wh : Nat) (hi : i < 14) (hc : Nw (1 + i) = v) (hv : v < 400) (hw : wh < 5) : FD l E yX7_ofLine cX7_ofLine 3 (some .int) { frames := 2, cells := 0, slots := 0, locals := 43 } [.ref mo, .int (nI i), .int (nI wh)] [(mo, .inr (7, [.ref ma0, .ref ma1, .ref ma2, .int (nI ns), .ref ma4, .ref ma5, .int (nI mlen), .ref ma7, .int (bI gw), .ref ma9, .ref ma10, .ref ma11, .ref ma12, .int (nI mm), .int (nI pl), .ref ma15, .int (nI wm), .long hh])), (ma0, .inl (E.2.1, 15, .inl (aN Nw))), (ma7, .inl (E.2.1, 10, .inl (aN S)))] (some (.int (nI (ofD v S wh)))) [(mo, .inr (7, [.ref ma0, .ref ma1, .ref ma2, .int (nI ns), .ref ma4, .ref ma5, .int (nI mlen), .ref ma7, .int (bI gw), .ref ma9, .ref ma10, .ref ma11, .ref ma12, .int (nI mm), .int (nI pl), .ref ma15, .int (nI wm), .long hh])), (ma0, .inl (E.2.1, 15, .inl (aN Nw))), (ma7, .inl (E.2.1, 10, .inl (aN S)))] := by
  refine Fn_ofL (own := RX7) (by decide) rfl rfl [(0, .ref mo), (1, .int (nI i)), (2, .int (nI wh))] rfl ?_
  intro p e s m below meth c A C hr hnm
  rcases (show wh = 0 ∨ wh = 1 ∨ wh = 2 ∨ wh = 3 ∨ wh = 4 by omega) with rfl | rfl | rfl | rfl | rfl
  · refine G_iload_n C dX7_ofLine_0 rfl 1 rfl ?_
    refine G_if_ne_f C dX7_ofLine_1 12 rfl 4 rfl (by decide) ?_
    refine G_aload_n C dX7_ofLine_4 rfl 5 rfl ?_
    refine G_iload_n C dX7_ofLine_5 rfl 6 rfl ?_
    refine G_cV C dX7_ofLine_6 (c_X7_sortOf l E mo ma0 ma1 ma2 ma4 ma5 ma7 ma9 ma10 ma11 ma12 ma15 ns mlen mm pl wm gw hh Nw i v (by first | assumption | omega) (by first | assumption | omega) (by first | assumption | omega)) wm_X7_75 wi_X7_sortOf wsel_X7_sortOf wn_X7 wc_X7_sortOf rfl rfl ⟨by decide, by decide, rfl⟩ rfl (Nat.le_of_ble_eq_true rfl) 7 rfl rfl 0 rfl [0, 1] [2] (wr := [(ma7, .inl (E.2.1, 10, .inl (aN S)))]) rfl rfl rfl rfl rfl [1, 2, 0] rfl [(mo, .inr (7, [.ref ma0, .ref ma1, .ref ma2, .int (nI ns), .ref ma4, .ref ma5, .int (nI mlen), .ref ma7, .int (bI gw), .ref ma9, .ref ma10, .ref ma11, .ref ma12, .int (nI mm), .int (nI pl), .ref ma15, .int (nI wm), .long hh])), (ma0, .inl (E.2.1, 15, .inl (aN Nw))), (ma7, .inl (E.2.1, 10, .inl (aN S)))] rfl rfl [.int (nI (v / 100))] rfl 9 rfl ?_
    refine G_goto C dX7_ofLine_9 56 rfl ?_
    exact G_iret C hr dX7_ofLine_56 rfl () trivial (by simp [ofD]) rfl
  · refine G_iload_n C dX7_ofLine_0 rfl 1 rfl ?_
    refine G_if_ne_t C dX7_ofLine_1 12 rfl (by decide) ?_
    refine G_iload_n C dX7_ofLine_12 rfl 13 rfl ?_
    refine G_iconst C dX7_ofLine_13 (v := nI 1) rfl 14 rfl ?_
    refine G_icmp_ne_f C dX7_ofLine_14 25 rfl 17 rfl (by decide) ?_
    refine G_aload_n C dX7_ofLine_17 rfl 18 rfl ?_
    refine G_iload_n C dX7_ofLine_18 rfl 19 rfl ?_
    refine G_cV C dX7_ofLine_19 (c_X7_xOf l E mo ma0 ma1 ma2 ma4 ma5 ma7 ma9 ma10 ma11 ma12 ma15 ns mlen mm pl wm gw hh Nw i v (by first | assumption | omega) (by first | assumption | omega) (by first | assumption | omega)) wm_X7_69 wi_X7_xOf wsel_X7_xOf wn_X7 wc_X7_xOf rfl rfl ⟨by decide, by decide, rfl⟩ rfl (Nat.le_of_ble_eq_true rfl) 7 rfl rfl 0 rfl [0, 1] [2] (wr := [(ma7, .inl (E.2.1, 10, .inl (aN S)))]) rfl rfl rfl rfl rfl [1, 2, 0] rfl [(mo, .inr (7, [.ref ma0, .ref ma1, .ref ma2, .int (nI ns), .ref ma4, .ref ma5, .int (nI mlen), .ref ma7, .int (bI gw), .ref ma9, .ref ma10, .ref ma11, .ref ma12, .int (nI mm), .int (nI pl), .ref ma15, .int (nI wm), .long hh])), (ma0, .inl (E.2.1, 15, .inl (aN Nw))), (ma7, .inl (E.2.1, 10, .inl (aN S)))] rfl rfl [.int (nI (v / 10 % 10))] rfl 22 rfl ?_
    refine G_goto C dX7_ofLine_22 56 rfl ?_
    exact G_iret C hr dX7_ofLine_56 rfl () trivial (by simp [ofD]) rfl
  · refine G_iload_n C dX7_ofLine_0 rfl 1 rfl ?_
    refine G_if_ne_t C dX7_ofLine_1 12 rfl (by decide) ?_
    refine G_iload_n C dX7_ofLine_12 rfl 13 rfl ?_
    refine G_iconst C dX7_ofLine_13 (v := nI 1) rfl 14 rfl ?_
    refine G_icmp_ne_t C dX7_ofLine_14 25 rfl (by decide) ?_
    refine G_iload_n C dX7_ofLine_25 rfl 26 rfl ?_
    refine G_iconst C dX7_ofLine_26 (v := nI 2) rfl 27 rfl ?_
    refine G_icmp_ne_f C dX7_ofLine_27 38 rfl 30 rfl (by decide) ?_
    refine G_aload_n C dX7_ofLine_30 rfl 31 rfl ?_
    refine G_iload_n C dX7_ofLine_31 rfl 32 rfl ?_
    refine G_cV C dX7_ofLine_32 (c_X7_yOf l E mo ma0 ma1 ma2 ma4 ma5 ma7 ma9 ma10 ma11 ma12 ma15 ns mlen mm pl wm gw hh Nw i v (by first | assumption | omega) (by first | assumption | omega) (by first | assumption | omega)) wm_X7_72 wi_X7_yOf wsel_X7_yOf wn_X7 wc_X7_yOf rfl rfl ⟨by decide, by decide, rfl⟩ rfl (Nat.le_of_ble_eq_true rfl) 7 rfl rfl 0 rfl [0, 1] [2] (wr := [(ma7, .inl (E.2.1, 10, .inl (aN S)))]) rfl rfl rfl rfl rfl [1, 2, 0] rfl [(mo, .inr (7, [.ref ma0, .ref ma1, .ref ma2, .int (nI ns), .ref ma4, .ref ma5, .int (nI mlen), .ref ma7, .int (bI gw), .ref ma9, .ref ma10, .ref ma11, .ref ma12, .int (nI mm), .int (nI pl), .ref ma15, .int (nI wm), .long hh])), (ma0, .inl (E.2.1, 15, .inl (aN Nw))), (ma7, .inl (E.2.1, 10, .inl (aN S)))] rfl rfl [.int (nI (v % 10))] rfl 35 rfl ?_
    refine G_goto C dX7_ofLine_35 56 rfl ?_
    exact G_iret C hr dX7_ofLine_56 rfl () trivial (by simp [ofD]) rfl
  · refine G_iload_n C dX7_ofLine_0 rfl 1 rfl ?_
    refine G_if_ne_t C dX7_ofLine_1 12 rfl (by decide) ?_
    refine G_iload_n C dX7_ofLine_12 rfl 13 rfl ?_
    refine G_iconst C dX7_ofLine_13 (v := nI 1) rfl 14 rfl ?_
    refine G_icmp_ne_t C dX7_ofLine_14 25 rfl (by decide) ?_
    refine G_iload_n C dX7_ofLine_25 rfl 26 rfl ?_
    refine G_iconst C dX7_ofLine_26 (v := nI 2) rfl 27 rfl ?_
    refine G_icmp_ne_t C dX7_ofLine_27 38 rfl (by decide) ?_
    refine G_iload_n C dX7_ofLine_38 rfl 39 rfl ?_
    refine G_iconst C dX7_ofLine_39 (v := nI 3) rfl 40 rfl ?_
    refine G_icmp_ne_f C dX7_ofLine_40 51 rfl 43 rfl (by decide) ?_
    refine G_aload_n C dX7_ofLine_43 rfl 44 rfl ?_
    refine G_iload_n C dX7_ofLine_44 rfl 45 rfl ?_
    refine G_cV C dX7_ofLine_45 (c_X7_writes l E mo ma0 ma1 ma2 ma4 ma5 ma7 ma9 ma10 ma11 ma12 ma15 ns mlen mm pl wm gw hh Nw S i v (by first | assumption | omega) (by first | assumption | omega) (by first | assumption | omega)) wm_X7_102 wi_X7_writes wsel_X7_writes wn_X7 wc_X7_writes rfl rfl ⟨by decide, by decide, rfl⟩ rfl (Nat.le_of_ble_eq_true rfl) 7 rfl rfl 0 rfl [0, 1, 2] [] (wr := []) rfl rfl rfl rfl rfl [0, 1, 2] rfl [(mo, .inr (7, [.ref ma0, .ref ma1, .ref ma2, .int (nI ns), .ref ma4, .ref ma5, .int (nI mlen), .ref ma7, .int (bI gw), .ref ma9, .ref ma10, .ref ma11, .ref ma12, .int (nI mm), .int (nI pl), .ref ma15, .int (nI wm), .long hh])), (ma0, .inl (E.2.1, 15, .inl (aN Nw))), (ma7, .inl (E.2.1, 10, .inl (aN S)))] rfl rfl [.int (nI (wrs v S))] rfl 48 rfl ?_
    refine G_goto C dX7_ofLine_48 56 rfl ?_
    exact G_iret C hr dX7_ofLine_56 rfl () trivial (by simp [ofD]) rfl
  · refine G_iload_n C dX7_ofLine_0 rfl 1 rfl ?_
    refine G_if_ne_t C dX7_ofLine_1 12 rfl (by decide) ?_
    refine G_iload_n C dX7_ofLine_12 rfl 13 rfl ?_
    refine G_iconst C dX7_ofLine_13 (v := nI 1) rfl 14 rfl ?_
    refine G_icmp_ne_t C dX7_ofLine_14 25 rfl (by decide) ?_
    refine G_iload_n C dX7_ofLine_25 rfl 26 rfl ?_
    refine G_iconst C dX7_ofLine_26 (v := nI 2) rfl 27 rfl ?_
    refine G_icmp_ne_t C dX7_ofLine_27 38 rfl (by decide) ?_
    refine G_iload_n C dX7_ofLine_38 rfl 39 rfl ?_
    refine G_iconst C dX7_ofLine_39 (v := nI 3) rfl 40 rfl ?_
    refine G_icmp_ne_t C dX7_ofLine_40 51 rfl (by decide) ?_
    refine G_aload_n C dX7_ofLine_51 rfl 52 rfl ?_
    refine G_iload_n C dX7_ofLine_52 rfl 53 rfl ?_
    refine G_cV C dX7_ofLine_53 (c_X7_readBy l E mo ma0 ma1 ma2 ma4 ma5 ma7 ma9 ma10 ma11 ma12 ma15 ns mlen mm pl wm gw hh Nw S i v (by first | assumption | omega) (by first | assumption | omega) (by first | assumption | omega)) wm_X7_105 wi_X7_readBy wsel_X7_readBy wn_X7 wc_X7_readBy rfl rfl ⟨by decide, by decide, rfl⟩ rfl (Nat.le_of_ble_eq_true rfl) 7 rfl rfl 0 rfl [0, 1, 2] [] (wr := []) rfl rfl rfl rfl rfl [0, 1, 2] rfl [(mo, .inr (7, [.ref ma0, .ref ma1, .ref ma2, .int (nI ns), .ref ma4, .ref ma5, .int (nI mlen), .ref ma7, .int (bI gw), .ref ma9, .ref ma10, .ref ma11, .ref ma12, .int (nI mm), .int (nI pl), .ref ma15, .int (nI wm), .long hh])), (ma0, .inl (E.2.1, 15, .inl (aN Nw))), (ma7, .inl (E.2.1, 10, .inl (aN S)))] rfl rfl [.int (nI (rds v S))] rfl 56 rfl ?_
    exact G_iret C hr dX7_ofLine_56 rfl () trivial (by simp [ofD]) rfl

set_option maxHeartbeats 4000000 in
set_option maxRecDepth 100000 in
theorem m_of_bad (l : Launch) (E : gE) (mo ma0 ma1 ma2 ma4 ma5 ma7 ma9 ma10 ma11 ma12 ma15 ns mlen mm pl wm : Nat) (gw : Bool) (hh : Int64) (Nw : Nat → Nat) (Rf : Nat → Nat) (n : Nat) (va vb : Int32) (h0 : Nw 0 = n) (hn : n ≤ 14) (hbad : inb va n = false ∨ inb vb 5 = false) : FD l E yX7_of cX7_of 3 (some .int) { frames := 3, cells := 0, slots := 0, locals := 68 } [.ref mo, .int va, .int vb] [(mo, .inr (7, [.ref ma0, .ref ma1, .ref ma2, .int (nI ns), .ref ma4, .ref ma5, .int (nI mlen), .ref ma7, .int (bI gw), .ref ma9, .ref ma10, .ref ma11, .ref ma12, .int (nI mm), .int (nI pl), .ref ma15, .int (nI wm), .long hh])), (ma0, .inl (E.2.1, 15, .inl (aN Nw))), (ma4, .inl (E.2.1, 3, .inl (aN Rf)))] (some (.int (-2 : Int32))) [(mo, .inr (7, [.ref ma0, .ref ma1, .ref ma2, .int (nI ns), .ref ma4, .ref ma5, .int (nI mlen), .ref ma7, .int (bI gw), .ref ma9, .ref ma10, .ref ma11, .ref ma12, .int (nI mm), .int (nI pl), .ref ma15, .int (nI wm), .long hh])), (ma0, .inl (E.2.1, 15, .inl (aN Nw))), (ma4, .inl (E.2.1, 3, .inl (aN (va_up Rf 0 (Rf 0 + 1)))))] := by
  refine Fn_ofL (own := RX7) (by decide) rfl rfl [(0, .ref mo), (1, .int va), (2, .int vb)] rfl ?_
  intro p e s m below meth c A C hr hnm
  refine G_aload_n C dX7_of_0 rfl 1 rfl ?_
  refine G_iload_n C dX7_of_1 rfl 2 rfl ?_
  refine G_cV C dX7_of_2 (c_X7_isLine l E mo ma0 ma1 ma2 ma4 ma5 ma7 ma9 ma10 ma11 ma12 ma15 ns mlen mm pl wm gw hh Nw va n (by first | assumption | omega) (by first | assumption | omega)) wm_X7_62 wi_X7_isLine wsel_X7_isLine wn_X7 wc_X7_isLine rfl rfl ⟨by decide, by decide, rfl⟩ rfl (Nat.le_of_ble_eq_true rfl) 7 rfl rfl 0 rfl [0, 1] [2] (wr := [(ma4, .inl (E.2.1, 3, .inl (aN Rf)))]) rfl rfl rfl rfl rfl [1, 2, 0] rfl [(mo, .inr (7, [.ref ma0, .ref ma1, .ref ma2, .int (nI ns), .ref ma4, .ref ma5, .int (nI mlen), .ref ma7, .int (bI gw), .ref ma9, .ref ma10, .ref ma11, .ref ma12, .int (nI mm), .int (nI pl), .ref ma15, .int (nI wm), .long hh])), (ma0, .inl (E.2.1, 15, .inl (aN Nw))), (ma4, .inl (E.2.1, 3, .inl (aN Rf)))] rfl rfl [.int (bI (inb va n))] rfl 5 rfl ?_
  refine G_if_eq C dX7_of_5 17 rfl 8 rfl (bI_0 _) (fun h_1 => ?_) (fun h_1 => ?_)
  · refine G_aload_n C dX7_of_17 rfl 18 rfl ?_
    refine G_bipush C dX7_of_18 (v := (-2 : Int32)) (by decide) 20 rfl ?_
    refine G_cV C dX7_of_20 (c_X7_counts0 l E mo ma0 ma1 ma2 ma4 ma5 ma7 ma9 ma10 ma11 ma12 ma15 ns mlen mm pl wm gw hh Rf ) wm_X7_51 wi_X7_counts wsel_X7_counts wn_X7 wc_X7_counts rfl rfl ⟨by decide, by decide, rfl⟩ rfl (Nat.le_of_ble_eq_true rfl) 7 rfl rfl 0 rfl [0, 2] [1] (wr := [(ma0, .inl (E.2.1, 15, .inl (aN Nw)))]) rfl rfl rfl rfl rfl [1, 0, 2] rfl [(mo, .inr (7, [.ref ma0, .ref ma1, .ref ma2, .int (nI ns), .ref ma4, .ref ma5, .int (nI mlen), .ref ma7, .int (bI gw), .ref ma9, .ref ma10, .ref ma11, .ref ma12, .int (nI mm), .int (nI pl), .ref ma15, .int (nI wm), .long hh])), (ma0, .inl (E.2.1, 15, .inl (aN Nw))), (ma4, .inl (E.2.1, 3, .inl (aN (va_up Rf 0 (Rf 0 + 1)))))] rfl rfl [.int (-2 : Int32)] rfl 23 rfl ?_
    exact G_iret C hr dX7_of_23 rfl () trivial rfl rfl
  · refine G_iload_n C dX7_of_8 rfl 9 rfl ?_
    refine G_iconst C dX7_of_9 (v := nI 0) rfl 10 rfl ?_
    refine G_iconst C dX7_of_10 (v := nI 4) rfl 11 rfl ?_
    refine G_cS C dX7_of_11 (c_X7_within l E vb (nI 0) (nI 4) ) wm_X7_43 wt_X7_within wn_X7 wc_X7_within rfl rfl ⟨by decide, by decide, rfl⟩ rfl (Nat.le_of_ble_eq_true rfl) [] [0, 1, 2] (wr := [(mo, .inr (7, [.ref ma0, .ref ma1, .ref ma2, .int (nI ns), .ref ma4, .ref ma5, .int (nI mlen), .ref ma7, .int (bI gw), .ref ma9, .ref ma10, .ref ma11, .ref ma12, .int (nI mm), .int (nI pl), .ref ma15, .int (nI wm), .long hh])), (ma0, .inl (E.2.1, 15, .inl (aN Nw))), (ma4, .inl (E.2.1, 3, .inl (aN Rf)))]) rfl rfl rfl rfl rfl [0, 1, 2] rfl [(mo, .inr (7, [.ref ma0, .ref ma1, .ref ma2, .int (nI ns), .ref ma4, .ref ma5, .int (nI mlen), .ref ma7, .int (bI gw), .ref ma9, .ref ma10, .ref ma11, .ref ma12, .int (nI mm), .int (nI pl), .ref ma15, .int (nI wm), .long hh])), (ma0, .inl (E.2.1, 15, .inl (aN Nw))), (ma4, .inl (E.2.1, 3, .inl (aN Rf)))] rfl rfl [.int (bI (decide ((nI 0).toInt ≤ vb.toInt ∧ vb.toInt ≤ (nI 4).toInt)))] rfl 14 rfl ?_
    refine G_if_ne C dX7_of_14 24 rfl 17 rfl (wi_inb vb (n := 5) rfl (by omega)) (fun h_2 => ?_) (fun h_2 => ?_)
    · exact absurd hbad (by simp [h_1, h_2])
    · refine G_aload_n C dX7_of_17 rfl 18 rfl ?_
      refine G_bipush C dX7_of_18 (v := (-2 : Int32)) (by decide) 20 rfl ?_
      refine G_cV C dX7_of_20 (c_X7_counts0 l E mo ma0 ma1 ma2 ma4 ma5 ma7 ma9 ma10 ma11 ma12 ma15 ns mlen mm pl wm gw hh Rf ) wm_X7_51 wi_X7_counts wsel_X7_counts wn_X7 wc_X7_counts rfl rfl ⟨by decide, by decide, rfl⟩ rfl (Nat.le_of_ble_eq_true rfl) 7 rfl rfl 0 rfl [0, 2] [1] (wr := [(ma0, .inl (E.2.1, 15, .inl (aN Nw)))]) rfl rfl rfl rfl rfl [1, 0, 2] rfl [(mo, .inr (7, [.ref ma0, .ref ma1, .ref ma2, .int (nI ns), .ref ma4, .ref ma5, .int (nI mlen), .ref ma7, .int (bI gw), .ref ma9, .ref ma10, .ref ma11, .ref ma12, .int (nI mm), .int (nI pl), .ref ma15, .int (nI wm), .long hh])), (ma0, .inl (E.2.1, 15, .inl (aN Nw))), (ma4, .inl (E.2.1, 3, .inl (aN (va_up Rf 0 (Rf 0 + 1)))))] rfl rfl [.int (-2 : Int32)] rfl 23 rfl ?_
      exact G_iret C hr dX7_of_23 rfl () trivial rfl rfl

set_option maxHeartbeats 4000000 in
set_option maxRecDepth 100000 in
theorem m_of_ok (l : Launch) (E : gE) (mo ma0 ma1 ma2 ma4 ma5 ma7 ma9 ma10 ma11 ma12 ma15 ns mlen mm pl wm : Nat) (gw : Bool) (hh : Int64) (Nw : Nat → Nat) (S : Nat → Nat) (ln : Nat → Nat) (n i wh : Nat) (hok : mok n ln Nw) (hi : i < n) (hw : wh < 5) : FD l E yX7_of cX7_of 3 (some .int) { frames := 3, cells := 0, slots := 0, locals := 68 } [.ref mo, .int (nI i), .int (nI wh)] [(mo, .inr (7, [.ref ma0, .ref ma1, .ref ma2, .int (nI ns), .ref ma4, .ref ma5, .int (nI mlen), .ref ma7, .int (bI gw), .ref ma9, .ref ma10, .ref ma11, .ref ma12, .int (nI mm), .int (nI pl), .ref ma15, .int (nI wm), .long hh])), (ma0, .inl (E.2.1, 15, .inl (aN Nw))), (ma7, .inl (E.2.1, 10, .inl (aN S)))] (some (.int (nI (ofD (ln i) (fineC ln n none) wh)))) [(mo, .inr (7, [.ref ma0, .ref ma1, .ref ma2, .int (nI ns), .ref ma4, .ref ma5, .int (nI mlen), .ref ma7, .int (bI false), .ref ma9, .ref ma10, .ref ma11, .ref ma12, .int (nI mm), .int (nI pl), .ref ma15, .int (nI wm), .long hh])), (ma0, .inl (E.2.1, 15, .inl (aN Nw))), (ma7, .inl (E.2.1, 10, .inl (aN (fineC ln n none))))] := by
  refine Fn_ofL (own := RX7) (by decide) rfl rfl [(0, .ref mo), (1, .int (nI i)), (2, .int (nI wh))] rfl ?_
  intro p e s m below meth c A C hr hnm
  have h14 : n ≤ 14 := hok.n
  refine G_aload_n C dX7_of_0 rfl 1 rfl ?_
  refine G_iload_n C dX7_of_1 rfl 2 rfl ?_
  refine G_cV C dX7_of_2 (c_X7_isLine l E mo ma0 ma1 ma2 ma4 ma5 ma7 ma9 ma10 ma11 ma12 ma15 ns mlen mm pl wm gw hh Nw (nI i) n hok.z hok.n) wm_X7_62 wi_X7_isLine wsel_X7_isLine wn_X7 wc_X7_isLine rfl rfl ⟨by decide, by decide, rfl⟩ rfl (Nat.le_of_ble_eq_true rfl) 7 rfl rfl 0 rfl [0, 1] [2] (wr := [(ma7, .inl (E.2.1, 10, .inl (aN S)))]) rfl rfl rfl rfl rfl [1, 2, 0] rfl [(mo, .inr (7, [.ref ma0, .ref ma1, .ref ma2, .int (nI ns), .ref ma4, .ref ma5, .int (nI mlen), .ref ma7, .int (bI gw), .ref ma9, .ref ma10, .ref ma11, .ref ma12, .int (nI mm), .int (nI pl), .ref ma15, .int (nI wm), .long hh])), (ma0, .inl (E.2.1, 15, .inl (aN Nw))), (ma7, .inl (E.2.1, 10, .inl (aN S)))] rfl rfl [.int (bI (inb (nI i) n))] rfl 5 rfl ?_
  refine G_if_eq_f C dX7_of_5 17 rfl 8 rfl (inbT hi (by omega)) ?_
  refine G_iload_n C dX7_of_8 rfl 9 rfl ?_
  refine G_iconst C dX7_of_9 (v := nI 0) rfl 10 rfl ?_
  refine G_iconst C dX7_of_10 (v := nI 4) rfl 11 rfl ?_
  refine G_cS C dX7_of_11 (c_X7_within l E (nI wh) (nI 0) (nI 4) ) wm_X7_43 wt_X7_within wn_X7 wc_X7_within rfl rfl ⟨by decide, by decide, rfl⟩ rfl (Nat.le_of_ble_eq_true rfl) [] [0, 1, 2] (wr := [(mo, .inr (7, [.ref ma0, .ref ma1, .ref ma2, .int (nI ns), .ref ma4, .ref ma5, .int (nI mlen), .ref ma7, .int (bI gw), .ref ma9, .ref ma10, .ref ma11, .ref ma12, .int (nI mm), .int (nI pl), .ref ma15, .int (nI wm), .long hh])), (ma0, .inl (E.2.1, 15, .inl (aN Nw))), (ma7, .inl (E.2.1, 10, .inl (aN S)))]) rfl rfl rfl rfl rfl [0, 1, 2] rfl [(mo, .inr (7, [.ref ma0, .ref ma1, .ref ma2, .int (nI ns), .ref ma4, .ref ma5, .int (nI mlen), .ref ma7, .int (bI gw), .ref ma9, .ref ma10, .ref ma11, .ref ma12, .int (nI mm), .int (nI pl), .ref ma15, .int (nI wm), .long hh])), (ma0, .inl (E.2.1, 15, .inl (aN Nw))), (ma7, .inl (E.2.1, 10, .inl (aN S)))] rfl rfl [.int (bI (decide ((nI 0).toInt ≤ (nI wh).toInt ∧ (nI wh).toInt ≤ (nI 4).toInt)))] rfl 14 rfl ?_
  refine G_if_ne_t C dX7_of_14 24 rfl (wi_ok (by omega) (by omega)) ?_
  refine G_aload_n C dX7_of_24 rfl 25 rfl ?_
  refine G_iconst C dX7_of_25 (v := oI none) rfl 26 rfl ?_
  refine G_cV C dX7_of_26 (c_X7_laysFine l E mo ma0 ma1 ma2 ma4 ma5 ma7 ma9 ma10 ma11 ma12 ma15 ns mlen mm pl wm gw hh Nw S ln n none (by first | assumption | omega) (fun g h => by cases h)) wm_X7_108 wi_X7_laysFine wsel_X7_laysFine wn_X7 wc_X7_laysFine rfl rfl ⟨by decide, by decide, rfl⟩ rfl (Nat.le_of_ble_eq_true rfl) 7 rfl rfl 0 rfl [0, 1, 2] [] (wr := []) rfl rfl rfl rfl rfl [0, 1, 2] rfl [(mo, .inr (7, [.ref ma0, .ref ma1, .ref ma2, .int (nI ns), .ref ma4, .ref ma5, .int (nI mlen), .ref ma7, .int (bI false), .ref ma9, .ref ma10, .ref ma11, .ref ma12, .int (nI mm), .int (nI pl), .ref ma15, .int (nI wm), .long hh])), (ma0, .inl (E.2.1, 15, .inl (aN Nw))), (ma7, .inl (E.2.1, 10, .inl (aN (fineC ln n none))))] rfl rfl [] rfl 29 rfl ?_
  refine G_aload_n C dX7_of_29 rfl 30 rfl ?_
  refine G_iload_n C dX7_of_30 rfl 31 rfl ?_
  refine G_iload_n C dX7_of_31 rfl 32 rfl ?_
  refine G_cV C dX7_of_32 (c_X7_ofLine l E mo ma0 ma1 ma2 ma4 ma5 ma7 ma9 ma10 ma11 ma12 ma15 ns mlen mm pl wm false hh Nw (fineC ln n none) i (ln i) wh (by omega) (hok.c hi) (hok.v hi) (by first | assumption | omega)) wm_X7_111 wi_X7_ofLine wsel_X7_ofLine wn_X7 wc_X7_ofLine rfl rfl ⟨by decide, by decide, rfl⟩ rfl (Nat.le_of_ble_eq_true rfl) 7 rfl rfl 0 rfl [0, 1, 2] [] (wr := []) rfl rfl rfl rfl rfl [0, 1, 2] rfl [(mo, .inr (7, [.ref ma0, .ref ma1, .ref ma2, .int (nI ns), .ref ma4, .ref ma5, .int (nI mlen), .ref ma7, .int (bI false), .ref ma9, .ref ma10, .ref ma11, .ref ma12, .int (nI mm), .int (nI pl), .ref ma15, .int (nI wm), .long hh])), (ma0, .inl (E.2.1, 15, .inl (aN Nw))), (ma7, .inl (E.2.1, 10, .inl (aN (fineC ln n none))))] rfl rfl [.int (nI (ofD (ln i) (fineC ln n none) wh))] rfl 35 rfl ?_
  exact G_iret C hr dX7_of_35 rfl () trivial rfl rfl

set_option maxHeartbeats 4000000 in
set_option maxRecDepth 100000 in
theorem m_clash_bad (l : Launch) (E : gE) (mo ma0 ma1 ma2 ma4 ma5 ma7 ma9 ma10 ma11 ma12 ma15 ns mlen mm pl wm : Nat) (gw : Bool) (hh : Int64) (Nw : Nat → Nat) (Rf : Nat → Nat) (n : Nat) (va vb : Int32) (h0 : Nw 0 = n) (hn : n ≤ 14) (hbad : inb va n = false ∨ inb vb n = false ∨ va = vb) : FD l E yX7_clash cX7_clash 4 (some .int) { frames := 3, cells := 0, slots := 0, locals := 68 } [.ref mo, .int va, .int vb] [(mo, .inr (7, [.ref ma0, .ref ma1, .ref ma2, .int (nI ns), .ref ma4, .ref ma5, .int (nI mlen), .ref ma7, .int (bI gw), .ref ma9, .ref ma10, .ref ma11, .ref ma12, .int (nI mm), .int (nI pl), .ref ma15, .int (nI wm), .long hh])), (ma0, .inl (E.2.1, 15, .inl (aN Nw))), (ma4, .inl (E.2.1, 3, .inl (aN Rf)))] (some (.int (-2 : Int32))) [(mo, .inr (7, [.ref ma0, .ref ma1, .ref ma2, .int (nI ns), .ref ma4, .ref ma5, .int (nI mlen), .ref ma7, .int (bI gw), .ref ma9, .ref ma10, .ref ma11, .ref ma12, .int (nI mm), .int (nI pl), .ref ma15, .int (nI wm), .long hh])), (ma0, .inl (E.2.1, 15, .inl (aN Nw))), (ma4, .inl (E.2.1, 3, .inl (aN (va_up Rf 0 (Rf 0 + 1)))))] := by
  refine Fn_ofL (own := RX7) (by decide) rfl rfl [(0, .ref mo), (1, .int va), (2, .int vb)] rfl ?_
  intro p e s m below meth c A C hr hnm
  refine G_aload_n C dX7_clash_0 rfl 1 rfl ?_
  refine G_iload_n C dX7_clash_1 rfl 2 rfl ?_
  refine G_cV C dX7_clash_2 (c_X7_isLine l E mo ma0 ma1 ma2 ma4 ma5 ma7 ma9 ma10 ma11 ma12 ma15 ns mlen mm pl wm gw hh Nw va n (by first | assumption | omega) (by first | assumption | omega)) wm_X7_62 wi_X7_isLine wsel_X7_isLine wn_X7 wc_X7_isLine rfl rfl ⟨by decide, by decide, rfl⟩ rfl (Nat.le_of_ble_eq_true rfl) 7 rfl rfl 0 rfl [0, 1] [2] (wr := [(ma4, .inl (E.2.1, 3, .inl (aN Rf)))]) rfl rfl rfl rfl rfl [1, 2, 0] rfl [(mo, .inr (7, [.ref ma0, .ref ma1, .ref ma2, .int (nI ns), .ref ma4, .ref ma5, .int (nI mlen), .ref ma7, .int (bI gw), .ref ma9, .ref ma10, .ref ma11, .ref ma12, .int (nI mm), .int (nI pl), .ref ma15, .int (nI wm), .long hh])), (ma0, .inl (E.2.1, 15, .inl (aN Nw))), (ma4, .inl (E.2.1, 3, .inl (aN Rf)))] rfl rfl [.int (bI (inb va n))] rfl 5 rfl ?_
  refine G_if_eq C dX7_clash_5 21 rfl 8 rfl (bI_0 _) (fun h_1 => ?_) (fun h_1 => ?_)
  · refine G_aload_n C dX7_clash_21 rfl 22 rfl ?_
    refine G_bipush C dX7_clash_22 (v := (-2 : Int32)) (by decide) 24 rfl ?_
    refine G_cV C dX7_clash_24 (c_X7_counts0 l E mo ma0 ma1 ma2 ma4 ma5 ma7 ma9 ma10 ma11 ma12 ma15 ns mlen mm pl wm gw hh Rf ) wm_X7_51 wi_X7_counts wsel_X7_counts wn_X7 wc_X7_counts rfl rfl ⟨by decide, by decide, rfl⟩ rfl (Nat.le_of_ble_eq_true rfl) 7 rfl rfl 0 rfl [0, 2] [1] (wr := [(ma0, .inl (E.2.1, 15, .inl (aN Nw)))]) rfl rfl rfl rfl rfl [1, 0, 2] rfl [(mo, .inr (7, [.ref ma0, .ref ma1, .ref ma2, .int (nI ns), .ref ma4, .ref ma5, .int (nI mlen), .ref ma7, .int (bI gw), .ref ma9, .ref ma10, .ref ma11, .ref ma12, .int (nI mm), .int (nI pl), .ref ma15, .int (nI wm), .long hh])), (ma0, .inl (E.2.1, 15, .inl (aN Nw))), (ma4, .inl (E.2.1, 3, .inl (aN (va_up Rf 0 (Rf 0 + 1)))))] rfl rfl [.int (-2 : Int32)] rfl 27 rfl ?_
    exact G_iret C hr dX7_clash_27 rfl () trivial rfl rfl
  · refine G_aload_n C dX7_clash_8 rfl 9 rfl ?_
    refine G_iload_n C dX7_clash_9 rfl 10 rfl ?_
    refine G_cV C dX7_clash_10 (c_X7_isLine l E mo ma0 ma1 ma2 ma4 ma5 ma7 ma9 ma10 ma11 ma12 ma15 ns mlen mm pl wm gw hh Nw vb n (by first | assumption | omega) (by first | assumption | omega)) wm_X7_62 wi_X7_isLine wsel_X7_isLine wn_X7 wc_X7_isLine rfl rfl ⟨by decide, by decide, rfl⟩ rfl (Nat.le_of_ble_eq_true rfl) 7 rfl rfl 0 rfl [0, 1] [2] (wr := [(ma4, .inl (E.2.1, 3, .inl (aN Rf)))]) rfl rfl rfl rfl rfl [1, 2, 0] rfl [(mo, .inr (7, [.ref ma0, .ref ma1, .ref ma2, .int (nI ns), .ref ma4, .ref ma5, .int (nI mlen), .ref ma7, .int (bI gw), .ref ma9, .ref ma10, .ref ma11, .ref ma12, .int (nI mm), .int (nI pl), .ref ma15, .int (nI wm), .long hh])), (ma0, .inl (E.2.1, 15, .inl (aN Nw))), (ma4, .inl (E.2.1, 3, .inl (aN Rf)))] rfl rfl [.int (bI (inb vb n))] rfl 13 rfl ?_
    refine G_if_eq C dX7_clash_13 21 rfl 16 rfl (bI_0 _) (fun h_2 => ?_) (fun h_2 => ?_)
    · refine G_aload_n C dX7_clash_21 rfl 22 rfl ?_
      refine G_bipush C dX7_clash_22 (v := (-2 : Int32)) (by decide) 24 rfl ?_
      refine G_cV C dX7_clash_24 (c_X7_counts0 l E mo ma0 ma1 ma2 ma4 ma5 ma7 ma9 ma10 ma11 ma12 ma15 ns mlen mm pl wm gw hh Rf ) wm_X7_51 wi_X7_counts wsel_X7_counts wn_X7 wc_X7_counts rfl rfl ⟨by decide, by decide, rfl⟩ rfl (Nat.le_of_ble_eq_true rfl) 7 rfl rfl 0 rfl [0, 2] [1] (wr := [(ma0, .inl (E.2.1, 15, .inl (aN Nw)))]) rfl rfl rfl rfl rfl [1, 0, 2] rfl [(mo, .inr (7, [.ref ma0, .ref ma1, .ref ma2, .int (nI ns), .ref ma4, .ref ma5, .int (nI mlen), .ref ma7, .int (bI gw), .ref ma9, .ref ma10, .ref ma11, .ref ma12, .int (nI mm), .int (nI pl), .ref ma15, .int (nI wm), .long hh])), (ma0, .inl (E.2.1, 15, .inl (aN Nw))), (ma4, .inl (E.2.1, 3, .inl (aN (va_up Rf 0 (Rf 0 + 1)))))] rfl rfl [.int (-2 : Int32)] rfl 27 rfl ?_
      exact G_iret C hr dX7_clash_27 rfl () trivial rfl rfl
    · refine G_iload_n C dX7_clash_16 rfl 17 rfl ?_
      refine G_iload_n C dX7_clash_17 rfl 18 rfl ?_
      refine G_icmp_ne C dX7_clash_18 28 rfl 21 rfl Iff.rfl (fun h_3 => ?_) (fun h_3 => ?_)
      · exact absurd hbad (by simp [h_1, h_2, h_3])
      · refine G_aload_n C dX7_clash_21 rfl 22 rfl ?_
        refine G_bipush C dX7_clash_22 (v := (-2 : Int32)) (by decide) 24 rfl ?_
        refine G_cV C dX7_clash_24 (c_X7_counts0 l E mo ma0 ma1 ma2 ma4 ma5 ma7 ma9 ma10 ma11 ma12 ma15 ns mlen mm pl wm gw hh Rf ) wm_X7_51 wi_X7_counts wsel_X7_counts wn_X7 wc_X7_counts rfl rfl ⟨by decide, by decide, rfl⟩ rfl (Nat.le_of_ble_eq_true rfl) 7 rfl rfl 0 rfl [0, 2] [1] (wr := [(ma0, .inl (E.2.1, 15, .inl (aN Nw)))]) rfl rfl rfl rfl rfl [1, 0, 2] rfl [(mo, .inr (7, [.ref ma0, .ref ma1, .ref ma2, .int (nI ns), .ref ma4, .ref ma5, .int (nI mlen), .ref ma7, .int (bI gw), .ref ma9, .ref ma10, .ref ma11, .ref ma12, .int (nI mm), .int (nI pl), .ref ma15, .int (nI wm), .long hh])), (ma0, .inl (E.2.1, 15, .inl (aN Nw))), (ma4, .inl (E.2.1, 3, .inl (aN (va_up Rf 0 (Rf 0 + 1)))))] rfl rfl [.int (-2 : Int32)] rfl 27 rfl ?_
        exact G_iret C hr dX7_clash_27 rfl () trivial rfl rfl

set_option maxHeartbeats 4000000 in
set_option maxRecDepth 100000 in
theorem m_clash_ok (l : Launch) (E : gE) (mo ma0 ma1 ma2 ma4 ma5 ma7 ma9 ma10 ma11 ma12 ma15 ns mlen mm pl wm : Nat) (gw : Bool) (hh : Int64) (Nw : Nat → Nat) (S : Nat → Nat) (ln : Nat → Nat) (n i j : Nat) (hok : mok n ln Nw) (hi : i < n) (hj : j < n) (hij : ¬ i = j) : FD l E yX7_clash cX7_clash 4 (some .int) { frames := 3, cells := 0, slots := 0, locals := 68 } [.ref mo, .int (nI i), .int (nI j)] [(mo, .inr (7, [.ref ma0, .ref ma1, .ref ma2, .int (nI ns), .ref ma4, .ref ma5, .int (nI mlen), .ref ma7, .int (bI gw), .ref ma9, .ref ma10, .ref ma11, .ref ma12, .int (nI mm), .int (nI pl), .ref ma15, .int (nI wm), .long hh])), (ma0, .inl (E.2.1, 15, .inl (aN Nw))), (ma7, .inl (E.2.1, 10, .inl (aN S)))] (some (.int (bI (dis (ln i) (ln j) (fineC ln n none) || dis (ln j) (ln i) (fineC ln n none))))) [(mo, .inr (7, [.ref ma0, .ref ma1, .ref ma2, .int (nI ns), .ref ma4, .ref ma5, .int (nI mlen), .ref ma7, .int (bI false), .ref ma9, .ref ma10, .ref ma11, .ref ma12, .int (nI mm), .int (nI pl), .ref ma15, .int (nI wm), .long hh])), (ma0, .inl (E.2.1, 15, .inl (aN Nw))), (ma7, .inl (E.2.1, 10, .inl (aN (fineC ln n none))))] := by
  refine Fn_ofL (own := RX7) (by decide) rfl rfl [(0, .ref mo), (1, .int (nI i)), (2, .int (nI j))] rfl ?_
  intro p e s m below meth c A C hr hnm
  have h14 : n ≤ 14 := hok.n
  refine G_aload_n C dX7_clash_0 rfl 1 rfl ?_
  refine G_iload_n C dX7_clash_1 rfl 2 rfl ?_
  refine G_cV C dX7_clash_2 (c_X7_isLine l E mo ma0 ma1 ma2 ma4 ma5 ma7 ma9 ma10 ma11 ma12 ma15 ns mlen mm pl wm gw hh Nw (nI i) n hok.z hok.n) wm_X7_62 wi_X7_isLine wsel_X7_isLine wn_X7 wc_X7_isLine rfl rfl ⟨by decide, by decide, rfl⟩ rfl (Nat.le_of_ble_eq_true rfl) 7 rfl rfl 0 rfl [0, 1] [2] (wr := [(ma7, .inl (E.2.1, 10, .inl (aN S)))]) rfl rfl rfl rfl rfl [1, 2, 0] rfl [(mo, .inr (7, [.ref ma0, .ref ma1, .ref ma2, .int (nI ns), .ref ma4, .ref ma5, .int (nI mlen), .ref ma7, .int (bI gw), .ref ma9, .ref ma10, .ref ma11, .ref ma12, .int (nI mm), .int (nI pl), .ref ma15, .int (nI wm), .long hh])), (ma0, .inl (E.2.1, 15, .inl (aN Nw))), (ma7, .inl (E.2.1, 10, .inl (aN S)))] rfl rfl [.int (bI (inb (nI i) n))] rfl 5 rfl ?_
  refine G_if_eq_f C dX7_clash_5 21 rfl 8 rfl (inbT hi (by omega)) ?_
  refine G_aload_n C dX7_clash_8 rfl 9 rfl ?_
  refine G_iload_n C dX7_clash_9 rfl 10 rfl ?_
  refine G_cV C dX7_clash_10 (c_X7_isLine l E mo ma0 ma1 ma2 ma4 ma5 ma7 ma9 ma10 ma11 ma12 ma15 ns mlen mm pl wm gw hh Nw (nI j) n hok.z hok.n) wm_X7_62 wi_X7_isLine wsel_X7_isLine wn_X7 wc_X7_isLine rfl rfl ⟨by decide, by decide, rfl⟩ rfl (Nat.le_of_ble_eq_true rfl) 7 rfl rfl 0 rfl [0, 1] [2] (wr := [(ma7, .inl (E.2.1, 10, .inl (aN S)))]) rfl rfl rfl rfl rfl [1, 2, 0] rfl [(mo, .inr (7, [.ref ma0, .ref ma1, .ref ma2, .int (nI ns), .ref ma4, .ref ma5, .int (nI mlen), .ref ma7, .int (bI gw), .ref ma9, .ref ma10, .ref ma11, .ref ma12, .int (nI mm), .int (nI pl), .ref ma15, .int (nI wm), .long hh])), (ma0, .inl (E.2.1, 15, .inl (aN Nw))), (ma7, .inl (E.2.1, 10, .inl (aN S)))] rfl rfl [.int (bI (inb (nI j) n))] rfl 13 rfl ?_
  refine G_if_eq_f C dX7_clash_13 21 rfl 16 rfl (inbT hj (by omega)) ?_
  refine G_iload_n C dX7_clash_16 rfl 17 rfl ?_
  refine G_iload_n C dX7_clash_17 rfl 18 rfl ?_
  refine G_icmp_ne_t C dX7_clash_18 28 rfl (by rw [nI_eq (by omega) (by omega)]; exact hij) ?_
  refine G_aload_n C dX7_clash_28 rfl 29 rfl ?_
  refine G_iconst C dX7_clash_29 (v := oI none) rfl 30 rfl ?_
  refine G_cV C dX7_clash_30 (c_X7_laysFine l E mo ma0 ma1 ma2 ma4 ma5 ma7 ma9 ma10 ma11 ma12 ma15 ns mlen mm pl wm gw hh Nw S ln n none (by first | assumption | omega) (fun g h => by cases h)) wm_X7_108 wi_X7_laysFine wsel_X7_laysFine wn_X7 wc_X7_laysFine rfl rfl ⟨by decide, by decide, rfl⟩ rfl (Nat.le_of_ble_eq_true rfl) 7 rfl rfl 0 rfl [0, 1, 2] [] (wr := []) rfl rfl rfl rfl rfl [0, 1, 2] rfl [(mo, .inr (7, [.ref ma0, .ref ma1, .ref ma2, .int (nI ns), .ref ma4, .ref ma5, .int (nI mlen), .ref ma7, .int (bI false), .ref ma9, .ref ma10, .ref ma11, .ref ma12, .int (nI mm), .int (nI pl), .ref ma15, .int (nI wm), .long hh])), (ma0, .inl (E.2.1, 15, .inl (aN Nw))), (ma7, .inl (E.2.1, 10, .inl (aN (fineC ln n none))))] rfl rfl [] rfl 33 rfl ?_
  refine G_aload_n C dX7_clash_33 rfl 34 rfl ?_
  refine G_iload_n C dX7_clash_34 rfl 35 rfl ?_
  refine G_cV C dX7_clash_35 (c_X7_writes l E mo ma0 ma1 ma2 ma4 ma5 ma7 ma9 ma10 ma11 ma12 ma15 ns mlen mm pl wm false hh Nw (fineC ln n none) i (ln i) (by omega) (hok.c hi) (hok.v hi)) wm_X7_102 wi_X7_writes wsel_X7_writes wn_X7 wc_X7_writes rfl rfl ⟨by decide, by decide, rfl⟩ rfl (Nat.le_of_ble_eq_true rfl) 7 rfl rfl 0 rfl [0, 1, 2] [] (wr := []) rfl rfl rfl rfl rfl [0, 1, 2] rfl [(mo, .inr (7, [.ref ma0, .ref ma1, .ref ma2, .int (nI ns), .ref ma4, .ref ma5, .int (nI mlen), .ref ma7, .int (bI false), .ref ma9, .ref ma10, .ref ma11, .ref ma12, .int (nI mm), .int (nI pl), .ref ma15, .int (nI wm), .long hh])), (ma0, .inl (E.2.1, 15, .inl (aN Nw))), (ma7, .inl (E.2.1, 10, .inl (aN (fineC ln n none))))] rfl rfl [.int (nI (wrs (ln i) (fineC ln n none)))] rfl 38 rfl ?_
  refine G_aload_n C dX7_clash_38 rfl 39 rfl ?_
  refine G_iload_n C dX7_clash_39 rfl 40 rfl ?_
  refine G_cV C dX7_clash_40 (c_X7_writes l E mo ma0 ma1 ma2 ma4 ma5 ma7 ma9 ma10 ma11 ma12 ma15 ns mlen mm pl wm false hh Nw (fineC ln n none) j (ln j) (by omega) (hok.c hj) (hok.v hj)) wm_X7_102 wi_X7_writes wsel_X7_writes wn_X7 wc_X7_writes rfl rfl ⟨by decide, by decide, rfl⟩ rfl (Nat.le_of_ble_eq_true rfl) 7 rfl rfl 0 rfl [0, 1, 2] [] (wr := []) rfl rfl rfl rfl rfl [0, 1, 2] rfl [(mo, .inr (7, [.ref ma0, .ref ma1, .ref ma2, .int (nI ns), .ref ma4, .ref ma5, .int (nI mlen), .ref ma7, .int (bI false), .ref ma9, .ref ma10, .ref ma11, .ref ma12, .int (nI mm), .int (nI pl), .ref ma15, .int (nI wm), .long hh])), (ma0, .inl (E.2.1, 15, .inl (aN Nw))), (ma7, .inl (E.2.1, 10, .inl (aN (fineC ln n none))))] rfl rfl [.int (nI (wrs (ln j) (fineC ln n none))), .int (nI (wrs (ln i) (fineC ln n none)))] rfl 43 rfl ?_
  refine G_aload_n C dX7_clash_43 rfl 44 rfl ?_
  refine G_iload_n C dX7_clash_44 rfl 45 rfl ?_
  refine G_cV C dX7_clash_45 (c_X7_readBy l E mo ma0 ma1 ma2 ma4 ma5 ma7 ma9 ma10 ma11 ma12 ma15 ns mlen mm pl wm false hh Nw (fineC ln n none) j (ln j) (by omega) (hok.c hj) (hok.v hj)) wm_X7_105 wi_X7_readBy wsel_X7_readBy wn_X7 wc_X7_readBy rfl rfl ⟨by decide, by decide, rfl⟩ rfl (Nat.le_of_ble_eq_true rfl) 7 rfl rfl 0 rfl [0, 1, 2] [] (wr := []) rfl rfl rfl rfl rfl [0, 1, 2] rfl [(mo, .inr (7, [.ref ma0, .ref ma1, .ref ma2, .int (nI ns), .ref ma4, .ref ma5, .int (nI mlen), .ref ma7, .int (bI false), .ref ma9, .ref ma10, .ref ma11, .ref ma12, .int (nI mm), .int (nI pl), .ref ma15, .int (nI wm), .long hh])), (ma0, .inl (E.2.1, 15, .inl (aN Nw))), (ma7, .inl (E.2.1, 10, .inl (aN (fineC ln n none))))] rfl rfl [.int (nI (rds (ln j) (fineC ln n none))), .int (nI (wrs (ln j) (fineC ln n none))), .int (nI (wrs (ln i) (fineC ln n none)))] rfl 48 rfl ?_
  refine G_ior C dX7_clash_48 (v := nI ((wrs (ln j) (fineC ln n none)) ||| (rds (ln j) (fineC ln n none)))) (fa_or _ _) 49 rfl ?_
  refine G_iand C dX7_clash_49 (v := nI ((wrs (ln i) (fineC ln n none)) &&& ((wrs (ln j) (fineC ln n none)) ||| (rds (ln j) (fineC ln n none))))) (fa_and _ _) 50 rfl ?_
  refine G_if_ne C dX7_clash_50 67 rfl 53 rfl (n_eq0 (Nat.lt_of_le_of_lt Nat.and_le_left (Nat.lt_trans (wrs_lt sok_fineC) (by decide)))) (fun h_1 => ?_) (fun h_1 => ?_)
  · refine G_iconst C dX7_clash_67 (v := nI 1) rfl 68 rfl ?_
    refine G_goto C dX7_clash_68 72 rfl ?_
    refine G_istore_n C dX7_clash_72 (by decide) [(3, .int (nI 1)), (0, .ref mo), (1, .int (nI i)), (2, .int (nI j))] rfl 73 rfl ?_
    refine G_iload_n C dX7_clash_73 rfl 74 rfl ?_
    refine G_if_eq_f C dX7_clash_74 81 rfl 77 rfl (by decide) ?_
    refine G_iconst C dX7_clash_77 (v := nI 1) rfl 78 rfl ?_
    refine G_goto C dX7_clash_78 82 rfl ?_
    exact G_iret C hr dX7_clash_82 rfl () trivial (bI_rt (dis_m1 h_1)) rfl
  · refine G_aload_n C dX7_clash_53 rfl 54 rfl ?_
    refine G_iload_n C dX7_clash_54 rfl 55 rfl ?_
    refine G_cV C dX7_clash_55 (c_X7_writes l E mo ma0 ma1 ma2 ma4 ma5 ma7 ma9 ma10 ma11 ma12 ma15 ns mlen mm pl wm false hh Nw (fineC ln n none) j (ln j) (by omega) (hok.c hj) (hok.v hj)) wm_X7_102 wi_X7_writes wsel_X7_writes wn_X7 wc_X7_writes rfl rfl ⟨by decide, by decide, rfl⟩ rfl (Nat.le_of_ble_eq_true rfl) 7 rfl rfl 0 rfl [0, 1, 2] [] (wr := []) rfl rfl rfl rfl rfl [0, 1, 2] rfl [(mo, .inr (7, [.ref ma0, .ref ma1, .ref ma2, .int (nI ns), .ref ma4, .ref ma5, .int (nI mlen), .ref ma7, .int (bI false), .ref ma9, .ref ma10, .ref ma11, .ref ma12, .int (nI mm), .int (nI pl), .ref ma15, .int (nI wm), .long hh])), (ma0, .inl (E.2.1, 15, .inl (aN Nw))), (ma7, .inl (E.2.1, 10, .inl (aN (fineC ln n none))))] rfl rfl [.int (nI (wrs (ln j) (fineC ln n none)))] rfl 58 rfl ?_
    refine G_aload_n C dX7_clash_58 rfl 59 rfl ?_
    refine G_iload_n C dX7_clash_59 rfl 60 rfl ?_
    refine G_cV C dX7_clash_60 (c_X7_readBy l E mo ma0 ma1 ma2 ma4 ma5 ma7 ma9 ma10 ma11 ma12 ma15 ns mlen mm pl wm false hh Nw (fineC ln n none) i (ln i) (by omega) (hok.c hi) (hok.v hi)) wm_X7_105 wi_X7_readBy wsel_X7_readBy wn_X7 wc_X7_readBy rfl rfl ⟨by decide, by decide, rfl⟩ rfl (Nat.le_of_ble_eq_true rfl) 7 rfl rfl 0 rfl [0, 1, 2] [] (wr := []) rfl rfl rfl rfl rfl [0, 1, 2] rfl [(mo, .inr (7, [.ref ma0, .ref ma1, .ref ma2, .int (nI ns), .ref ma4, .ref ma5, .int (nI mlen), .ref ma7, .int (bI false), .ref ma9, .ref ma10, .ref ma11, .ref ma12, .int (nI mm), .int (nI pl), .ref ma15, .int (nI wm), .long hh])), (ma0, .inl (E.2.1, 15, .inl (aN Nw))), (ma7, .inl (E.2.1, 10, .inl (aN (fineC ln n none))))] rfl rfl [.int (nI (rds (ln i) (fineC ln n none))), .int (nI (wrs (ln j) (fineC ln n none)))] rfl 63 rfl ?_
    refine G_iand C dX7_clash_63 (v := nI ((wrs (ln j) (fineC ln n none)) &&& (rds (ln i) (fineC ln n none)))) (fa_and _ _) 64 rfl ?_
    refine G_if_eq C dX7_clash_64 71 rfl 67 rfl (n_eq0 (Nat.lt_of_le_of_lt Nat.and_le_left (Nat.lt_trans (wrs_lt sok_fineC) (by decide)))) (fun h_2 => ?_) (fun h_2 => ?_)
    · refine G_iconst C dX7_clash_71 (v := nI 0) rfl 72 rfl ?_
      refine G_istore_n C dX7_clash_72 (by decide) [(3, .int (nI 0)), (0, .ref mo), (1, .int (nI i)), (2, .int (nI j))] rfl 73 rfl ?_
      refine G_iload_n C dX7_clash_73 rfl 74 rfl ?_
      refine G_if_eq_t C dX7_clash_74 81 rfl (by decide) ?_
      refine G_iconst C dX7_clash_81 (v := nI 0) rfl 82 rfl ?_
      exact G_iret C hr dX7_clash_82 rfl () trivial (bI_rf (dis_m3 h_1 h_2)) rfl
    · refine G_iconst C dX7_clash_67 (v := nI 1) rfl 68 rfl ?_
      refine G_goto C dX7_clash_68 72 rfl ?_
      refine G_istore_n C dX7_clash_72 (by decide) [(3, .int (nI 1)), (0, .ref mo), (1, .int (nI i)), (2, .int (nI j))] rfl 73 rfl ?_
      refine G_iload_n C dX7_clash_73 rfl 74 rfl ?_
      refine G_if_eq_f C dX7_clash_74 81 rfl 77 rfl (by decide) ?_
      refine G_iconst C dX7_clash_77 (v := nI 1) rfl 78 rfl ?_
      refine G_goto C dX7_clash_78 82 rfl ?_
      exact G_iret C hr dX7_clash_82 rfl () trivial (bI_rt (dis_m2 h_1 h_2)) rfl

set_option maxHeartbeats 4000000 in
set_option maxRecDepth 100000 in
theorem m_fine_bad (l : Launch) (E : gE) (mo ma0 ma1 ma2 ma4 ma5 ma7 ma9 ma10 ma11 ma12 ma15 ns mlen mm pl wm : Nat) (gw : Bool) (hh : Int64) (Rf : Nat → Nat) (va : Int32) (hbad : inb va 10 = false) : FD l E yX7_fine cX7_fine 2 (some .int) { frames := 3, cells := 0, slots := 0, locals := 68 } [.ref mo, .int va] [(mo, .inr (7, [.ref ma0, .ref ma1, .ref ma2, .int (nI ns), .ref ma4, .ref ma5, .int (nI mlen), .ref ma7, .int (bI gw), .ref ma9, .ref ma10, .ref ma11, .ref ma12, .int (nI mm), .int (nI pl), .ref ma15, .int (nI wm), .long hh])), (ma4, .inl (E.2.1, 3, .inl (aN Rf)))] (some (.int (-2 : Int32))) [(mo, .inr (7, [.ref ma0, .ref ma1, .ref ma2, .int (nI ns), .ref ma4, .ref ma5, .int (nI mlen), .ref ma7, .int (bI gw), .ref ma9, .ref ma10, .ref ma11, .ref ma12, .int (nI mm), .int (nI pl), .ref ma15, .int (nI wm), .long hh])), (ma4, .inl (E.2.1, 3, .inl (aN (va_up Rf 0 (Rf 0 + 1)))))] := by
  refine Fn_ofL (own := RX7) (by decide) rfl rfl [(0, .ref mo), (1, .int va)] rfl ?_
  intro p e s m below meth c A C hr hnm
  refine G_iload_n C dX7_fine_0 rfl 1 rfl ?_
  refine G_cS C dX7_fine_1 (c_X7_isName l E va ) wm_X7_55 wt_X7_isName wn_X7 wc_X7_isName rfl rfl ⟨by decide, by decide, rfl⟩ rfl (Nat.le_of_ble_eq_true rfl) [] [0, 1] (wr := [(mo, .inr (7, [.ref ma0, .ref ma1, .ref ma2, .int (nI ns), .ref ma4, .ref ma5, .int (nI mlen), .ref ma7, .int (bI gw), .ref ma9, .ref ma10, .ref ma11, .ref ma12, .int (nI mm), .int (nI pl), .ref ma15, .int (nI wm), .long hh])), (ma4, .inl (E.2.1, 3, .inl (aN Rf)))]) rfl rfl rfl rfl rfl [0, 1] rfl [(mo, .inr (7, [.ref ma0, .ref ma1, .ref ma2, .int (nI ns), .ref ma4, .ref ma5, .int (nI mlen), .ref ma7, .int (bI gw), .ref ma9, .ref ma10, .ref ma11, .ref ma12, .int (nI mm), .int (nI pl), .ref ma15, .int (nI wm), .long hh])), (ma4, .inl (E.2.1, 3, .inl (aN Rf)))] rfl rfl [.int (bI (inb va 10))] rfl 4 rfl ?_
  refine G_if_ne C dX7_fine_4 14 rfl 7 rfl (bI_0 _) (fun h_1 => ?_) (fun h_1 => ?_)
  · exact absurd hbad (by simp [h_1])
  · refine G_aload_n C dX7_fine_7 rfl 8 rfl ?_
    refine G_bipush C dX7_fine_8 (v := (-2 : Int32)) (by decide) 10 rfl ?_
    refine G_cV C dX7_fine_10 (c_X7_counts0 l E mo ma0 ma1 ma2 ma4 ma5 ma7 ma9 ma10 ma11 ma12 ma15 ns mlen mm pl wm gw hh Rf ) wm_X7_51 wi_X7_counts wsel_X7_counts wn_X7 wc_X7_counts rfl rfl ⟨by decide, by decide, rfl⟩ rfl (Nat.le_of_ble_eq_true rfl) 7 rfl rfl 0 rfl [0, 1] [] (wr := []) rfl rfl rfl rfl rfl [0, 1] rfl [(mo, .inr (7, [.ref ma0, .ref ma1, .ref ma2, .int (nI ns), .ref ma4, .ref ma5, .int (nI mlen), .ref ma7, .int (bI gw), .ref ma9, .ref ma10, .ref ma11, .ref ma12, .int (nI mm), .int (nI pl), .ref ma15, .int (nI wm), .long hh])), (ma4, .inl (E.2.1, 3, .inl (aN (va_up Rf 0 (Rf 0 + 1)))))] rfl rfl [.int (-2 : Int32)] rfl 13 rfl ?_
    exact G_iret C hr dX7_fine_13 rfl () trivial rfl rfl

set_option maxHeartbeats 4000000 in
set_option maxRecDepth 100000 in
theorem m_fine_ok (l : Launch) (E : gE) (mo ma0 ma1 ma2 ma4 ma5 ma7 ma9 ma10 ma11 ma12 ma15 ns mlen mm pl wm : Nat) (gw : Bool) (hh : Int64) (Nw : Nat → Nat) (S : Nat → Nat) (ln : Nat → Nat) (n x : Nat) (hok : mok n ln Nw) (hx : x < 10) : FD l E yX7_fine cX7_fine 2 (some .int) { frames := 3, cells := 0, slots := 0, locals := 68 } [.ref mo, .int (nI x)] [(mo, .inr (7, [.ref ma0, .ref ma1, .ref ma2, .int (nI ns), .ref ma4, .ref ma5, .int (nI mlen), .ref ma7, .int (bI gw), .ref ma9, .ref ma10, .ref ma11, .ref ma12, .int (nI mm), .int (nI pl), .ref ma15, .int (nI wm), .long hh])), (ma0, .inl (E.2.1, 15, .inl (aN Nw))), (ma7, .inl (E.2.1, 10, .inl (aN S)))] (some (.int (nI (fineC ln n none x)))) [(mo, .inr (7, [.ref ma0, .ref ma1, .ref ma2, .int (nI ns), .ref ma4, .ref ma5, .int (nI mlen), .ref ma7, .int (bI false), .ref ma9, .ref ma10, .ref ma11, .ref ma12, .int (nI mm), .int (nI pl), .ref ma15, .int (nI wm), .long hh])), (ma0, .inl (E.2.1, 15, .inl (aN Nw))), (ma7, .inl (E.2.1, 10, .inl (aN (fineC ln n none))))] := by
  refine Fn_ofL (own := RX7) (by decide) rfl rfl [(0, .ref mo), (1, .int (nI x))] rfl ?_
  intro p e s m below meth c A C hr hnm
  refine G_iload_n C dX7_fine_0 rfl 1 rfl ?_
  refine G_cS C dX7_fine_1 (c_X7_isName l E (nI x) ) wm_X7_55 wt_X7_isName wn_X7 wc_X7_isName rfl rfl ⟨by decide, by decide, rfl⟩ rfl (Nat.le_of_ble_eq_true rfl) [] [0, 1, 2] (wr := [(mo, .inr (7, [.ref ma0, .ref ma1, .ref ma2, .int (nI ns), .ref ma4, .ref ma5, .int (nI mlen), .ref ma7, .int (bI gw), .ref ma9, .ref ma10, .ref ma11, .ref ma12, .int (nI mm), .int (nI pl), .ref ma15, .int (nI wm), .long hh])), (ma0, .inl (E.2.1, 15, .inl (aN Nw))), (ma7, .inl (E.2.1, 10, .inl (aN S)))]) rfl rfl rfl rfl rfl [0, 1, 2] rfl [(mo, .inr (7, [.ref ma0, .ref ma1, .ref ma2, .int (nI ns), .ref ma4, .ref ma5, .int (nI mlen), .ref ma7, .int (bI gw), .ref ma9, .ref ma10, .ref ma11, .ref ma12, .int (nI mm), .int (nI pl), .ref ma15, .int (nI wm), .long hh])), (ma0, .inl (E.2.1, 15, .inl (aN Nw))), (ma7, .inl (E.2.1, 10, .inl (aN S)))] rfl rfl [.int (bI (inb (nI x) 10))] rfl 4 rfl ?_
  refine G_if_ne_t C dX7_fine_4 14 rfl (inbT hx (by omega)) ?_
  refine G_aload_n C dX7_fine_14 rfl 15 rfl ?_
  refine G_iconst C dX7_fine_15 (v := oI none) rfl 16 rfl ?_
  refine G_cV C dX7_fine_16 (c_X7_laysFine l E mo ma0 ma1 ma2 ma4 ma5 ma7 ma9 ma10 ma11 ma12 ma15 ns mlen mm pl wm gw hh Nw S ln n none (by first | assumption | omega) (fun g h => by cases h)) wm_X7_108 wi_X7_laysFine wsel_X7_laysFine wn_X7 wc_X7_laysFine rfl rfl ⟨by decide, by decide, rfl⟩ rfl (Nat.le_of_ble_eq_true rfl) 7 rfl rfl 0 rfl [0, 1, 2] [] (wr := []) rfl rfl rfl rfl rfl [0, 1, 2] rfl [(mo, .inr (7, [.ref ma0, .ref ma1, .ref ma2, .int (nI ns), .ref ma4, .ref ma5, .int (nI mlen), .ref ma7, .int (bI false), .ref ma9, .ref ma10, .ref ma11, .ref ma12, .int (nI mm), .int (nI pl), .ref ma15, .int (nI wm), .long hh])), (ma0, .inl (E.2.1, 15, .inl (aN Nw))), (ma7, .inl (E.2.1, 10, .inl (aN (fineC ln n none))))] rfl rfl [] rfl 19 rfl ?_
  refine G_aload_n C dX7_fine_19 rfl 20 rfl ?_
  refine G_getf C dX7_fine_20 wF_X7 wf_X7_25 (f := 7) (by decide) (ci := 7) rfl 0 rfl rfl 23 rfl ?_
  refine G_iload_n C dX7_fine_23 rfl 24 rfl ?_
  refine G_ialdN C dX7_fine_24 2 rfl rfl (by omega) 25 rfl ?_
  exact G_iret C hr dX7_fine_25 rfl () trivial rfl rfl

set_option maxHeartbeats 4000000 in
set_option maxRecDepth 100000 in
theorem m_coarse_bad (l : Launch) (E : gE) (mo ma0 ma1 ma2 ma4 ma5 ma7 ma9 ma10 ma11 ma12 ma15 ns mlen mm pl wm : Nat) (gw : Bool) (hh : Int64) (Rf : Nat → Nat) (va : Int32) (hbad : inb va 10 = false) : FD l E yX7_coarse cX7_coarse 2 (some .int) { frames := 4, cells := 0, slots := 0, locals := 96 } [.ref mo, .int va] [(mo, .inr (7, [.ref ma0, .ref ma1, .ref ma2, .int (nI ns), .ref ma4, .ref ma5, .int (nI mlen), .ref ma7, .int (bI gw), .ref ma9, .ref ma10, .ref ma11, .ref ma12, .int (nI mm), .int (nI pl), .ref ma15, .int (nI wm), .long hh])), (ma4, .inl (E.2.1, 3, .inl (aN Rf)))] (some (.int (-2 : Int32))) [(mo, .inr (7, [.ref ma0, .ref ma1, .ref ma2, .int (nI ns), .ref ma4, .ref ma5, .int (nI mlen), .ref ma7, .int (bI gw), .ref ma9, .ref ma10, .ref ma11, .ref ma12, .int (nI mm), .int (nI pl), .ref ma15, .int (nI wm), .long hh])), (ma4, .inl (E.2.1, 3, .inl (aN (va_up Rf 0 (Rf 0 + 1)))))] := by
  refine Fn_ofL (own := RX7) (by decide) rfl rfl [(0, .ref mo), (1, .int va)] rfl ?_
  intro p e s m below meth c A C hr hnm
  refine G_iload_n C dX7_coarse_0 rfl 1 rfl ?_
  refine G_cS C dX7_coarse_1 (c_X7_isName l E va ) wm_X7_55 wt_X7_isName wn_X7 wc_X7_isName rfl rfl ⟨by decide, by decide, rfl⟩ rfl (Nat.le_of_ble_eq_true rfl) [] [0, 1] (wr := [(mo, .inr (7, [.ref ma0, .ref ma1, .ref ma2, .int (nI ns), .ref ma4, .ref ma5, .int (nI mlen), .ref ma7, .int (bI gw), .ref ma9, .ref ma10, .ref ma11, .ref ma12, .int (nI mm), .int (nI pl), .ref ma15, .int (nI wm), .long hh])), (ma4, .inl (E.2.1, 3, .inl (aN Rf)))]) rfl rfl rfl rfl rfl [0, 1] rfl [(mo, .inr (7, [.ref ma0, .ref ma1, .ref ma2, .int (nI ns), .ref ma4, .ref ma5, .int (nI mlen), .ref ma7, .int (bI gw), .ref ma9, .ref ma10, .ref ma11, .ref ma12, .int (nI mm), .int (nI pl), .ref ma15, .int (nI wm), .long hh])), (ma4, .inl (E.2.1, 3, .inl (aN Rf)))] rfl rfl [.int (bI (inb va 10))] rfl 4 rfl ?_
  refine G_if_ne C dX7_coarse_4 14 rfl 7 rfl (bI_0 _) (fun h_1 => ?_) (fun h_1 => ?_)
  · exact absurd hbad (by simp [h_1])
  · refine G_aload_n C dX7_coarse_7 rfl 8 rfl ?_
    refine G_bipush C dX7_coarse_8 (v := (-2 : Int32)) (by decide) 10 rfl ?_
    refine G_cV C dX7_coarse_10 (c_X7_counts0 l E mo ma0 ma1 ma2 ma4 ma5 ma7 ma9 ma10 ma11 ma12 ma15 ns mlen mm pl wm gw hh Rf ) wm_X7_51 wi_X7_counts wsel_X7_counts wn_X7 wc_X7_counts rfl rfl ⟨by decide, by decide, rfl⟩ rfl (Nat.le_of_ble_eq_true rfl) 7 rfl rfl 0 rfl [0, 1] [] (wr := []) rfl rfl rfl rfl rfl [0, 1] rfl [(mo, .inr (7, [.ref ma0, .ref ma1, .ref ma2, .int (nI ns), .ref ma4, .ref ma5, .int (nI mlen), .ref ma7, .int (bI gw), .ref ma9, .ref ma10, .ref ma11, .ref ma12, .int (nI mm), .int (nI pl), .ref ma15, .int (nI wm), .long hh])), (ma4, .inl (E.2.1, 3, .inl (aN (va_up Rf 0 (Rf 0 + 1)))))] rfl rfl [.int (-2 : Int32)] rfl 13 rfl ?_
    exact G_iret C hr dX7_coarse_13 rfl () trivial rfl rfl

set_option maxHeartbeats 4000000 in
set_option maxRecDepth 100000 in
theorem m_coarse_ok (l : Launch) (E : gE) (mo ma0 ma1 ma2 ma4 ma5 ma7 ma9 ma10 ma11 ma12 ma15 ns mlen mm pl wm : Nat) (gw : Bool) (hh : Int64) (Nw : Nat → Nat) (Gp : Nat → Nat) (Tt : Nat → Option Nat) (ln : Nat → Nat) (n x : Nat) (hok : mok n ln Nw) (hx : x < 10) : FD l E yX7_coarse cX7_coarse 2 (some .int) { frames := 4, cells := 0, slots := 0, locals := 96 } [.ref mo, .int (nI x)] [(mo, .inr (7, [.ref ma0, .ref ma1, .ref ma2, .int (nI ns), .ref ma4, .ref ma5, .int (nI mlen), .ref ma7, .int (bI gw), .ref ma9, .ref ma10, .ref ma11, .ref ma12, .int (nI mm), .int (nI pl), .ref ma15, .int (nI wm), .long hh])), (ma0, .inl (E.2.1, 15, .inl (aN Nw))), (ma9, .inl (E.2.1, 10, .inl (aN Gp))), (ma10, .inl (E.2.1, 10, .inl (aO Tt)))] (some (.int (nI (cse (coarG ln n none) (coarT ln n none) x)))) [(mo, .inr (7, [.ref ma0, .ref ma1, .ref ma2, .int (nI ns), .ref ma4, .ref ma5, .int (nI mlen), .ref ma7, .int (bI false), .ref ma9, .ref ma10, .ref ma11, .ref ma12, .int (nI mm), .int (nI pl), .ref ma15, .int (nI wm), .long hh])), (ma0, .inl (E.2.1, 15, .inl (aN Nw))), (ma9, .inl (E.2.1, 10, .inl (aN (coarG ln n none)))), (ma10, .inl (E.2.1, 10, .inl (aO (coarT ln n none))))] := by
  refine Fn_ofL (own := RX7) (by decide) rfl rfl [(0, .ref mo), (1, .int (nI x))] rfl ?_
  intro p e s m below meth c A C hr hnm
  refine G_iload_n C dX7_coarse_0 rfl 1 rfl ?_
  refine G_cS C dX7_coarse_1 (c_X7_isName l E (nI x) ) wm_X7_55 wt_X7_isName wn_X7 wc_X7_isName rfl rfl ⟨by decide, by decide, rfl⟩ rfl (Nat.le_of_ble_eq_true rfl) [] [0, 1, 2, 3] (wr := [(mo, .inr (7, [.ref ma0, .ref ma1, .ref ma2, .int (nI ns), .ref ma4, .ref ma5, .int (nI mlen), .ref ma7, .int (bI gw), .ref ma9, .ref ma10, .ref ma11, .ref ma12, .int (nI mm), .int (nI pl), .ref ma15, .int (nI wm), .long hh])), (ma0, .inl (E.2.1, 15, .inl (aN Nw))), (ma9, .inl (E.2.1, 10, .inl (aN Gp))), (ma10, .inl (E.2.1, 10, .inl (aO Tt)))]) rfl rfl rfl rfl rfl [0, 1, 2, 3] rfl [(mo, .inr (7, [.ref ma0, .ref ma1, .ref ma2, .int (nI ns), .ref ma4, .ref ma5, .int (nI mlen), .ref ma7, .int (bI gw), .ref ma9, .ref ma10, .ref ma11, .ref ma12, .int (nI mm), .int (nI pl), .ref ma15, .int (nI wm), .long hh])), (ma0, .inl (E.2.1, 15, .inl (aN Nw))), (ma9, .inl (E.2.1, 10, .inl (aN Gp))), (ma10, .inl (E.2.1, 10, .inl (aO Tt)))] rfl rfl [.int (bI (inb (nI x) 10))] rfl 4 rfl ?_
  refine G_if_ne_t C dX7_coarse_4 14 rfl (inbT hx (by omega)) ?_
  refine G_aload_n C dX7_coarse_14 rfl 15 rfl ?_
  refine G_iconst C dX7_coarse_15 (v := oI none) rfl 16 rfl ?_
  refine G_cV C dX7_coarse_16 (c_X7_laysCoarse l E mo ma0 ma1 ma2 ma4 ma5 ma7 ma9 ma10 ma11 ma12 ma15 ns mlen mm pl wm gw hh Nw Gp Tt ln n none (by first | assumption | omega) (fun g h => by cases h)) wm_X7_115 wi_X7_laysCoarse wsel_X7_laysCoarse wn_X7 wc_X7_laysCoarse rfl rfl ⟨by decide, by decide, rfl⟩ rfl (Nat.le_of_ble_eq_true rfl) 7 rfl rfl 0 rfl [0, 1, 2, 3] [] (wr := []) rfl rfl rfl rfl rfl [0, 1, 2, 3] rfl [(mo, .inr (7, [.ref ma0, .ref ma1, .ref ma2, .int (nI ns), .ref ma4, .ref ma5, .int (nI mlen), .ref ma7, .int (bI false), .ref ma9, .ref ma10, .ref ma11, .ref ma12, .int (nI mm), .int (nI pl), .ref ma15, .int (nI wm), .long hh])), (ma0, .inl (E.2.1, 15, .inl (aN Nw))), (ma9, .inl (E.2.1, 10, .inl (aN (coarG ln n none)))), (ma10, .inl (E.2.1, 10, .inl (aO (coarT ln n none))))] rfl rfl [] rfl 19 rfl ?_
  refine G_aload_n C dX7_coarse_19 rfl 20 rfl ?_
  refine G_iload_n C dX7_coarse_20 rfl 21 rfl ?_
  refine G_cV C dX7_coarse_21 (c_X7_coarseOf l E mo ma0 ma1 ma2 ma4 ma5 ma7 ma9 ma10 ma11 ma12 ma15 ns mlen mm pl wm false hh (coarG ln n none) (coarT ln n none) x (cok_cit 21).1 (cok_cit 21).2 (by first | assumption | omega)) wm_X7_118 wi_X7_coarseOf wsel_X7_coarseOf wn_X7 wc_X7_coarseOf rfl rfl ⟨by decide, by decide, rfl⟩ rfl (Nat.le_of_ble_eq_true rfl) 7 rfl rfl 0 rfl [0, 2, 3] [1] (wr := [(ma0, .inl (E.2.1, 15, .inl (aN Nw)))]) rfl rfl rfl rfl rfl [1, 0, 2, 3] rfl [(mo, .inr (7, [.ref ma0, .ref ma1, .ref ma2, .int (nI ns), .ref ma4, .ref ma5, .int (nI mlen), .ref ma7, .int (bI false), .ref ma9, .ref ma10, .ref ma11, .ref ma12, .int (nI mm), .int (nI pl), .ref ma15, .int (nI wm), .long hh])), (ma0, .inl (E.2.1, 15, .inl (aN Nw))), (ma9, .inl (E.2.1, 10, .inl (aN (coarG ln n none)))), (ma10, .inl (E.2.1, 10, .inl (aO (coarT ln n none))))] rfl rfl [.int (nI (cse (coarG ln n none) (coarT ln n none) x))] rfl 24 rfl ?_
  exact G_iret C hr dX7_coarse_24 rfl () trivial rfl rfl

set_option maxHeartbeats 4000000 in
set_option maxRecDepth 100000 in
theorem m_group_bad (l : Launch) (E : gE) (mo ma0 ma1 ma2 ma4 ma5 ma7 ma9 ma10 ma11 ma12 ma15 ns mlen mm pl wm : Nat) (gw : Bool) (hh : Int64) (Rf : Nat → Nat) (va vb : Int32) (hbad : inb va 10 = false ∨ inb vb 3 = false) : FD l E yX7_group cX7_group 3 (some .int) { frames := 4, cells := 0, slots := 0, locals := 96 } [.ref mo, .int va, .int vb] [(mo, .inr (7, [.ref ma0, .ref ma1, .ref ma2, .int (nI ns), .ref ma4, .ref ma5, .int (nI mlen), .ref ma7, .int (bI gw), .ref ma9, .ref ma10, .ref ma11, .ref ma12, .int (nI mm), .int (nI pl), .ref ma15, .int (nI wm), .long hh])), (ma4, .inl (E.2.1, 3, .inl (aN Rf)))] (some (.int (-2 : Int32))) [(mo, .inr (7, [.ref ma0, .ref ma1, .ref ma2, .int (nI ns), .ref ma4, .ref ma5, .int (nI mlen), .ref ma7, .int (bI gw), .ref ma9, .ref ma10, .ref ma11, .ref ma12, .int (nI mm), .int (nI pl), .ref ma15, .int (nI wm), .long hh])), (ma4, .inl (E.2.1, 3, .inl (aN (va_up Rf 0 (Rf 0 + 1)))))] := by
  refine Fn_ofL (own := RX7) (by decide) rfl rfl [(0, .ref mo), (1, .int va), (2, .int vb)] rfl ?_
  intro p e s m below meth c A C hr hnm
  refine G_iload_n C dX7_group_0 rfl 1 rfl ?_
  refine G_cS C dX7_group_1 (c_X7_isName l E va ) wm_X7_55 wt_X7_isName wn_X7 wc_X7_isName rfl rfl ⟨by decide, by decide, rfl⟩ rfl (Nat.le_of_ble_eq_true rfl) [] [0, 1] (wr := [(mo, .inr (7, [.ref ma0, .ref ma1, .ref ma2, .int (nI ns), .ref ma4, .ref ma5, .int (nI mlen), .ref ma7, .int (bI gw), .ref ma9, .ref ma10, .ref ma11, .ref ma12, .int (nI mm), .int (nI pl), .ref ma15, .int (nI wm), .long hh])), (ma4, .inl (E.2.1, 3, .inl (aN Rf)))]) rfl rfl rfl rfl rfl [0, 1] rfl [(mo, .inr (7, [.ref ma0, .ref ma1, .ref ma2, .int (nI ns), .ref ma4, .ref ma5, .int (nI mlen), .ref ma7, .int (bI gw), .ref ma9, .ref ma10, .ref ma11, .ref ma12, .int (nI mm), .int (nI pl), .ref ma15, .int (nI wm), .long hh])), (ma4, .inl (E.2.1, 3, .inl (aN Rf)))] rfl rfl [.int (bI (inb va 10))] rfl 4 rfl ?_
  refine G_if_eq C dX7_group_4 16 rfl 7 rfl (bI_0 _) (fun h_1 => ?_) (fun h_1 => ?_)
  · refine G_aload_n C dX7_group_16 rfl 17 rfl ?_
    refine G_bipush C dX7_group_17 (v := (-2 : Int32)) (by decide) 19 rfl ?_
    refine G_cV C dX7_group_19 (c_X7_counts0 l E mo ma0 ma1 ma2 ma4 ma5 ma7 ma9 ma10 ma11 ma12 ma15 ns mlen mm pl wm gw hh Rf ) wm_X7_51 wi_X7_counts wsel_X7_counts wn_X7 wc_X7_counts rfl rfl ⟨by decide, by decide, rfl⟩ rfl (Nat.le_of_ble_eq_true rfl) 7 rfl rfl 0 rfl [0, 1] [] (wr := []) rfl rfl rfl rfl rfl [0, 1] rfl [(mo, .inr (7, [.ref ma0, .ref ma1, .ref ma2, .int (nI ns), .ref ma4, .ref ma5, .int (nI mlen), .ref ma7, .int (bI gw), .ref ma9, .ref ma10, .ref ma11, .ref ma12, .int (nI mm), .int (nI pl), .ref ma15, .int (nI wm), .long hh])), (ma4, .inl (E.2.1, 3, .inl (aN (va_up Rf 0 (Rf 0 + 1)))))] rfl rfl [.int (-2 : Int32)] rfl 22 rfl ?_
    exact G_iret C hr dX7_group_22 rfl () trivial rfl rfl
  · refine G_iload_n C dX7_group_7 rfl 8 rfl ?_
    refine G_iconst C dX7_group_8 (v := nI 0) rfl 9 rfl ?_
    refine G_iconst C dX7_group_9 (v := nI 2) rfl 10 rfl ?_
    refine G_cS C dX7_group_10 (c_X7_within l E vb (nI 0) (nI 2) ) wm_X7_43 wt_X7_within wn_X7 wc_X7_within rfl rfl ⟨by decide, by decide, rfl⟩ rfl (Nat.le_of_ble_eq_true rfl) [] [0, 1] (wr := [(mo, .inr (7, [.ref ma0, .ref ma1, .ref ma2, .int (nI ns), .ref ma4, .ref ma5, .int (nI mlen), .ref ma7, .int (bI gw), .ref ma9, .ref ma10, .ref ma11, .ref ma12, .int (nI mm), .int (nI pl), .ref ma15, .int (nI wm), .long hh])), (ma4, .inl (E.2.1, 3, .inl (aN Rf)))]) rfl rfl rfl rfl rfl [0, 1] rfl [(mo, .inr (7, [.ref ma0, .ref ma1, .ref ma2, .int (nI ns), .ref ma4, .ref ma5, .int (nI mlen), .ref ma7, .int (bI gw), .ref ma9, .ref ma10, .ref ma11, .ref ma12, .int (nI mm), .int (nI pl), .ref ma15, .int (nI wm), .long hh])), (ma4, .inl (E.2.1, 3, .inl (aN Rf)))] rfl rfl [.int (bI (decide ((nI 0).toInt ≤ vb.toInt ∧ vb.toInt ≤ (nI 2).toInt)))] rfl 13 rfl ?_
    refine G_if_ne C dX7_group_13 23 rfl 16 rfl (wi_inb vb (n := 3) rfl (by omega)) (fun h_2 => ?_) (fun h_2 => ?_)
    · exact absurd hbad (by simp [h_1, h_2])
    · refine G_aload_n C dX7_group_16 rfl 17 rfl ?_
      refine G_bipush C dX7_group_17 (v := (-2 : Int32)) (by decide) 19 rfl ?_
      refine G_cV C dX7_group_19 (c_X7_counts0 l E mo ma0 ma1 ma2 ma4 ma5 ma7 ma9 ma10 ma11 ma12 ma15 ns mlen mm pl wm gw hh Rf ) wm_X7_51 wi_X7_counts wsel_X7_counts wn_X7 wc_X7_counts rfl rfl ⟨by decide, by decide, rfl⟩ rfl (Nat.le_of_ble_eq_true rfl) 7 rfl rfl 0 rfl [0, 1] [] (wr := []) rfl rfl rfl rfl rfl [0, 1] rfl [(mo, .inr (7, [.ref ma0, .ref ma1, .ref ma2, .int (nI ns), .ref ma4, .ref ma5, .int (nI mlen), .ref ma7, .int (bI gw), .ref ma9, .ref ma10, .ref ma11, .ref ma12, .int (nI mm), .int (nI pl), .ref ma15, .int (nI wm), .long hh])), (ma4, .inl (E.2.1, 3, .inl (aN (va_up Rf 0 (Rf 0 + 1)))))] rfl rfl [.int (-2 : Int32)] rfl 22 rfl ?_
      exact G_iret C hr dX7_group_22 rfl () trivial rfl rfl

set_option maxHeartbeats 4000000 in
set_option maxRecDepth 100000 in
theorem m_group_ok (l : Launch) (E : gE) (mo ma0 ma1 ma2 ma4 ma5 ma7 ma9 ma10 ma11 ma12 ma15 ns mlen mm pl wm : Nat) (gw : Bool) (hh : Int64) (Nw : Nat → Nat) (Gp : Nat → Nat) (Tt : Nat → Option Nat) (ln : Nat → Nat) (n x wh : Nat) (hok : mok n ln Nw) (hx : x < 10) (hw : wh < 3) : FD l E yX7_group cX7_group 3 (some .int) { frames := 4, cells := 0, slots := 0, locals := 96 } [.ref mo, .int (nI x), .int (nI wh)] [(mo, .inr (7, [.ref ma0, .ref ma1, .ref ma2, .int (nI ns), .ref ma4, .ref ma5, .int (nI mlen), .ref ma7, .int (bI gw), .ref ma9, .ref ma10, .ref ma11, .ref ma12, .int (nI mm), .int (nI pl), .ref ma15, .int (nI wm), .long hh])), (ma0, .inl (E.2.1, 15, .inl (aN Nw))), (ma9, .inl (E.2.1, 10, .inl (aN Gp))), (ma10, .inl (E.2.1, 10, .inl (aO Tt)))] (some (.int (oI (gdt (coarG ln n none) (coarT ln n none) x wh)))) [(mo, .inr (7, [.ref ma0, .ref ma1, .ref ma2, .int (nI ns), .ref ma4, .ref ma5, .int (nI mlen), .ref ma7, .int (bI false), .ref ma9, .ref ma10, .ref ma11, .ref ma12, .int (nI mm), .int (nI pl), .ref ma15, .int (nI wm), .long hh])), (ma0, .inl (E.2.1, 15, .inl (aN Nw))), (ma9, .inl (E.2.1, 10, .inl (aN (coarG ln n none)))), (ma10, .inl (E.2.1, 10, .inl (aO (coarT ln n none))))] := by
  refine Fn_ofL (own := RX7) (by decide) rfl rfl [(0, .ref mo), (1, .int (nI x)), (2, .int (nI wh))] rfl ?_
  intro p e s m below meth c A C hr hnm
  rcases (show wh = 0 ∨ wh = 1 ∨ wh = 2 by omega) with rfl | rfl | rfl
  · refine G_iload_n C dX7_group_0 rfl 1 rfl ?_
    refine G_cS C dX7_group_1 (c_X7_isName l E (nI x) ) wm_X7_55 wt_X7_isName wn_X7 wc_X7_isName rfl rfl ⟨by decide, by decide, rfl⟩ rfl (Nat.le_of_ble_eq_true rfl) [] [0, 1, 2, 3] (wr := [(mo, .inr (7, [.ref ma0, .ref ma1, .ref ma2, .int (nI ns), .ref ma4, .ref ma5, .int (nI mlen), .ref ma7, .int (bI gw), .ref ma9, .ref ma10, .ref ma11, .ref ma12, .int (nI mm), .int (nI pl), .ref ma15, .int (nI wm), .long hh])), (ma0, .inl (E.2.1, 15, .inl (aN Nw))), (ma9, .inl (E.2.1, 10, .inl (aN Gp))), (ma10, .inl (E.2.1, 10, .inl (aO Tt)))]) rfl rfl rfl rfl rfl [0, 1, 2, 3] rfl [(mo, .inr (7, [.ref ma0, .ref ma1, .ref ma2, .int (nI ns), .ref ma4, .ref ma5, .int (nI mlen), .ref ma7, .int (bI gw), .ref ma9, .ref ma10, .ref ma11, .ref ma12, .int (nI mm), .int (nI pl), .ref ma15, .int (nI wm), .long hh])), (ma0, .inl (E.2.1, 15, .inl (aN Nw))), (ma9, .inl (E.2.1, 10, .inl (aN Gp))), (ma10, .inl (E.2.1, 10, .inl (aO Tt)))] rfl rfl [.int (bI (inb (nI x) 10))] rfl 4 rfl ?_
    refine G_if_eq_f C dX7_group_4 16 rfl 7 rfl (inbT hx (by omega)) ?_
    refine G_iload_n C dX7_group_7 rfl 8 rfl ?_
    refine G_iconst C dX7_group_8 (v := nI 0) rfl 9 rfl ?_
    refine G_iconst C dX7_group_9 (v := nI 2) rfl 10 rfl ?_
    refine G_cS C dX7_group_10 (c_X7_within l E (nI 0) (nI 0) (nI 2) ) wm_X7_43 wt_X7_within wn_X7 wc_X7_within rfl rfl ⟨by decide, by decide, rfl⟩ rfl (Nat.le_of_ble_eq_true rfl) [] [0, 1, 2, 3] (wr := [(mo, .inr (7, [.ref ma0, .ref ma1, .ref ma2, .int (nI ns), .ref ma4, .ref ma5, .int (nI mlen), .ref ma7, .int (bI gw), .ref ma9, .ref ma10, .ref ma11, .ref ma12, .int (nI mm), .int (nI pl), .ref ma15, .int (nI wm), .long hh])), (ma0, .inl (E.2.1, 15, .inl (aN Nw))), (ma9, .inl (E.2.1, 10, .inl (aN Gp))), (ma10, .inl (E.2.1, 10, .inl (aO Tt)))]) rfl rfl rfl rfl rfl [0, 1, 2, 3] rfl [(mo, .inr (7, [.ref ma0, .ref ma1, .ref ma2, .int (nI ns), .ref ma4, .ref ma5, .int (nI mlen), .ref ma7, .int (bI gw), .ref ma9, .ref ma10, .ref ma11, .ref ma12, .int (nI mm), .int (nI pl), .ref ma15, .int (nI wm), .long hh])), (ma0, .inl (E.2.1, 15, .inl (aN Nw))), (ma9, .inl (E.2.1, 10, .inl (aN Gp))), (ma10, .inl (E.2.1, 10, .inl (aO Tt)))] rfl rfl [.int (bI (decide ((nI 0).toInt ≤ (nI 0).toInt ∧ (nI 0).toInt ≤ (nI 2).toInt)))] rfl 13 rfl ?_
    refine G_if_ne_t C dX7_group_13 23 rfl (wi_ok (by omega) (by omega)) ?_
    refine G_aload_n C dX7_group_23 rfl 24 rfl ?_
    refine G_iconst C dX7_group_24 (v := oI none) rfl 25 rfl ?_
    refine G_cV C dX7_group_25 (c_X7_laysCoarse l E mo ma0 ma1 ma2 ma4 ma5 ma7 ma9 ma10 ma11 ma12 ma15 ns mlen mm pl wm gw hh Nw Gp Tt ln n none (by first | assumption | omega) (fun g h => by cases h)) wm_X7_115 wi_X7_laysCoarse wsel_X7_laysCoarse wn_X7 wc_X7_laysCoarse rfl rfl ⟨by decide, by decide, rfl⟩ rfl (Nat.le_of_ble_eq_true rfl) 7 rfl rfl 0 rfl [0, 1, 2, 3] [] (wr := []) rfl rfl rfl rfl rfl [0, 1, 2, 3] rfl [(mo, .inr (7, [.ref ma0, .ref ma1, .ref ma2, .int (nI ns), .ref ma4, .ref ma5, .int (nI mlen), .ref ma7, .int (bI false), .ref ma9, .ref ma10, .ref ma11, .ref ma12, .int (nI mm), .int (nI pl), .ref ma15, .int (nI wm), .long hh])), (ma0, .inl (E.2.1, 15, .inl (aN Nw))), (ma9, .inl (E.2.1, 10, .inl (aN (coarG ln n none)))), (ma10, .inl (E.2.1, 10, .inl (aO (coarT ln n none))))] rfl rfl [] rfl 28 rfl ?_
    refine G_iload_n C dX7_group_28 rfl 29 rfl ?_
    refine G_if_ne_f C dX7_group_29 45 rfl 32 rfl (by decide) ?_
    refine G_aload_n C dX7_group_32 rfl 33 rfl ?_
    refine G_aload_n C dX7_group_33 rfl 34 rfl ?_
    refine G_getf C dX7_group_34 wF_X7 wf_X7_28 (f := 9) (by decide) (ci := 7) rfl 0 rfl rfl 37 rfl ?_
    refine G_iload_n C dX7_group_37 rfl 38 rfl ?_
    refine G_ialdN C dX7_group_38 2 rfl rfl (by omega) 39 rfl ?_
    refine G_cV C dX7_group_39 (c_X7_groupSet l E mo ma0 ma1 ma2 ma4 ma5 ma7 ma9 ma10 ma11 ma12 ma15 ns mlen mm pl wm false hh (coarG ln n none) (coarT ln n none) (some ((coarG ln n none) x)) (cok_cit 21).1 (ook_s ((cok_cit 21).1 _ hx))) wm_X7_99 wi_X7_groupSet wsel_X7_groupSet wn_X7 wc_X7_groupSet rfl rfl ⟨by decide, by decide, rfl⟩ rfl (Nat.le_of_ble_eq_true rfl) 7 rfl rfl 0 rfl [0, 2, 3] [1] (wr := [(ma0, .inl (E.2.1, 15, .inl (aN Nw)))]) rfl rfl rfl rfl rfl [1, 0, 2, 3] rfl [(mo, .inr (7, [.ref ma0, .ref ma1, .ref ma2, .int (nI ns), .ref ma4, .ref ma5, .int (nI mlen), .ref ma7, .int (bI false), .ref ma9, .ref ma10, .ref ma11, .ref ma12, .int (nI mm), .int (nI pl), .ref ma15, .int (nI wm), .long hh])), (ma0, .inl (E.2.1, 15, .inl (aN Nw))), (ma9, .inl (E.2.1, 10, .inl (aN (coarG ln n none)))), (ma10, .inl (E.2.1, 10, .inl (aO (coarT ln n none))))] rfl rfl [.int (nI (mem (coarG ln n none) (some ((coarG ln n none) x)) 10))] rfl 42 rfl ?_
    refine G_goto C dX7_group_42 70 rfl ?_
    exact G_iret C hr dX7_group_70 rfl () trivial (by rfl) rfl
  · refine G_iload_n C dX7_group_0 rfl 1 rfl ?_
    refine G_cS C dX7_group_1 (c_X7_isName l E (nI x) ) wm_X7_55 wt_X7_isName wn_X7 wc_X7_isName rfl rfl ⟨by decide, by decide, rfl⟩ rfl (Nat.le_of_ble_eq_true rfl) [] [0, 1, 2, 3] (wr := [(mo, .inr (7, [.ref ma0, .ref ma1, .ref ma2, .int (nI ns), .ref ma4, .ref ma5, .int (nI mlen), .ref ma7, .int (bI gw), .ref ma9, .ref ma10, .ref ma11, .ref ma12, .int (nI mm), .int (nI pl), .ref ma15, .int (nI wm), .long hh])), (ma0, .inl (E.2.1, 15, .inl (aN Nw))), (ma9, .inl (E.2.1, 10, .inl (aN Gp))), (ma10, .inl (E.2.1, 10, .inl (aO Tt)))]) rfl rfl rfl rfl rfl [0, 1, 2, 3] rfl [(mo, .inr (7, [.ref ma0, .ref ma1, .ref ma2, .int (nI ns), .ref ma4, .ref ma5, .int (nI mlen), .ref ma7, .int (bI gw), .ref ma9, .ref ma10, .ref ma11, .ref ma12, .int (nI mm), .int (nI pl), .ref ma15, .int (nI wm), .long hh])), (ma0, .inl (E.2.1, 15, .inl (aN Nw))), (ma9, .inl (E.2.1, 10, .inl (aN Gp))), (ma10, .inl (E.2.1, 10, .inl (aO Tt)))] rfl rfl [.int (bI (inb (nI x) 10))] rfl 4 rfl ?_
    refine G_if_eq_f C dX7_group_4 16 rfl 7 rfl (inbT hx (by omega)) ?_
    refine G_iload_n C dX7_group_7 rfl 8 rfl ?_
    refine G_iconst C dX7_group_8 (v := nI 0) rfl 9 rfl ?_
    refine G_iconst C dX7_group_9 (v := nI 2) rfl 10 rfl ?_
    refine G_cS C dX7_group_10 (c_X7_within l E (nI 1) (nI 0) (nI 2) ) wm_X7_43 wt_X7_within wn_X7 wc_X7_within rfl rfl ⟨by decide, by decide, rfl⟩ rfl (Nat.le_of_ble_eq_true rfl) [] [0, 1, 2, 3] (wr := [(mo, .inr (7, [.ref ma0, .ref ma1, .ref ma2, .int (nI ns), .ref ma4, .ref ma5, .int (nI mlen), .ref ma7, .int (bI gw), .ref ma9, .ref ma10, .ref ma11, .ref ma12, .int (nI mm), .int (nI pl), .ref ma15, .int (nI wm), .long hh])), (ma0, .inl (E.2.1, 15, .inl (aN Nw))), (ma9, .inl (E.2.1, 10, .inl (aN Gp))), (ma10, .inl (E.2.1, 10, .inl (aO Tt)))]) rfl rfl rfl rfl rfl [0, 1, 2, 3] rfl [(mo, .inr (7, [.ref ma0, .ref ma1, .ref ma2, .int (nI ns), .ref ma4, .ref ma5, .int (nI mlen), .ref ma7, .int (bI gw), .ref ma9, .ref ma10, .ref ma11, .ref ma12, .int (nI mm), .int (nI pl), .ref ma15, .int (nI wm), .long hh])), (ma0, .inl (E.2.1, 15, .inl (aN Nw))), (ma9, .inl (E.2.1, 10, .inl (aN Gp))), (ma10, .inl (E.2.1, 10, .inl (aO Tt)))] rfl rfl [.int (bI (decide ((nI 0).toInt ≤ (nI 1).toInt ∧ (nI 1).toInt ≤ (nI 2).toInt)))] rfl 13 rfl ?_
    refine G_if_ne_t C dX7_group_13 23 rfl (wi_ok (by omega) (by omega)) ?_
    refine G_aload_n C dX7_group_23 rfl 24 rfl ?_
    refine G_iconst C dX7_group_24 (v := oI none) rfl 25 rfl ?_
    refine G_cV C dX7_group_25 (c_X7_laysCoarse l E mo ma0 ma1 ma2 ma4 ma5 ma7 ma9 ma10 ma11 ma12 ma15 ns mlen mm pl wm gw hh Nw Gp Tt ln n none (by first | assumption | omega) (fun g h => by cases h)) wm_X7_115 wi_X7_laysCoarse wsel_X7_laysCoarse wn_X7 wc_X7_laysCoarse rfl rfl ⟨by decide, by decide, rfl⟩ rfl (Nat.le_of_ble_eq_true rfl) 7 rfl rfl 0 rfl [0, 1, 2, 3] [] (wr := []) rfl rfl rfl rfl rfl [0, 1, 2, 3] rfl [(mo, .inr (7, [.ref ma0, .ref ma1, .ref ma2, .int (nI ns), .ref ma4, .ref ma5, .int (nI mlen), .ref ma7, .int (bI false), .ref ma9, .ref ma10, .ref ma11, .ref ma12, .int (nI mm), .int (nI pl), .ref ma15, .int (nI wm), .long hh])), (ma0, .inl (E.2.1, 15, .inl (aN Nw))), (ma9, .inl (E.2.1, 10, .inl (aN (coarG ln n none)))), (ma10, .inl (E.2.1, 10, .inl (aO (coarT ln n none))))] rfl rfl [] rfl 28 rfl ?_
    refine G_iload_n C dX7_group_28 rfl 29 rfl ?_
    refine G_if_ne_t C dX7_group_29 45 rfl (by decide) ?_
    refine G_iload_n C dX7_group_45 rfl 46 rfl ?_
    refine G_iconst C dX7_group_46 (v := nI 1) rfl 47 rfl ?_
    refine G_icmp_ne_f C dX7_group_47 59 rfl 50 rfl (by decide) ?_
    refine G_aload_n C dX7_group_50 rfl 51 rfl ?_
    refine G_getf C dX7_group_51 wF_X7 wf_X7_28 (f := 9) (by decide) (ci := 7) rfl 0 rfl rfl 54 rfl ?_
    refine G_iload_n C dX7_group_54 rfl 55 rfl ?_
    refine G_ialdN C dX7_group_55 2 rfl rfl (by omega) 56 rfl ?_
    refine G_goto C dX7_group_56 70 rfl ?_
    exact G_iret C hr dX7_group_70 rfl () trivial (by rfl) rfl
  · refine G_iload_n C dX7_group_0 rfl 1 rfl ?_
    refine G_cS C dX7_group_1 (c_X7_isName l E (nI x) ) wm_X7_55 wt_X7_isName wn_X7 wc_X7_isName rfl rfl ⟨by decide, by decide, rfl⟩ rfl (Nat.le_of_ble_eq_true rfl) [] [0, 1, 2, 3] (wr := [(mo, .inr (7, [.ref ma0, .ref ma1, .ref ma2, .int (nI ns), .ref ma4, .ref ma5, .int (nI mlen), .ref ma7, .int (bI gw), .ref ma9, .ref ma10, .ref ma11, .ref ma12, .int (nI mm), .int (nI pl), .ref ma15, .int (nI wm), .long hh])), (ma0, .inl (E.2.1, 15, .inl (aN Nw))), (ma9, .inl (E.2.1, 10, .inl (aN Gp))), (ma10, .inl (E.2.1, 10, .inl (aO Tt)))]) rfl rfl rfl rfl rfl [0, 1, 2, 3] rfl [(mo, .inr (7, [.ref ma0, .ref ma1, .ref ma2, .int (nI ns), .ref ma4, .ref ma5, .int (nI mlen), .ref ma7, .int (bI gw), .ref ma9, .ref ma10, .ref ma11, .ref ma12, .int (nI mm), .int (nI pl), .ref ma15, .int (nI wm), .long hh])), (ma0, .inl (E.2.1, 15, .inl (aN Nw))), (ma9, .inl (E.2.1, 10, .inl (aN Gp))), (ma10, .inl (E.2.1, 10, .inl (aO Tt)))] rfl rfl [.int (bI (inb (nI x) 10))] rfl 4 rfl ?_
    refine G_if_eq_f C dX7_group_4 16 rfl 7 rfl (inbT hx (by omega)) ?_
    refine G_iload_n C dX7_group_7 rfl 8 rfl ?_
    refine G_iconst C dX7_group_8 (v := nI 0) rfl 9 rfl ?_
    refine G_iconst C dX7_group_9 (v := nI 2) rfl 10 rfl ?_
    refine G_cS C dX7_group_10 (c_X7_within l E (nI 2) (nI 0) (nI 2) ) wm_X7_43 wt_X7_within wn_X7 wc_X7_within rfl rfl ⟨by decide, by decide, rfl⟩ rfl (Nat.le_of_ble_eq_true rfl) [] [0, 1, 2, 3] (wr := [(mo, .inr (7, [.ref ma0, .ref ma1, .ref ma2, .int (nI ns), .ref ma4, .ref ma5, .int (nI mlen), .ref ma7, .int (bI gw), .ref ma9, .ref ma10, .ref ma11, .ref ma12, .int (nI mm), .int (nI pl), .ref ma15, .int (nI wm), .long hh])), (ma0, .inl (E.2.1, 15, .inl (aN Nw))), (ma9, .inl (E.2.1, 10, .inl (aN Gp))), (ma10, .inl (E.2.1, 10, .inl (aO Tt)))]) rfl rfl rfl rfl rfl [0, 1, 2, 3] rfl [(mo, .inr (7, [.ref ma0, .ref ma1, .ref ma2, .int (nI ns), .ref ma4, .ref ma5, .int (nI mlen), .ref ma7, .int (bI gw), .ref ma9, .ref ma10, .ref ma11, .ref ma12, .int (nI mm), .int (nI pl), .ref ma15, .int (nI wm), .long hh])), (ma0, .inl (E.2.1, 15, .inl (aN Nw))), (ma9, .inl (E.2.1, 10, .inl (aN Gp))), (ma10, .inl (E.2.1, 10, .inl (aO Tt)))] rfl rfl [.int (bI (decide ((nI 0).toInt ≤ (nI 2).toInt ∧ (nI 2).toInt ≤ (nI 2).toInt)))] rfl 13 rfl ?_
    refine G_if_ne_t C dX7_group_13 23 rfl (wi_ok (by omega) (by omega)) ?_
    refine G_aload_n C dX7_group_23 rfl 24 rfl ?_
    refine G_iconst C dX7_group_24 (v := oI none) rfl 25 rfl ?_
    refine G_cV C dX7_group_25 (c_X7_laysCoarse l E mo ma0 ma1 ma2 ma4 ma5 ma7 ma9 ma10 ma11 ma12 ma15 ns mlen mm pl wm gw hh Nw Gp Tt ln n none (by first | assumption | omega) (fun g h => by cases h)) wm_X7_115 wi_X7_laysCoarse wsel_X7_laysCoarse wn_X7 wc_X7_laysCoarse rfl rfl ⟨by decide, by decide, rfl⟩ rfl (Nat.le_of_ble_eq_true rfl) 7 rfl rfl 0 rfl [0, 1, 2, 3] [] (wr := []) rfl rfl rfl rfl rfl [0, 1, 2, 3] rfl [(mo, .inr (7, [.ref ma0, .ref ma1, .ref ma2, .int (nI ns), .ref ma4, .ref ma5, .int (nI mlen), .ref ma7, .int (bI false), .ref ma9, .ref ma10, .ref ma11, .ref ma12, .int (nI mm), .int (nI pl), .ref ma15, .int (nI wm), .long hh])), (ma0, .inl (E.2.1, 15, .inl (aN Nw))), (ma9, .inl (E.2.1, 10, .inl (aN (coarG ln n none)))), (ma10, .inl (E.2.1, 10, .inl (aO (coarT ln n none))))] rfl rfl [] rfl 28 rfl ?_
    refine G_iload_n C dX7_group_28 rfl 29 rfl ?_
    refine G_if_ne_t C dX7_group_29 45 rfl (by decide) ?_
    refine G_iload_n C dX7_group_45 rfl 46 rfl ?_
    refine G_iconst C dX7_group_46 (v := nI 1) rfl 47 rfl ?_
    refine G_icmp_ne_t C dX7_group_47 59 rfl (by decide) ?_
    refine G_aload_n C dX7_group_59 rfl 60 rfl ?_
    refine G_getf C dX7_group_60 wF_X7 wf_X7_31 (f := 10) (by decide) (ci := 7) rfl 0 rfl rfl 63 rfl ?_
    refine G_aload_n C dX7_group_63 rfl 64 rfl ?_
    refine G_getf C dX7_group_64 wF_X7 wf_X7_28 (f := 9) (by decide) (ci := 7) rfl 0 rfl rfl 67 rfl ?_
    refine G_iload_n C dX7_group_67 rfl 68 rfl ?_
    refine G_ialdN C dX7_group_68 2 rfl rfl (by omega) 69 rfl ?_
    refine G_ialdO C dX7_group_69 3 rfl rfl ((cok_cit 21).1 _ hx) 70 rfl ?_
    exact G_iret C hr dX7_group_70 rfl () trivial (by rfl) rfl

set_option maxHeartbeats 4000000 in
set_option maxRecDepth 100000 in
theorem c_X7_countOf (l : Launch) (E : gE) (mo ma0 ma1 ma2 ma4 ma5 ma7 ma9 ma10 ma11 ma12 ma15 ns mlen mm pl wm : Nat) (gw : Bool) (hh : Int64) (Nw : Nat → Nat) (S : Nat → Nat) (Gp : Nat → Nat) (Tt : Nat → Option Nat) (ln : Nat → Nat) (n wh : Nat) (hok : mok n ln Nw) (hw : wh < 5) : FD l E yX7_countOf cX7_countOf 5 (some .int) { frames := 4, cells := 0, slots := 0, locals := 96 } [.ref mo, .int (nI wh)] [(mo, .inr (7, [.ref ma0, .ref ma1, .ref ma2, .int (nI ns), .ref ma4, .ref ma5, .int (nI mlen), .ref ma7, .int (bI gw), .ref ma9, .ref ma10, .ref ma11, .ref ma12, .int (nI mm), .int (nI pl), .ref ma15, .int (nI wm), .long hh])), (ma0, .inl (E.2.1, 15, .inl (aN Nw))), (ma7, .inl (E.2.1, 10, .inl (aN S))), (ma9, .inl (E.2.1, 10, .inl (aN Gp))), (ma10, .inl (E.2.1, 10, .inl (aO Tt)))] (some (.int (nI (cnd (fineC ln n none) (coarG ln n none) (coarT ln n none) wh)))) [(mo, .inr (7, [.ref ma0, .ref ma1, .ref ma2, .int (nI ns), .ref ma4, .ref ma5, .int (nI mlen), .ref ma7, .int (bI false), .ref ma9, .ref ma10, .ref ma11, .ref ma12, .int (nI mm), .int (nI pl), .ref ma15, .int (nI wm), .long hh])), (ma0, .inl (E.2.1, 15, .inl (aN Nw))), (ma7, .inl (E.2.1, 10, .inl (aN (fineC ln n none)))), (ma9, .inl (E.2.1, 10, .inl (aN (coarG ln n none)))), (ma10, .inl (E.2.1, 10, .inl (aO (coarT ln n none))))] := by
  refine Fn_ofL (own := RX7) (by decide) rfl rfl [(0, .ref mo), (1, .int (nI wh))] rfl ?_
  intro p e s m below meth c A C hr hnm
  rcases (show wh = 0 ∨ wh = 1 ∨ wh = 2 ∨ wh = 3 ∨ wh = 4 by omega) with rfl | rfl | rfl | rfl | rfl
  · refine G_aload_n C dX7_countOf_0 rfl 1 rfl ?_
    refine G_iconst C dX7_countOf_1 (v := oI none) rfl 2 rfl ?_
    refine G_cV C dX7_countOf_2 (c_X7_laysFine l E mo ma0 ma1 ma2 ma4 ma5 ma7 ma9 ma10 ma11 ma12 ma15 ns mlen mm pl wm gw hh Nw S ln n none (by first | assumption | omega) (fun g h => by cases h)) wm_X7_108 wi_X7_laysFine wsel_X7_laysFine wn_X7 wc_X7_laysFine rfl rfl ⟨by decide, by decide, rfl⟩ rfl (Nat.le_of_ble_eq_true rfl) 7 rfl rfl 0 rfl [0, 1, 2] [3, 4] (wr := [(ma9, .inl (E.2.1, 10, .inl (aN Gp))), (ma10, .inl (E.2.1, 10, .inl (aO Tt)))]) rfl rfl rfl rfl rfl [2, 3, 4, 0, 1] rfl [(mo, .inr (7, [.ref ma0, .ref ma1, .ref ma2, .int (nI ns), .ref ma4, .ref ma5, .int (nI mlen), .ref ma7, .int (bI false), .ref ma9, .ref ma10, .ref ma11, .ref ma12, .int (nI mm), .int (nI pl), .ref ma15, .int (nI wm), .long hh])), (ma0, .inl (E.2.1, 15, .inl (aN Nw))), (ma7, .inl (E.2.1, 10, .inl (aN (fineC ln n none)))), (ma9, .inl (E.2.1, 10, .inl (aN Gp))), (ma10, .inl (E.2.1, 10, .inl (aO Tt)))] rfl rfl [] rfl 5 rfl ?_
    refine G_aload_n C dX7_countOf_5 rfl 6 rfl ?_
    refine G_iconst C dX7_countOf_6 (v := oI none) rfl 7 rfl ?_
    refine G_cV C dX7_countOf_7 (c_X7_laysCoarse l E mo ma0 ma1 ma2 ma4 ma5 ma7 ma9 ma10 ma11 ma12 ma15 ns mlen mm pl wm false hh Nw Gp Tt ln n none (by first | assumption | omega) (fun g h => by cases h)) wm_X7_115 wi_X7_laysCoarse wsel_X7_laysCoarse wn_X7 wc_X7_laysCoarse rfl rfl ⟨by decide, by decide, rfl⟩ rfl (Nat.le_of_ble_eq_true rfl) 7 rfl rfl 0 rfl [0, 1, 3, 4] [2] (wr := [(ma7, .inl (E.2.1, 10, .inl (aN (fineC ln n none))))]) rfl rfl rfl rfl rfl [1, 2, 0, 3, 4] rfl [(mo, .inr (7, [.ref ma0, .ref ma1, .ref ma2, .int (nI ns), .ref ma4, .ref ma5, .int (nI mlen), .ref ma7, .int (bI false), .ref ma9, .ref ma10, .ref ma11, .ref ma12, .int (nI mm), .int (nI pl), .ref ma15, .int (nI wm), .long hh])), (ma0, .inl (E.2.1, 15, .inl (aN Nw))), (ma7, .inl (E.2.1, 10, .inl (aN (fineC ln n none)))), (ma9, .inl (E.2.1, 10, .inl (aN (coarG ln n none)))), (ma10, .inl (E.2.1, 10, .inl (aO (coarT ln n none))))] rfl rfl [] rfl 10 rfl ?_
    refine G_iconst C dX7_countOf_10 (v := nI 0) rfl 11 rfl ?_
    refine G_istore_n C dX7_countOf_11 (by decide) [(2, .int (nI 0)), (0, .ref mo), (1, .int (nI 0))] rfl 12 rfl ?_
    refine G_iconst C dX7_countOf_12 (v := nI 0) rfl 13 rfl ?_
    refine G_istore_n C dX7_countOf_13 (by decide) [(3, .int (nI 0)), (2, .int (nI 0)), (0, .ref mo), (1, .int (nI 0))] rfl 14 rfl ?_
    refine G_sel [1, 0, 2, 3] [(2, .int (nI 0)), (3, .int (nI 0)), (0, .ref mo), (1, .int (nI 0))] rfl ?_
    refine G_while (X := Nat) (Wf := fun i => [(mo, .inr (7, [.ref ma0, .ref ma1, .ref ma2, .int (nI ns), .ref ma4, .ref ma5, .int (nI mlen), .ref ma7, .int (bI false), .ref ma9, .ref ma10, .ref ma11, .ref ma12, .int (nI mm), .int (nI pl), .ref ma15, .int (nI wm), .long hh])), (ma0, .inl (E.2.1, 15, .inl (aN Nw))), (ma7, .inl (E.2.1, 10, .inl (aN (fineC ln n none)))), (ma9, .inl (E.2.1, 10, .inl (aN (coarG ln n none)))), (ma10, .inl (E.2.1, 10, .inl (aO (coarT ln n none))))]) (Lf := fun i => [(2, .int (nI (gcn (coarG ln n none) i))), (3, .int (nI i)), (0, .ref mo), (1, .int (nI 0))]) (Sf := fun _ => []) (fun i => i ≤ 10) (fun i => 10 - i) (fun i hi ih => ?_) 0 (by omega)
    refine G_iload_n C dX7_countOf_14 rfl 15 rfl ?_
    refine G_bipush C dX7_countOf_15 (v := nI 10) (by decide) 17 rfl ?_
    refine G_icmp_ge C dX7_countOf_17 168 rfl 20 rfl (nI_leI (by omega) (by omega)) (fun h_1 => ?_) (fun h_1 => ?_)
    · refine G_iload_n C dX7_countOf_168 rfl 169 rfl ?_
      exact G_iret C hr dX7_countOf_169 rfl () trivial (by rw [show i = 10 by omega]; rfl) rfl
    · refine G_aload_n C dX7_countOf_20 rfl 21 rfl ?_
      refine G_getf C dX7_countOf_21 wF_X7 wf_X7_28 (f := 9) (by decide) (ci := 7) rfl 0 rfl rfl 24 rfl ?_
      refine G_iload_n C dX7_countOf_24 rfl 25 rfl ?_
      refine G_ialdN C dX7_countOf_25 3 rfl rfl (by omega) 26 rfl ?_
      refine G_iload_n C dX7_countOf_26 rfl 27 rfl ?_
      refine G_icmp_ne C dX7_countOf_27 34 rfl 30 rfl (nI_eq (Nat.lt_trans ((cok_cit 21).1 i (by omega)) (by decide)) (by omega)) (fun h_2 => ?_) (fun h_2 => ?_)
      · refine G_iconst C dX7_countOf_34 (v := nI 0) rfl 35 rfl ?_
        refine G_istore C dX7_countOf_35 (by decide) [(4, .int (nI 0)), (2, .int (nI (gcn (coarG ln n none) i))), (3, .int (nI i)), (0, .ref mo), (1, .int (nI 0))] rfl 37 rfl ?_
        refine G_iload_n C dX7_countOf_37 rfl 38 rfl ?_
        refine G_tabIn C dX7_countOf_38 (30) (by decide) (by decide) rfl 68 rfl ?_
        refine G_iload_n C dX7_countOf_68 rfl 69 rfl ?_
        refine G_iload C dX7_countOf_69 rfl 71 rfl ?_
        refine G_if_eq_t C dX7_countOf_71 78 rfl (by decide) ?_
        refine G_iconst C dX7_countOf_78 (v := nI 0) rfl 79 rfl ?_
        refine G_iadd C dX7_countOf_79 (v := nI (gcn (coarG ln n none) i + 0)) (nI_add _ _) 80 rfl ?_
        refine G_istore_n C dX7_countOf_80 (by decide) [(2, .int (nI (gcn (coarG ln n none) i + 0))), (4, .int (nI 0)), (3, .int (nI i)), (0, .ref mo), (1, .int (nI 0))] rfl 81 rfl ?_
        refine G_goto C dX7_countOf_81 162 rfl ?_
        refine G_iinc C dX7_countOf_162 2 rfl (nI_1 _) (by decide) [(3, .int (nI (i + 1))), (2, .int (nI (gcn (coarG ln n none) i + 0))), (4, .int (nI 0)), (0, .ref mo), (1, .int (nI 0))] rfl 165 rfl ?_
        refine G_goto C dX7_countOf_165 14 rfl ?_
        refine G_sel [1, 0, 3, 4] [(2, .int (nI (gcn (coarG ln n none) i + 0))), (3, .int (nI (i + 1))), (0, .ref mo), (1, .int (nI 0))] rfl ?_
        refine G_eq (ws' := [(mo, .inr (7, [.ref ma0, .ref ma1, .ref ma2, .int (nI ns), .ref ma4, .ref ma5, .int (nI mlen), .ref ma7, .int (bI false), .ref ma9, .ref ma10, .ref ma11, .ref ma12, .int (nI mm), .int (nI pl), .ref ma15, .int (nI wm), .long hh])), (ma0, .inl (E.2.1, 15, .inl (aN Nw))), (ma7, .inl (E.2.1, 10, .inl (aN (fineC ln n none)))), (ma9, .inl (E.2.1, 10, .inl (aN (coarG ln n none)))), (ma10, .inl (E.2.1, 10, .inl (aO (coarT ln n none))))]) (L' := [(2, .int (nI (gcn (coarG ln n none) (i + 1)))), (3, .int (nI (i + 1))), (0, .ref mo), (1, .int (nI 0))]) rfl (by simp [gcn, h_2]) rfl ?_
        exact ih (i + 1) (by omega) (by omega)
      · refine G_iconst C dX7_countOf_30 (v := nI 1) rfl 31 rfl ?_
        refine G_goto C dX7_countOf_31 35 rfl ?_
        refine G_istore C dX7_countOf_35 (by decide) [(4, .int (nI 1)), (2, .int (nI (gcn (coarG ln n none) i))), (3, .int (nI i)), (0, .ref mo), (1, .int (nI 0))] rfl 37 rfl ?_
        refine G_iload_n C dX7_countOf_37 rfl 38 rfl ?_
        refine G_tabIn C dX7_countOf_38 (30) (by decide) (by decide) rfl 68 rfl ?_
        refine G_iload_n C dX7_countOf_68 rfl 69 rfl ?_
        refine G_iload C dX7_countOf_69 rfl 71 rfl ?_
        refine G_if_eq_f C dX7_countOf_71 78 rfl 74 rfl (by decide) ?_
        refine G_iconst C dX7_countOf_74 (v := nI 1) rfl 75 rfl ?_
        refine G_goto C dX7_countOf_75 79 rfl ?_
        refine G_iadd C dX7_countOf_79 (v := nI (gcn (coarG ln n none) i + 1)) (nI_add _ _) 80 rfl ?_
        refine G_istore_n C dX7_countOf_80 (by decide) [(2, .int (nI (gcn (coarG ln n none) i + 1))), (4, .int (nI 1)), (3, .int (nI i)), (0, .ref mo), (1, .int (nI 0))] rfl 81 rfl ?_
        refine G_goto C dX7_countOf_81 162 rfl ?_
        refine G_iinc C dX7_countOf_162 2 rfl (nI_1 _) (by decide) [(3, .int (nI (i + 1))), (2, .int (nI (gcn (coarG ln n none) i + 1))), (4, .int (nI 1)), (0, .ref mo), (1, .int (nI 0))] rfl 165 rfl ?_
        refine G_goto C dX7_countOf_165 14 rfl ?_
        refine G_sel [1, 0, 3, 4] [(2, .int (nI (gcn (coarG ln n none) i + 1))), (3, .int (nI (i + 1))), (0, .ref mo), (1, .int (nI 0))] rfl ?_
        refine G_eq (ws' := [(mo, .inr (7, [.ref ma0, .ref ma1, .ref ma2, .int (nI ns), .ref ma4, .ref ma5, .int (nI mlen), .ref ma7, .int (bI false), .ref ma9, .ref ma10, .ref ma11, .ref ma12, .int (nI mm), .int (nI pl), .ref ma15, .int (nI wm), .long hh])), (ma0, .inl (E.2.1, 15, .inl (aN Nw))), (ma7, .inl (E.2.1, 10, .inl (aN (fineC ln n none)))), (ma9, .inl (E.2.1, 10, .inl (aN (coarG ln n none)))), (ma10, .inl (E.2.1, 10, .inl (aO (coarT ln n none))))]) (L' := [(2, .int (nI (gcn (coarG ln n none) (i + 1)))), (3, .int (nI (i + 1))), (0, .ref mo), (1, .int (nI 0))]) rfl (by simp [gcn, h_2]) rfl ?_
        exact ih (i + 1) (by omega) (by omega)
  · refine G_aload_n C dX7_countOf_0 rfl 1 rfl ?_
    refine G_iconst C dX7_countOf_1 (v := oI none) rfl 2 rfl ?_
    refine G_cV C dX7_countOf_2 (c_X7_laysFine l E mo ma0 ma1 ma2 ma4 ma5 ma7 ma9 ma10 ma11 ma12 ma15 ns mlen mm pl wm gw hh Nw S ln n none (by first | assumption | omega) (fun g h => by cases h)) wm_X7_108 wi_X7_laysFine wsel_X7_laysFine wn_X7 wc_X7_laysFine rfl rfl ⟨by decide, by decide, rfl⟩ rfl (Nat.le_of_ble_eq_true rfl) 7 rfl rfl 0 rfl [0, 1, 2] [3, 4] (wr := [(ma9, .inl (E.2.1, 10, .inl (aN Gp))), (ma10, .inl (E.2.1, 10, .inl (aO Tt)))]) rfl rfl rfl rfl rfl [2, 3, 4, 0, 1] rfl [(mo, .inr (7, [.ref ma0, .ref ma1, .ref ma2, .int (nI ns), .ref ma4, .ref ma5, .int (nI mlen), .ref ma7, .int (bI false), .ref ma9, .ref ma10, .ref ma11, .ref ma12, .int (nI mm), .int (nI pl), .ref ma15, .int (nI wm), .long hh])), (ma0, .inl (E.2.1, 15, .inl (aN Nw))), (ma7, .inl (E.2.1, 10, .inl (aN (fineC ln n none)))), (ma9, .inl (E.2.1, 10, .inl (aN Gp))), (ma10, .inl (E.2.1, 10, .inl (aO Tt)))] rfl rfl [] rfl 5 rfl ?_
    refine G_aload_n C dX7_countOf_5 rfl 6 rfl ?_
    refine G_iconst C dX7_countOf_6 (v := oI none) rfl 7 rfl ?_
    refine G_cV C dX7_countOf_7 (c_X7_laysCoarse l E mo ma0 ma1 ma2 ma4 ma5 ma7 ma9 ma10 ma11 ma12 ma15 ns mlen mm pl wm false hh Nw Gp Tt ln n none (by first | assumption | omega) (fun g h => by cases h)) wm_X7_115 wi_X7_laysCoarse wsel_X7_laysCoarse wn_X7 wc_X7_laysCoarse rfl rfl ⟨by decide, by decide, rfl⟩ rfl (Nat.le_of_ble_eq_true rfl) 7 rfl rfl 0 rfl [0, 1, 3, 4] [2] (wr := [(ma7, .inl (E.2.1, 10, .inl (aN (fineC ln n none))))]) rfl rfl rfl rfl rfl [1, 2, 0, 3, 4] rfl [(mo, .inr (7, [.ref ma0, .ref ma1, .ref ma2, .int (nI ns), .ref ma4, .ref ma5, .int (nI mlen), .ref ma7, .int (bI false), .ref ma9, .ref ma10, .ref ma11, .ref ma12, .int (nI mm), .int (nI pl), .ref ma15, .int (nI wm), .long hh])), (ma0, .inl (E.2.1, 15, .inl (aN Nw))), (ma7, .inl (E.2.1, 10, .inl (aN (fineC ln n none)))), (ma9, .inl (E.2.1, 10, .inl (aN (coarG ln n none)))), (ma10, .inl (E.2.1, 10, .inl (aO (coarT ln n none))))] rfl rfl [] rfl 10 rfl ?_
    refine G_iconst C dX7_countOf_10 (v := nI 0) rfl 11 rfl ?_
    refine G_istore_n C dX7_countOf_11 (by decide) [(2, .int (nI 0)), (0, .ref mo), (1, .int (nI 1))] rfl 12 rfl ?_
    refine G_iconst C dX7_countOf_12 (v := nI 0) rfl 13 rfl ?_
    refine G_istore_n C dX7_countOf_13 (by decide) [(3, .int (nI 0)), (2, .int (nI 0)), (0, .ref mo), (1, .int (nI 1))] rfl 14 rfl ?_
    refine G_sel [1, 0, 2, 3] [(2, .int (nI 0)), (3, .int (nI 0)), (0, .ref mo), (1, .int (nI 1))] rfl ?_
    refine G_while (X := Nat) (Wf := fun i => [(mo, .inr (7, [.ref ma0, .ref ma1, .ref ma2, .int (nI ns), .ref ma4, .ref ma5, .int (nI mlen), .ref ma7, .int (bI false), .ref ma9, .ref ma10, .ref ma11, .ref ma12, .int (nI mm), .int (nI pl), .ref ma15, .int (nI wm), .long hh])), (ma0, .inl (E.2.1, 15, .inl (aN Nw))), (ma7, .inl (E.2.1, 10, .inl (aN (fineC ln n none)))), (ma9, .inl (E.2.1, 10, .inl (aN (coarG ln n none)))), (ma10, .inl (E.2.1, 10, .inl (aO (coarT ln n none))))]) (Lf := fun i => [(2, .int (nI (pnc (coarT ln n none) i))), (3, .int (nI i)), (0, .ref mo), (1, .int (nI 1))]) (Sf := fun _ => []) (fun i => i ≤ 10) (fun i => 10 - i) (fun i hi ih => ?_) 0 (by omega)
    refine G_iload_n C dX7_countOf_14 rfl 15 rfl ?_
    refine G_bipush C dX7_countOf_15 (v := nI 10) (by decide) 17 rfl ?_
    refine G_icmp_ge C dX7_countOf_17 168 rfl 20 rfl (nI_leI (by omega) (by omega)) (fun h_1 => ?_) (fun h_1 => ?_)
    · refine G_iload_n C dX7_countOf_168 rfl 169 rfl ?_
      exact G_iret C hr dX7_countOf_169 rfl () trivial (by rw [show i = 10 by omega]; rfl) rfl
    · refine G_aload_n C dX7_countOf_20 rfl 21 rfl ?_
      refine G_getf C dX7_countOf_21 wF_X7 wf_X7_28 (f := 9) (by decide) (ci := 7) rfl 0 rfl rfl 24 rfl ?_
      refine G_iload_n C dX7_countOf_24 rfl 25 rfl ?_
      refine G_ialdN C dX7_countOf_25 3 rfl rfl (by omega) 26 rfl ?_
      refine G_iload_n C dX7_countOf_26 rfl 27 rfl ?_
      refine G_icmp_ne C dX7_countOf_27 34 rfl 30 rfl (nI_eq (Nat.lt_trans ((cok_cit 21).1 i (by omega)) (by decide)) (by omega)) (fun h_2 => ?_) (fun h_2 => ?_)
      · refine G_iconst C dX7_countOf_34 (v := nI 0) rfl 35 rfl ?_
        refine G_istore C dX7_countOf_35 (by decide) [(4, .int (nI 0)), (2, .int (nI (pnc (coarT ln n none) i))), (3, .int (nI i)), (0, .ref mo), (1, .int (nI 1))] rfl 37 rfl ?_
        have hno1 : ¬ (coarG ln n none) i = i → (coarT ln n none) i = none := fun h9 => by cases e9 : (coarT ln n none) i with | none => rfl | some g => exact absurd ((coar_inv ln n none).2 i (by omega) g e9).2.2 h9
        refine G_iload_n C dX7_countOf_37 rfl 38 rfl ?_
        refine G_tabIn C dX7_countOf_38 (46) (by decide) (by decide) rfl 84 rfl ?_
        refine G_iload_n C dX7_countOf_84 rfl 85 rfl ?_
        refine G_iload C dX7_countOf_85 rfl 87 rfl ?_
        refine G_if_eq_t C dX7_countOf_87 104 rfl (by decide) ?_
        refine G_iconst C dX7_countOf_104 (v := nI 0) rfl 105 rfl ?_
        refine G_iadd C dX7_countOf_105 (v := nI (pnc (coarT ln n none) i + 0)) (nI_add _ _) 106 rfl ?_
        refine G_istore_n C dX7_countOf_106 (by decide) [(2, .int (nI (pnc (coarT ln n none) i + 0))), (4, .int (nI 0)), (3, .int (nI i)), (0, .ref mo), (1, .int (nI 1))] rfl 107 rfl ?_
        refine G_goto C dX7_countOf_107 162 rfl ?_
        refine G_iinc C dX7_countOf_162 2 rfl (nI_1 _) (by decide) [(3, .int (nI (i + 1))), (2, .int (nI (pnc (coarT ln n none) i + 0))), (4, .int (nI 0)), (0, .ref mo), (1, .int (nI 1))] rfl 165 rfl ?_
        refine G_goto C dX7_countOf_165 14 rfl ?_
        refine G_sel [1, 0, 3, 4] [(2, .int (nI (pnc (coarT ln n none) i + 0))), (3, .int (nI (i + 1))), (0, .ref mo), (1, .int (nI 1))] rfl ?_
        refine G_eq (ws' := [(mo, .inr (7, [.ref ma0, .ref ma1, .ref ma2, .int (nI ns), .ref ma4, .ref ma5, .int (nI mlen), .ref ma7, .int (bI false), .ref ma9, .ref ma10, .ref ma11, .ref ma12, .int (nI mm), .int (nI pl), .ref ma15, .int (nI wm), .long hh])), (ma0, .inl (E.2.1, 15, .inl (aN Nw))), (ma7, .inl (E.2.1, 10, .inl (aN (fineC ln n none)))), (ma9, .inl (E.2.1, 10, .inl (aN (coarG ln n none)))), (ma10, .inl (E.2.1, 10, .inl (aO (coarT ln n none))))]) (L' := [(2, .int (nI (pnc (coarT ln n none) (i + 1)))), (3, .int (nI (i + 1))), (0, .ref mo), (1, .int (nI 1))]) rfl (by simp [pnc, hno1 h_2]) rfl ?_
        exact ih (i + 1) (by omega) (by omega)
      · refine G_iconst C dX7_countOf_30 (v := nI 1) rfl 31 rfl ?_
        refine G_goto C dX7_countOf_31 35 rfl ?_
        refine G_istore C dX7_countOf_35 (by decide) [(4, .int (nI 1)), (2, .int (nI (pnc (coarT ln n none) i))), (3, .int (nI i)), (0, .ref mo), (1, .int (nI 1))] rfl 37 rfl ?_
        refine G_iload_n C dX7_countOf_37 rfl 38 rfl ?_
        refine G_tabIn C dX7_countOf_38 (46) (by decide) (by decide) rfl 84 rfl ?_
        refine G_iload_n C dX7_countOf_84 rfl 85 rfl ?_
        refine G_iload C dX7_countOf_85 rfl 87 rfl ?_
        refine G_if_eq_f C dX7_countOf_87 104 rfl 90 rfl (by decide) ?_
        refine G_aload_n C dX7_countOf_90 rfl 91 rfl ?_
        refine G_getf C dX7_countOf_91 wF_X7 wf_X7_31 (f := 10) (by decide) (ci := 7) rfl 0 rfl rfl 94 rfl ?_
        refine G_iload_n C dX7_countOf_94 rfl 95 rfl ?_
        refine G_ialdO C dX7_countOf_95 4 rfl rfl (by omega) 96 rfl ?_
        refine G_iconst C dX7_countOf_96 (v := oI none) rfl 97 rfl ?_
        refine G_icmp_eq C dX7_countOf_97 104 rfl 100 rfl (oI_none ((cok_cit 21).2 i (by omega)).b) (fun h_3 => ?_) (fun h_3 => ?_)
        · refine G_iconst C dX7_countOf_104 (v := nI 0) rfl 105 rfl ?_
          refine G_iadd C dX7_countOf_105 (v := nI (pnc (coarT ln n none) i + 0)) (nI_add _ _) 106 rfl ?_
          refine G_istore_n C dX7_countOf_106 (by decide) [(2, .int (nI (pnc (coarT ln n none) i + 0))), (4, .int (nI 1)), (3, .int (nI i)), (0, .ref mo), (1, .int (nI 1))] rfl 107 rfl ?_
          refine G_goto C dX7_countOf_107 162 rfl ?_
          refine G_iinc C dX7_countOf_162 2 rfl (nI_1 _) (by decide) [(3, .int (nI (i + 1))), (2, .int (nI (pnc (coarT ln n none) i + 0))), (4, .int (nI 1)), (0, .ref mo), (1, .int (nI 1))] rfl 165 rfl ?_
          refine G_goto C dX7_countOf_165 14 rfl ?_
          refine G_sel [1, 0, 3, 4] [(2, .int (nI (pnc (coarT ln n none) i + 0))), (3, .int (nI (i + 1))), (0, .ref mo), (1, .int (nI 1))] rfl ?_
          refine G_eq (ws' := [(mo, .inr (7, [.ref ma0, .ref ma1, .ref ma2, .int (nI ns), .ref ma4, .ref ma5, .int (nI mlen), .ref ma7, .int (bI false), .ref ma9, .ref ma10, .ref ma11, .ref ma12, .int (nI mm), .int (nI pl), .ref ma15, .int (nI wm), .long hh])), (ma0, .inl (E.2.1, 15, .inl (aN Nw))), (ma7, .inl (E.2.1, 10, .inl (aN (fineC ln n none)))), (ma9, .inl (E.2.1, 10, .inl (aN (coarG ln n none)))), (ma10, .inl (E.2.1, 10, .inl (aO (coarT ln n none))))]) (L' := [(2, .int (nI (pnc (coarT ln n none) (i + 1)))), (3, .int (nI (i + 1))), (0, .ref mo), (1, .int (nI 1))]) rfl (by simp [pnc, h_3]) rfl ?_
          exact ih (i + 1) (by omega) (by omega)
        · refine G_iconst C dX7_countOf_100 (v := nI 1) rfl 101 rfl ?_
          refine G_goto C dX7_countOf_101 105 rfl ?_
          refine G_iadd C dX7_countOf_105 (v := nI (pnc (coarT ln n none) i + 1)) (nI_add _ _) 106 rfl ?_
          refine G_istore_n C dX7_countOf_106 (by decide) [(2, .int (nI (pnc (coarT ln n none) i + 1))), (4, .int (nI 1)), (3, .int (nI i)), (0, .ref mo), (1, .int (nI 1))] rfl 107 rfl ?_
          refine G_goto C dX7_countOf_107 162 rfl ?_
          refine G_iinc C dX7_countOf_162 2 rfl (nI_1 _) (by decide) [(3, .int (nI (i + 1))), (2, .int (nI (pnc (coarT ln n none) i + 1))), (4, .int (nI 1)), (0, .ref mo), (1, .int (nI 1))] rfl 165 rfl ?_
          refine G_goto C dX7_countOf_165 14 rfl ?_
          refine G_sel [1, 0, 3, 4] [(2, .int (nI (pnc (coarT ln n none) i + 1))), (3, .int (nI (i + 1))), (0, .ref mo), (1, .int (nI 1))] rfl ?_
          refine G_eq (ws' := [(mo, .inr (7, [.ref ma0, .ref ma1, .ref ma2, .int (nI ns), .ref ma4, .ref ma5, .int (nI mlen), .ref ma7, .int (bI false), .ref ma9, .ref ma10, .ref ma11, .ref ma12, .int (nI mm), .int (nI pl), .ref ma15, .int (nI wm), .long hh])), (ma0, .inl (E.2.1, 15, .inl (aN Nw))), (ma7, .inl (E.2.1, 10, .inl (aN (fineC ln n none)))), (ma9, .inl (E.2.1, 10, .inl (aN (coarG ln n none)))), (ma10, .inl (E.2.1, 10, .inl (aO (coarT ln n none))))]) (L' := [(2, .int (nI (pnc (coarT ln n none) (i + 1)))), (3, .int (nI (i + 1))), (0, .ref mo), (1, .int (nI 1))]) rfl (by simp [pnc, h_3]) rfl ?_
          exact ih (i + 1) (by omega) (by omega)
  · refine G_aload_n C dX7_countOf_0 rfl 1 rfl ?_
    refine G_iconst C dX7_countOf_1 (v := oI none) rfl 2 rfl ?_
    refine G_cV C dX7_countOf_2 (c_X7_laysFine l E mo ma0 ma1 ma2 ma4 ma5 ma7 ma9 ma10 ma11 ma12 ma15 ns mlen mm pl wm gw hh Nw S ln n none (by first | assumption | omega) (fun g h => by cases h)) wm_X7_108 wi_X7_laysFine wsel_X7_laysFine wn_X7 wc_X7_laysFine rfl rfl ⟨by decide, by decide, rfl⟩ rfl (Nat.le_of_ble_eq_true rfl) 7 rfl rfl 0 rfl [0, 1, 2] [3, 4] (wr := [(ma9, .inl (E.2.1, 10, .inl (aN Gp))), (ma10, .inl (E.2.1, 10, .inl (aO Tt)))]) rfl rfl rfl rfl rfl [2, 3, 4, 0, 1] rfl [(mo, .inr (7, [.ref ma0, .ref ma1, .ref ma2, .int (nI ns), .ref ma4, .ref ma5, .int (nI mlen), .ref ma7, .int (bI false), .ref ma9, .ref ma10, .ref ma11, .ref ma12, .int (nI mm), .int (nI pl), .ref ma15, .int (nI wm), .long hh])), (ma0, .inl (E.2.1, 15, .inl (aN Nw))), (ma7, .inl (E.2.1, 10, .inl (aN (fineC ln n none)))), (ma9, .inl (E.2.1, 10, .inl (aN Gp))), (ma10, .inl (E.2.1, 10, .inl (aO Tt)))] rfl rfl [] rfl 5 rfl ?_
    refine G_aload_n C dX7_countOf_5 rfl 6 rfl ?_
    refine G_iconst C dX7_countOf_6 (v := oI none) rfl 7 rfl ?_
    refine G_cV C dX7_countOf_7 (c_X7_laysCoarse l E mo ma0 ma1 ma2 ma4 ma5 ma7 ma9 ma10 ma11 ma12 ma15 ns mlen mm pl wm false hh Nw Gp Tt ln n none (by first | assumption | omega) (fun g h => by cases h)) wm_X7_115 wi_X7_laysCoarse wsel_X7_laysCoarse wn_X7 wc_X7_laysCoarse rfl rfl ⟨by decide, by decide, rfl⟩ rfl (Nat.le_of_ble_eq_true rfl) 7 rfl rfl 0 rfl [0, 1, 3, 4] [2] (wr := [(ma7, .inl (E.2.1, 10, .inl (aN (fineC ln n none))))]) rfl rfl rfl rfl rfl [1, 2, 0, 3, 4] rfl [(mo, .inr (7, [.ref ma0, .ref ma1, .ref ma2, .int (nI ns), .ref ma4, .ref ma5, .int (nI mlen), .ref ma7, .int (bI false), .ref ma9, .ref ma10, .ref ma11, .ref ma12, .int (nI mm), .int (nI pl), .ref ma15, .int (nI wm), .long hh])), (ma0, .inl (E.2.1, 15, .inl (aN Nw))), (ma7, .inl (E.2.1, 10, .inl (aN (fineC ln n none)))), (ma9, .inl (E.2.1, 10, .inl (aN (coarG ln n none)))), (ma10, .inl (E.2.1, 10, .inl (aO (coarT ln n none))))] rfl rfl [] rfl 10 rfl ?_
    refine G_iconst C dX7_countOf_10 (v := nI 0) rfl 11 rfl ?_
    refine G_istore_n C dX7_countOf_11 (by decide) [(2, .int (nI 0)), (0, .ref mo), (1, .int (nI 2))] rfl 12 rfl ?_
    refine G_iconst C dX7_countOf_12 (v := nI 0) rfl 13 rfl ?_
    refine G_istore_n C dX7_countOf_13 (by decide) [(3, .int (nI 0)), (2, .int (nI 0)), (0, .ref mo), (1, .int (nI 2))] rfl 14 rfl ?_
    refine G_sel [1, 0, 2, 3] [(2, .int (nI 0)), (3, .int (nI 0)), (0, .ref mo), (1, .int (nI 2))] rfl ?_
    refine G_while (X := Nat) (Wf := fun i => [(mo, .inr (7, [.ref ma0, .ref ma1, .ref ma2, .int (nI ns), .ref ma4, .ref ma5, .int (nI mlen), .ref ma7, .int (bI false), .ref ma9, .ref ma10, .ref ma11, .ref ma12, .int (nI mm), .int (nI pl), .ref ma15, .int (nI wm), .long hh])), (ma0, .inl (E.2.1, 15, .inl (aN Nw))), (ma7, .inl (E.2.1, 10, .inl (aN (fineC ln n none)))), (ma9, .inl (E.2.1, 10, .inl (aN (coarG ln n none)))), (ma10, .inl (E.2.1, 10, .inl (aO (coarT ln n none))))]) (Lf := fun i => [(2, .int (nI (snc (coarT ln n none) i))), (3, .int (nI i)), (0, .ref mo), (1, .int (nI 2))]) (Sf := fun _ => []) (fun i => i ≤ 10) (fun i => 10 - i) (fun i hi ih => ?_) 0 (by omega)
    refine G_iload_n C dX7_countOf_14 rfl 15 rfl ?_
    refine G_bipush C dX7_countOf_15 (v := nI 10) (by decide) 17 rfl ?_
    refine G_icmp_ge C dX7_countOf_17 168 rfl 20 rfl (nI_leI (by omega) (by omega)) (fun h_1 => ?_) (fun h_1 => ?_)
    · refine G_iload_n C dX7_countOf_168 rfl 169 rfl ?_
      exact G_iret C hr dX7_countOf_169 rfl () trivial (by rw [show i = 10 by omega]; rfl) rfl
    · refine G_aload_n C dX7_countOf_20 rfl 21 rfl ?_
      refine G_getf C dX7_countOf_21 wF_X7 wf_X7_28 (f := 9) (by decide) (ci := 7) rfl 0 rfl rfl 24 rfl ?_
      refine G_iload_n C dX7_countOf_24 rfl 25 rfl ?_
      refine G_ialdN C dX7_countOf_25 3 rfl rfl (by omega) 26 rfl ?_
      refine G_iload_n C dX7_countOf_26 rfl 27 rfl ?_
      refine G_icmp_ne C dX7_countOf_27 34 rfl 30 rfl (nI_eq (Nat.lt_trans ((cok_cit 21).1 i (by omega)) (by decide)) (by omega)) (fun h_2 => ?_) (fun h_2 => ?_)
      · refine G_iconst C dX7_countOf_34 (v := nI 0) rfl 35 rfl ?_
        refine G_istore C dX7_countOf_35 (by decide) [(4, .int (nI 0)), (2, .int (nI (snc (coarT ln n none) i))), (3, .int (nI i)), (0, .ref mo), (1, .int (nI 2))] rfl 37 rfl ?_
        have hno1 : ¬ (coarG ln n none) i = i → (coarT ln n none) i = none := fun h9 => by cases e9 : (coarT ln n none) i with | none => rfl | some g => exact absurd ((coar_inv ln n none).2 i (by omega) g e9).2.2 h9
        refine G_iload_n C dX7_countOf_37 rfl 38 rfl ?_
        refine G_tabIn C dX7_countOf_38 (72) (by decide) (by decide) rfl 110 rfl ?_
        refine G_iload_n C dX7_countOf_110 rfl 111 rfl ?_
        refine G_iload C dX7_countOf_111 rfl 113 rfl ?_
        refine G_if_eq_t C dX7_countOf_113 130 rfl (by decide) ?_
        refine G_iconst C dX7_countOf_130 (v := nI 0) rfl 131 rfl ?_
        refine G_iadd C dX7_countOf_131 (v := nI (snc (coarT ln n none) i + 0)) (nI_add _ _) 132 rfl ?_
        refine G_istore_n C dX7_countOf_132 (by decide) [(2, .int (nI (snc (coarT ln n none) i + 0))), (4, .int (nI 0)), (3, .int (nI i)), (0, .ref mo), (1, .int (nI 2))] rfl 133 rfl ?_
        refine G_goto C dX7_countOf_133 162 rfl ?_
        refine G_iinc C dX7_countOf_162 2 rfl (nI_1 _) (by decide) [(3, .int (nI (i + 1))), (2, .int (nI (snc (coarT ln n none) i + 0))), (4, .int (nI 0)), (0, .ref mo), (1, .int (nI 2))] rfl 165 rfl ?_
        refine G_goto C dX7_countOf_165 14 rfl ?_
        refine G_sel [1, 0, 3, 4] [(2, .int (nI (snc (coarT ln n none) i + 0))), (3, .int (nI (i + 1))), (0, .ref mo), (1, .int (nI 2))] rfl ?_
        refine G_eq (ws' := [(mo, .inr (7, [.ref ma0, .ref ma1, .ref ma2, .int (nI ns), .ref ma4, .ref ma5, .int (nI mlen), .ref ma7, .int (bI false), .ref ma9, .ref ma10, .ref ma11, .ref ma12, .int (nI mm), .int (nI pl), .ref ma15, .int (nI wm), .long hh])), (ma0, .inl (E.2.1, 15, .inl (aN Nw))), (ma7, .inl (E.2.1, 10, .inl (aN (fineC ln n none)))), (ma9, .inl (E.2.1, 10, .inl (aN (coarG ln n none)))), (ma10, .inl (E.2.1, 10, .inl (aO (coarT ln n none))))]) (L' := [(2, .int (nI (snc (coarT ln n none) (i + 1)))), (3, .int (nI (i + 1))), (0, .ref mo), (1, .int (nI 2))]) rfl (by simp [snc, hno1 h_2]) rfl ?_
        exact ih (i + 1) (by omega) (by omega)
      · refine G_iconst C dX7_countOf_30 (v := nI 1) rfl 31 rfl ?_
        refine G_goto C dX7_countOf_31 35 rfl ?_
        refine G_istore C dX7_countOf_35 (by decide) [(4, .int (nI 1)), (2, .int (nI (snc (coarT ln n none) i))), (3, .int (nI i)), (0, .ref mo), (1, .int (nI 2))] rfl 37 rfl ?_
        refine G_iload_n C dX7_countOf_37 rfl 38 rfl ?_
        refine G_tabIn C dX7_countOf_38 (72) (by decide) (by decide) rfl 110 rfl ?_
        refine G_iload_n C dX7_countOf_110 rfl 111 rfl ?_
        refine G_iload C dX7_countOf_111 rfl 113 rfl ?_
        refine G_if_eq_f C dX7_countOf_113 130 rfl 116 rfl (by decide) ?_
        refine G_aload_n C dX7_countOf_116 rfl 117 rfl ?_
        refine G_getf C dX7_countOf_117 wF_X7 wf_X7_31 (f := 10) (by decide) (ci := 7) rfl 0 rfl rfl 120 rfl ?_
        refine G_iload_n C dX7_countOf_120 rfl 121 rfl ?_
        refine G_ialdO C dX7_countOf_121 4 rfl rfl (by omega) 122 rfl ?_
        refine G_iload_n C dX7_countOf_122 rfl 123 rfl ?_
        refine G_icmp_ne C dX7_countOf_123 130 rfl 126 rfl (oI_eq (t := (coarT ln n none) i) (u := some i) ((cok_cit 21).2 i (by omega)).b (ook.b (ook_s (by omega)))) (fun h_4 => ?_) (fun h_4 => ?_)
        · refine G_iconst C dX7_countOf_130 (v := nI 0) rfl 131 rfl ?_
          refine G_iadd C dX7_countOf_131 (v := nI (snc (coarT ln n none) i + 0)) (nI_add _ _) 132 rfl ?_
          refine G_istore_n C dX7_countOf_132 (by decide) [(2, .int (nI (snc (coarT ln n none) i + 0))), (4, .int (nI 1)), (3, .int (nI i)), (0, .ref mo), (1, .int (nI 2))] rfl 133 rfl ?_
          refine G_goto C dX7_countOf_133 162 rfl ?_
          refine G_iinc C dX7_countOf_162 2 rfl (nI_1 _) (by decide) [(3, .int (nI (i + 1))), (2, .int (nI (snc (coarT ln n none) i + 0))), (4, .int (nI 1)), (0, .ref mo), (1, .int (nI 2))] rfl 165 rfl ?_
          refine G_goto C dX7_countOf_165 14 rfl ?_
          refine G_sel [1, 0, 3, 4] [(2, .int (nI (snc (coarT ln n none) i + 0))), (3, .int (nI (i + 1))), (0, .ref mo), (1, .int (nI 2))] rfl ?_
          refine G_eq (ws' := [(mo, .inr (7, [.ref ma0, .ref ma1, .ref ma2, .int (nI ns), .ref ma4, .ref ma5, .int (nI mlen), .ref ma7, .int (bI false), .ref ma9, .ref ma10, .ref ma11, .ref ma12, .int (nI mm), .int (nI pl), .ref ma15, .int (nI wm), .long hh])), (ma0, .inl (E.2.1, 15, .inl (aN Nw))), (ma7, .inl (E.2.1, 10, .inl (aN (fineC ln n none)))), (ma9, .inl (E.2.1, 10, .inl (aN (coarG ln n none)))), (ma10, .inl (E.2.1, 10, .inl (aO (coarT ln n none))))]) (L' := [(2, .int (nI (snc (coarT ln n none) (i + 1)))), (3, .int (nI (i + 1))), (0, .ref mo), (1, .int (nI 2))]) rfl (by simp [snc, h_4]) rfl ?_
          exact ih (i + 1) (by omega) (by omega)
        · refine G_iconst C dX7_countOf_126 (v := nI 1) rfl 127 rfl ?_
          refine G_goto C dX7_countOf_127 131 rfl ?_
          refine G_iadd C dX7_countOf_131 (v := nI (snc (coarT ln n none) i + 1)) (nI_add _ _) 132 rfl ?_
          refine G_istore_n C dX7_countOf_132 (by decide) [(2, .int (nI (snc (coarT ln n none) i + 1))), (4, .int (nI 1)), (3, .int (nI i)), (0, .ref mo), (1, .int (nI 2))] rfl 133 rfl ?_
          refine G_goto C dX7_countOf_133 162 rfl ?_
          refine G_iinc C dX7_countOf_162 2 rfl (nI_1 _) (by decide) [(3, .int (nI (i + 1))), (2, .int (nI (snc (coarT ln n none) i + 1))), (4, .int (nI 1)), (0, .ref mo), (1, .int (nI 2))] rfl 165 rfl ?_
          refine G_goto C dX7_countOf_165 14 rfl ?_
          refine G_sel [1, 0, 3, 4] [(2, .int (nI (snc (coarT ln n none) i + 1))), (3, .int (nI (i + 1))), (0, .ref mo), (1, .int (nI 2))] rfl ?_
          refine G_eq (ws' := [(mo, .inr (7, [.ref ma0, .ref ma1, .ref ma2, .int (nI ns), .ref ma4, .ref ma5, .int (nI mlen), .ref ma7, .int (bI false), .ref ma9, .ref ma10, .ref ma11, .ref ma12, .int (nI mm), .int (nI pl), .ref ma15, .int (nI wm), .long hh])), (ma0, .inl (E.2.1, 15, .inl (aN Nw))), (ma7, .inl (E.2.1, 10, .inl (aN (fineC ln n none)))), (ma9, .inl (E.2.1, 10, .inl (aN (coarG ln n none)))), (ma10, .inl (E.2.1, 10, .inl (aO (coarT ln n none))))]) (L' := [(2, .int (nI (snc (coarT ln n none) (i + 1)))), (3, .int (nI (i + 1))), (0, .ref mo), (1, .int (nI 2))]) rfl (by simp [snc, h_4]) rfl ?_
          exact ih (i + 1) (by omega) (by omega)
  · refine G_aload_n C dX7_countOf_0 rfl 1 rfl ?_
    refine G_iconst C dX7_countOf_1 (v := oI none) rfl 2 rfl ?_
    refine G_cV C dX7_countOf_2 (c_X7_laysFine l E mo ma0 ma1 ma2 ma4 ma5 ma7 ma9 ma10 ma11 ma12 ma15 ns mlen mm pl wm gw hh Nw S ln n none (by first | assumption | omega) (fun g h => by cases h)) wm_X7_108 wi_X7_laysFine wsel_X7_laysFine wn_X7 wc_X7_laysFine rfl rfl ⟨by decide, by decide, rfl⟩ rfl (Nat.le_of_ble_eq_true rfl) 7 rfl rfl 0 rfl [0, 1, 2] [3, 4] (wr := [(ma9, .inl (E.2.1, 10, .inl (aN Gp))), (ma10, .inl (E.2.1, 10, .inl (aO Tt)))]) rfl rfl rfl rfl rfl [2, 3, 4, 0, 1] rfl [(mo, .inr (7, [.ref ma0, .ref ma1, .ref ma2, .int (nI ns), .ref ma4, .ref ma5, .int (nI mlen), .ref ma7, .int (bI false), .ref ma9, .ref ma10, .ref ma11, .ref ma12, .int (nI mm), .int (nI pl), .ref ma15, .int (nI wm), .long hh])), (ma0, .inl (E.2.1, 15, .inl (aN Nw))), (ma7, .inl (E.2.1, 10, .inl (aN (fineC ln n none)))), (ma9, .inl (E.2.1, 10, .inl (aN Gp))), (ma10, .inl (E.2.1, 10, .inl (aO Tt)))] rfl rfl [] rfl 5 rfl ?_
    refine G_aload_n C dX7_countOf_5 rfl 6 rfl ?_
    refine G_iconst C dX7_countOf_6 (v := oI none) rfl 7 rfl ?_
    refine G_cV C dX7_countOf_7 (c_X7_laysCoarse l E mo ma0 ma1 ma2 ma4 ma5 ma7 ma9 ma10 ma11 ma12 ma15 ns mlen mm pl wm false hh Nw Gp Tt ln n none (by first | assumption | omega) (fun g h => by cases h)) wm_X7_115 wi_X7_laysCoarse wsel_X7_laysCoarse wn_X7 wc_X7_laysCoarse rfl rfl ⟨by decide, by decide, rfl⟩ rfl (Nat.le_of_ble_eq_true rfl) 7 rfl rfl 0 rfl [0, 1, 3, 4] [2] (wr := [(ma7, .inl (E.2.1, 10, .inl (aN (fineC ln n none))))]) rfl rfl rfl rfl rfl [1, 2, 0, 3, 4] rfl [(mo, .inr (7, [.ref ma0, .ref ma1, .ref ma2, .int (nI ns), .ref ma4, .ref ma5, .int (nI mlen), .ref ma7, .int (bI false), .ref ma9, .ref ma10, .ref ma11, .ref ma12, .int (nI mm), .int (nI pl), .ref ma15, .int (nI wm), .long hh])), (ma0, .inl (E.2.1, 15, .inl (aN Nw))), (ma7, .inl (E.2.1, 10, .inl (aN (fineC ln n none)))), (ma9, .inl (E.2.1, 10, .inl (aN (coarG ln n none)))), (ma10, .inl (E.2.1, 10, .inl (aO (coarT ln n none))))] rfl rfl [] rfl 10 rfl ?_
    refine G_iconst C dX7_countOf_10 (v := nI 0) rfl 11 rfl ?_
    refine G_istore_n C dX7_countOf_11 (by decide) [(2, .int (nI 0)), (0, .ref mo), (1, .int (nI 3))] rfl 12 rfl ?_
    refine G_iconst C dX7_countOf_12 (v := nI 0) rfl 13 rfl ?_
    refine G_istore_n C dX7_countOf_13 (by decide) [(3, .int (nI 0)), (2, .int (nI 0)), (0, .ref mo), (1, .int (nI 3))] rfl 14 rfl ?_
    refine G_sel [1, 0, 2, 3] [(2, .int (nI 0)), (3, .int (nI 0)), (0, .ref mo), (1, .int (nI 3))] rfl ?_
    refine G_while (X := Nat) (Wf := fun i => [(mo, .inr (7, [.ref ma0, .ref ma1, .ref ma2, .int (nI ns), .ref ma4, .ref ma5, .int (nI mlen), .ref ma7, .int (bI false), .ref ma9, .ref ma10, .ref ma11, .ref ma12, .int (nI mm), .int (nI pl), .ref ma15, .int (nI wm), .long hh])), (ma0, .inl (E.2.1, 15, .inl (aN Nw))), (ma7, .inl (E.2.1, 10, .inl (aN (fineC ln n none)))), (ma9, .inl (E.2.1, 10, .inl (aN (coarG ln n none)))), (ma10, .inl (E.2.1, 10, .inl (aO (coarT ln n none))))]) (Lf := fun i => [(2, .int (nI (ftot (fineC ln n none) i))), (3, .int (nI i)), (0, .ref mo), (1, .int (nI 3))]) (Sf := fun _ => []) (fun i => i ≤ 10) (fun i => 10 - i) (fun i hi ih => ?_) 0 (by omega)
    refine G_iload_n C dX7_countOf_14 rfl 15 rfl ?_
    refine G_bipush C dX7_countOf_15 (v := nI 10) (by decide) 17 rfl ?_
    refine G_icmp_ge C dX7_countOf_17 168 rfl 20 rfl (nI_leI (by omega) (by omega)) (fun h_1 => ?_) (fun h_1 => ?_)
    · refine G_iload_n C dX7_countOf_168 rfl 169 rfl ?_
      exact G_iret C hr dX7_countOf_169 rfl () trivial (by rw [show i = 10 by omega]; rfl) rfl
    · refine G_aload_n C dX7_countOf_20 rfl 21 rfl ?_
      refine G_getf C dX7_countOf_21 wF_X7 wf_X7_28 (f := 9) (by decide) (ci := 7) rfl 0 rfl rfl 24 rfl ?_
      refine G_iload_n C dX7_countOf_24 rfl 25 rfl ?_
      refine G_ialdN C dX7_countOf_25 3 rfl rfl (by omega) 26 rfl ?_
      refine G_iload_n C dX7_countOf_26 rfl 27 rfl ?_
      refine G_icmp_ne C dX7_countOf_27 34 rfl 30 rfl (nI_eq (Nat.lt_trans ((cok_cit 21).1 i (by omega)) (by decide)) (by omega)) (fun h_2 => ?_) (fun h_2 => ?_)
      · refine G_iconst C dX7_countOf_34 (v := nI 0) rfl 35 rfl ?_
        refine G_istore C dX7_countOf_35 (by decide) [(4, .int (nI 0)), (2, .int (nI (ftot (fineC ln n none) i))), (3, .int (nI i)), (0, .ref mo), (1, .int (nI 3))] rfl 37 rfl ?_
        refine G_iload_n C dX7_countOf_37 rfl 38 rfl ?_
        refine G_tabIn C dX7_countOf_38 (98) (by decide) (by decide) rfl 136 rfl ?_
        refine G_iload_n C dX7_countOf_136 rfl 137 rfl ?_
        refine G_aload_n C dX7_countOf_137 rfl 138 rfl ?_
        refine G_getf C dX7_countOf_138 wF_X7 wf_X7_25 (f := 7) (by decide) (ci := 7) rfl 0 rfl rfl 141 rfl ?_
        refine G_iload_n C dX7_countOf_141 rfl 142 rfl ?_
        refine G_ialdN C dX7_countOf_142 2 rfl rfl (by omega) 143 rfl ?_
        refine G_cS C dX7_countOf_143 (c_X7_ones l E ((fineC ln n none) i) (sok_fineC i (by omega))) wm_X7_121 wt_X7_ones wn_X7 wc_X7_ones rfl rfl ⟨by decide, by decide, rfl⟩ rfl (Nat.le_of_ble_eq_true rfl) [] [0, 1, 2, 3, 4] (wr := [(mo, .inr (7, [.ref ma0, .ref ma1, .ref ma2, .int (nI ns), .ref ma4, .ref ma5, .int (nI mlen), .ref ma7, .int (bI false), .ref ma9, .ref ma10, .ref ma11, .ref ma12, .int (nI mm), .int (nI pl), .ref ma15, .int (nI wm), .long hh])), (ma0, .inl (E.2.1, 15, .inl (aN Nw))), (ma7, .inl (E.2.1, 10, .inl (aN (fineC ln n none)))), (ma9, .inl (E.2.1, 10, .inl (aN (coarG ln n none)))), (ma10, .inl (E.2.1, 10, .inl (aO (coarT ln n none))))]) rfl rfl rfl rfl rfl [0, 1, 2, 3, 4] rfl [(mo, .inr (7, [.ref ma0, .ref ma1, .ref ma2, .int (nI ns), .ref ma4, .ref ma5, .int (nI mlen), .ref ma7, .int (bI false), .ref ma9, .ref ma10, .ref ma11, .ref ma12, .int (nI mm), .int (nI pl), .ref ma15, .int (nI wm), .long hh])), (ma0, .inl (E.2.1, 15, .inl (aN Nw))), (ma7, .inl (E.2.1, 10, .inl (aN (fineC ln n none)))), (ma9, .inl (E.2.1, 10, .inl (aN (coarG ln n none)))), (ma10, .inl (E.2.1, 10, .inl (aO (coarT ln n none))))] rfl rfl [.int (nI (pcn ((fineC ln n none) i))), .int (nI (ftot (fineC ln n none) i))] rfl 146 rfl ?_
        refine G_iadd C dX7_countOf_146 (v := nI (ftot (fineC ln n none) i + (pcn ((fineC ln n none) i)))) (nI_add _ _) 147 rfl ?_
        refine G_istore_n C dX7_countOf_147 (by decide) [(2, .int (nI (ftot (fineC ln n none) i + (pcn ((fineC ln n none) i))))), (4, .int (nI 0)), (3, .int (nI i)), (0, .ref mo), (1, .int (nI 3))] rfl 148 rfl ?_
        refine G_goto C dX7_countOf_148 162 rfl ?_
        refine G_iinc C dX7_countOf_162 2 rfl (nI_1 _) (by decide) [(3, .int (nI (i + 1))), (2, .int (nI (ftot (fineC ln n none) i + (pcn ((fineC ln n none) i))))), (4, .int (nI 0)), (0, .ref mo), (1, .int (nI 3))] rfl 165 rfl ?_
        refine G_goto C dX7_countOf_165 14 rfl ?_
        refine G_sel [1, 0, 3, 4] [(2, .int (nI (ftot (fineC ln n none) i + (pcn ((fineC ln n none) i))))), (3, .int (nI (i + 1))), (0, .ref mo), (1, .int (nI 3))] rfl ?_
        refine G_eq (ws' := [(mo, .inr (7, [.ref ma0, .ref ma1, .ref ma2, .int (nI ns), .ref ma4, .ref ma5, .int (nI mlen), .ref ma7, .int (bI false), .ref ma9, .ref ma10, .ref ma11, .ref ma12, .int (nI mm), .int (nI pl), .ref ma15, .int (nI wm), .long hh])), (ma0, .inl (E.2.1, 15, .inl (aN Nw))), (ma7, .inl (E.2.1, 10, .inl (aN (fineC ln n none)))), (ma9, .inl (E.2.1, 10, .inl (aN (coarG ln n none)))), (ma10, .inl (E.2.1, 10, .inl (aO (coarT ln n none))))]) (L' := [(2, .int (nI (ftot (fineC ln n none) (i + 1)))), (3, .int (nI (i + 1))), (0, .ref mo), (1, .int (nI 3))]) rfl rfl rfl ?_
        exact ih (i + 1) (by omega) (by omega)
      · refine G_iconst C dX7_countOf_30 (v := nI 1) rfl 31 rfl ?_
        refine G_goto C dX7_countOf_31 35 rfl ?_
        refine G_istore C dX7_countOf_35 (by decide) [(4, .int (nI 1)), (2, .int (nI (ftot (fineC ln n none) i))), (3, .int (nI i)), (0, .ref mo), (1, .int (nI 3))] rfl 37 rfl ?_
        refine G_iload_n C dX7_countOf_37 rfl 38 rfl ?_
        refine G_tabIn C dX7_countOf_38 (98) (by decide) (by decide) rfl 136 rfl ?_
        refine G_iload_n C dX7_countOf_136 rfl 137 rfl ?_
        refine G_aload_n C dX7_countOf_137 rfl 138 rfl ?_
        refine G_getf C dX7_countOf_138 wF_X7 wf_X7_25 (f := 7) (by decide) (ci := 7) rfl 0 rfl rfl 141 rfl ?_
        refine G_iload_n C dX7_countOf_141 rfl 142 rfl ?_
        refine G_ialdN C dX7_countOf_142 2 rfl rfl (by omega) 143 rfl ?_
        refine G_cS C dX7_countOf_143 (c_X7_ones l E ((fineC ln n none) i) (sok_fineC i (by omega))) wm_X7_121 wt_X7_ones wn_X7 wc_X7_ones rfl rfl ⟨by decide, by decide, rfl⟩ rfl (Nat.le_of_ble_eq_true rfl) [] [0, 1, 2, 3, 4] (wr := [(mo, .inr (7, [.ref ma0, .ref ma1, .ref ma2, .int (nI ns), .ref ma4, .ref ma5, .int (nI mlen), .ref ma7, .int (bI false), .ref ma9, .ref ma10, .ref ma11, .ref ma12, .int (nI mm), .int (nI pl), .ref ma15, .int (nI wm), .long hh])), (ma0, .inl (E.2.1, 15, .inl (aN Nw))), (ma7, .inl (E.2.1, 10, .inl (aN (fineC ln n none)))), (ma9, .inl (E.2.1, 10, .inl (aN (coarG ln n none)))), (ma10, .inl (E.2.1, 10, .inl (aO (coarT ln n none))))]) rfl rfl rfl rfl rfl [0, 1, 2, 3, 4] rfl [(mo, .inr (7, [.ref ma0, .ref ma1, .ref ma2, .int (nI ns), .ref ma4, .ref ma5, .int (nI mlen), .ref ma7, .int (bI false), .ref ma9, .ref ma10, .ref ma11, .ref ma12, .int (nI mm), .int (nI pl), .ref ma15, .int (nI wm), .long hh])), (ma0, .inl (E.2.1, 15, .inl (aN Nw))), (ma7, .inl (E.2.1, 10, .inl (aN (fineC ln n none)))), (ma9, .inl (E.2.1, 10, .inl (aN (coarG ln n none)))), (ma10, .inl (E.2.1, 10, .inl (aO (coarT ln n none))))] rfl rfl [.int (nI (pcn ((fineC ln n none) i))), .int (nI (ftot (fineC ln n none) i))] rfl 146 rfl ?_
        refine G_iadd C dX7_countOf_146 (v := nI (ftot (fineC ln n none) i + (pcn ((fineC ln n none) i)))) (nI_add _ _) 147 rfl ?_
        refine G_istore_n C dX7_countOf_147 (by decide) [(2, .int (nI (ftot (fineC ln n none) i + (pcn ((fineC ln n none) i))))), (4, .int (nI 1)), (3, .int (nI i)), (0, .ref mo), (1, .int (nI 3))] rfl 148 rfl ?_
        refine G_goto C dX7_countOf_148 162 rfl ?_
        refine G_iinc C dX7_countOf_162 2 rfl (nI_1 _) (by decide) [(3, .int (nI (i + 1))), (2, .int (nI (ftot (fineC ln n none) i + (pcn ((fineC ln n none) i))))), (4, .int (nI 1)), (0, .ref mo), (1, .int (nI 3))] rfl 165 rfl ?_
        refine G_goto C dX7_countOf_165 14 rfl ?_
        refine G_sel [1, 0, 3, 4] [(2, .int (nI (ftot (fineC ln n none) i + (pcn ((fineC ln n none) i))))), (3, .int (nI (i + 1))), (0, .ref mo), (1, .int (nI 3))] rfl ?_
        refine G_eq (ws' := [(mo, .inr (7, [.ref ma0, .ref ma1, .ref ma2, .int (nI ns), .ref ma4, .ref ma5, .int (nI mlen), .ref ma7, .int (bI false), .ref ma9, .ref ma10, .ref ma11, .ref ma12, .int (nI mm), .int (nI pl), .ref ma15, .int (nI wm), .long hh])), (ma0, .inl (E.2.1, 15, .inl (aN Nw))), (ma7, .inl (E.2.1, 10, .inl (aN (fineC ln n none)))), (ma9, .inl (E.2.1, 10, .inl (aN (coarG ln n none)))), (ma10, .inl (E.2.1, 10, .inl (aO (coarT ln n none))))]) (L' := [(2, .int (nI (ftot (fineC ln n none) (i + 1)))), (3, .int (nI (i + 1))), (0, .ref mo), (1, .int (nI 3))]) rfl rfl rfl ?_
        exact ih (i + 1) (by omega) (by omega)
  · refine G_aload_n C dX7_countOf_0 rfl 1 rfl ?_
    refine G_iconst C dX7_countOf_1 (v := oI none) rfl 2 rfl ?_
    refine G_cV C dX7_countOf_2 (c_X7_laysFine l E mo ma0 ma1 ma2 ma4 ma5 ma7 ma9 ma10 ma11 ma12 ma15 ns mlen mm pl wm gw hh Nw S ln n none (by first | assumption | omega) (fun g h => by cases h)) wm_X7_108 wi_X7_laysFine wsel_X7_laysFine wn_X7 wc_X7_laysFine rfl rfl ⟨by decide, by decide, rfl⟩ rfl (Nat.le_of_ble_eq_true rfl) 7 rfl rfl 0 rfl [0, 1, 2] [3, 4] (wr := [(ma9, .inl (E.2.1, 10, .inl (aN Gp))), (ma10, .inl (E.2.1, 10, .inl (aO Tt)))]) rfl rfl rfl rfl rfl [2, 3, 4, 0, 1] rfl [(mo, .inr (7, [.ref ma0, .ref ma1, .ref ma2, .int (nI ns), .ref ma4, .ref ma5, .int (nI mlen), .ref ma7, .int (bI false), .ref ma9, .ref ma10, .ref ma11, .ref ma12, .int (nI mm), .int (nI pl), .ref ma15, .int (nI wm), .long hh])), (ma0, .inl (E.2.1, 15, .inl (aN Nw))), (ma7, .inl (E.2.1, 10, .inl (aN (fineC ln n none)))), (ma9, .inl (E.2.1, 10, .inl (aN Gp))), (ma10, .inl (E.2.1, 10, .inl (aO Tt)))] rfl rfl [] rfl 5 rfl ?_
    refine G_aload_n C dX7_countOf_5 rfl 6 rfl ?_
    refine G_iconst C dX7_countOf_6 (v := oI none) rfl 7 rfl ?_
    refine G_cV C dX7_countOf_7 (c_X7_laysCoarse l E mo ma0 ma1 ma2 ma4 ma5 ma7 ma9 ma10 ma11 ma12 ma15 ns mlen mm pl wm false hh Nw Gp Tt ln n none (by first | assumption | omega) (fun g h => by cases h)) wm_X7_115 wi_X7_laysCoarse wsel_X7_laysCoarse wn_X7 wc_X7_laysCoarse rfl rfl ⟨by decide, by decide, rfl⟩ rfl (Nat.le_of_ble_eq_true rfl) 7 rfl rfl 0 rfl [0, 1, 3, 4] [2] (wr := [(ma7, .inl (E.2.1, 10, .inl (aN (fineC ln n none))))]) rfl rfl rfl rfl rfl [1, 2, 0, 3, 4] rfl [(mo, .inr (7, [.ref ma0, .ref ma1, .ref ma2, .int (nI ns), .ref ma4, .ref ma5, .int (nI mlen), .ref ma7, .int (bI false), .ref ma9, .ref ma10, .ref ma11, .ref ma12, .int (nI mm), .int (nI pl), .ref ma15, .int (nI wm), .long hh])), (ma0, .inl (E.2.1, 15, .inl (aN Nw))), (ma7, .inl (E.2.1, 10, .inl (aN (fineC ln n none)))), (ma9, .inl (E.2.1, 10, .inl (aN (coarG ln n none)))), (ma10, .inl (E.2.1, 10, .inl (aO (coarT ln n none))))] rfl rfl [] rfl 10 rfl ?_
    refine G_iconst C dX7_countOf_10 (v := nI 0) rfl 11 rfl ?_
    refine G_istore_n C dX7_countOf_11 (by decide) [(2, .int (nI 0)), (0, .ref mo), (1, .int (nI 4))] rfl 12 rfl ?_
    refine G_iconst C dX7_countOf_12 (v := nI 0) rfl 13 rfl ?_
    refine G_istore_n C dX7_countOf_13 (by decide) [(3, .int (nI 0)), (2, .int (nI 0)), (0, .ref mo), (1, .int (nI 4))] rfl 14 rfl ?_
    refine G_sel [1, 0, 2, 3] [(2, .int (nI 0)), (3, .int (nI 0)), (0, .ref mo), (1, .int (nI 4))] rfl ?_
    refine G_while (X := Nat) (Wf := fun i => [(mo, .inr (7, [.ref ma0, .ref ma1, .ref ma2, .int (nI ns), .ref ma4, .ref ma5, .int (nI mlen), .ref ma7, .int (bI false), .ref ma9, .ref ma10, .ref ma11, .ref ma12, .int (nI mm), .int (nI pl), .ref ma15, .int (nI wm), .long hh])), (ma0, .inl (E.2.1, 15, .inl (aN Nw))), (ma7, .inl (E.2.1, 10, .inl (aN (fineC ln n none)))), (ma9, .inl (E.2.1, 10, .inl (aN (coarG ln n none)))), (ma10, .inl (E.2.1, 10, .inl (aO (coarT ln n none))))]) (Lf := fun i => [(2, .int (nI (ctot (coarG ln n none) (coarT ln n none) i))), (3, .int (nI i)), (0, .ref mo), (1, .int (nI 4))]) (Sf := fun _ => []) (fun i => i ≤ 10) (fun i => 10 - i) (fun i hi ih => ?_) 0 (by omega)
    refine G_iload_n C dX7_countOf_14 rfl 15 rfl ?_
    refine G_bipush C dX7_countOf_15 (v := nI 10) (by decide) 17 rfl ?_
    refine G_icmp_ge C dX7_countOf_17 168 rfl 20 rfl (nI_leI (by omega) (by omega)) (fun h_1 => ?_) (fun h_1 => ?_)
    · refine G_iload_n C dX7_countOf_168 rfl 169 rfl ?_
      exact G_iret C hr dX7_countOf_169 rfl () trivial (by rw [show i = 10 by omega]; rfl) rfl
    · refine G_aload_n C dX7_countOf_20 rfl 21 rfl ?_
      refine G_getf C dX7_countOf_21 wF_X7 wf_X7_28 (f := 9) (by decide) (ci := 7) rfl 0 rfl rfl 24 rfl ?_
      refine G_iload_n C dX7_countOf_24 rfl 25 rfl ?_
      refine G_ialdN C dX7_countOf_25 3 rfl rfl (by omega) 26 rfl ?_
      refine G_iload_n C dX7_countOf_26 rfl 27 rfl ?_
      refine G_icmp_ne C dX7_countOf_27 34 rfl 30 rfl (nI_eq (Nat.lt_trans ((cok_cit 21).1 i (by omega)) (by decide)) (by omega)) (fun h_2 => ?_) (fun h_2 => ?_)
      · refine G_iconst C dX7_countOf_34 (v := nI 0) rfl 35 rfl ?_
        refine G_istore C dX7_countOf_35 (by decide) [(4, .int (nI 0)), (2, .int (nI (ctot (coarG ln n none) (coarT ln n none) i))), (3, .int (nI i)), (0, .ref mo), (1, .int (nI 4))] rfl 37 rfl ?_
        refine G_iload_n C dX7_countOf_37 rfl 38 rfl ?_
        refine G_tabOut C dX7_countOf_38 (by decide) 151 rfl ?_
        refine G_iload_n C dX7_countOf_151 rfl 152 rfl ?_
        refine G_aload_n C dX7_countOf_152 rfl 153 rfl ?_
        refine G_iload_n C dX7_countOf_153 rfl 154 rfl ?_
        refine G_cV C dX7_countOf_154 (c_X7_coarseOf l E mo ma0 ma1 ma2 ma4 ma5 ma7 ma9 ma10 ma11 ma12 ma15 ns mlen mm pl wm false hh (coarG ln n none) (coarT ln n none) i (cok_cit 21).1 (cok_cit 21).2 (by first | assumption | omega)) wm_X7_118 wi_X7_coarseOf wsel_X7_coarseOf wn_X7 wc_X7_coarseOf rfl rfl ⟨by decide, by decide, rfl⟩ rfl (Nat.le_of_ble_eq_true rfl) 7 rfl rfl 0 rfl [0, 3, 4] [1, 2] (wr := [(ma0, .inl (E.2.1, 15, .inl (aN Nw))), (ma7, .inl (E.2.1, 10, .inl (aN (fineC ln n none))))]) rfl rfl rfl rfl rfl [2, 0, 1, 3, 4] rfl [(mo, .inr (7, [.ref ma0, .ref ma1, .ref ma2, .int (nI ns), .ref ma4, .ref ma5, .int (nI mlen), .ref ma7, .int (bI false), .ref ma9, .ref ma10, .ref ma11, .ref ma12, .int (nI mm), .int (nI pl), .ref ma15, .int (nI wm), .long hh])), (ma0, .inl (E.2.1, 15, .inl (aN Nw))), (ma7, .inl (E.2.1, 10, .inl (aN (fineC ln n none)))), (ma9, .inl (E.2.1, 10, .inl (aN (coarG ln n none)))), (ma10, .inl (E.2.1, 10, .inl (aO (coarT ln n none))))] rfl rfl [.int (nI (cse (coarG ln n none) (coarT ln n none) i)), .int (nI (ctot (coarG ln n none) (coarT ln n none) i))] rfl 157 rfl ?_
        refine G_cS C dX7_countOf_157 (c_X7_ones l E (cse (coarG ln n none) (coarT ln n none) i) (mem_lt _ _ 10 (by omega))) wm_X7_121 wt_X7_ones wn_X7 wc_X7_ones rfl rfl ⟨by decide, by decide, rfl⟩ rfl (Nat.le_of_ble_eq_true rfl) [] [0, 1, 2, 3, 4] (wr := [(mo, .inr (7, [.ref ma0, .ref ma1, .ref ma2, .int (nI ns), .ref ma4, .ref ma5, .int (nI mlen), .ref ma7, .int (bI false), .ref ma9, .ref ma10, .ref ma11, .ref ma12, .int (nI mm), .int (nI pl), .ref ma15, .int (nI wm), .long hh])), (ma0, .inl (E.2.1, 15, .inl (aN Nw))), (ma7, .inl (E.2.1, 10, .inl (aN (fineC ln n none)))), (ma9, .inl (E.2.1, 10, .inl (aN (coarG ln n none)))), (ma10, .inl (E.2.1, 10, .inl (aO (coarT ln n none))))]) rfl rfl rfl rfl rfl [0, 1, 2, 3, 4] rfl [(mo, .inr (7, [.ref ma0, .ref ma1, .ref ma2, .int (nI ns), .ref ma4, .ref ma5, .int (nI mlen), .ref ma7, .int (bI false), .ref ma9, .ref ma10, .ref ma11, .ref ma12, .int (nI mm), .int (nI pl), .ref ma15, .int (nI wm), .long hh])), (ma0, .inl (E.2.1, 15, .inl (aN Nw))), (ma7, .inl (E.2.1, 10, .inl (aN (fineC ln n none)))), (ma9, .inl (E.2.1, 10, .inl (aN (coarG ln n none)))), (ma10, .inl (E.2.1, 10, .inl (aO (coarT ln n none))))] rfl rfl [.int (nI (pcn (cse (coarG ln n none) (coarT ln n none) i))), .int (nI (ctot (coarG ln n none) (coarT ln n none) i))] rfl 160 rfl ?_
        refine G_iadd C dX7_countOf_160 (v := nI (ctot (coarG ln n none) (coarT ln n none) i + (pcn (cse (coarG ln n none) (coarT ln n none) i)))) (nI_add _ _) 161 rfl ?_
        refine G_istore_n C dX7_countOf_161 (by decide) [(2, .int (nI (ctot (coarG ln n none) (coarT ln n none) i + (pcn (cse (coarG ln n none) (coarT ln n none) i))))), (4, .int (nI 0)), (3, .int (nI i)), (0, .ref mo), (1, .int (nI 4))] rfl 162 rfl ?_
        refine G_iinc C dX7_countOf_162 2 rfl (nI_1 _) (by decide) [(3, .int (nI (i + 1))), (2, .int (nI (ctot (coarG ln n none) (coarT ln n none) i + (pcn (cse (coarG ln n none) (coarT ln n none) i))))), (4, .int (nI 0)), (0, .ref mo), (1, .int (nI 4))] rfl 165 rfl ?_
        refine G_goto C dX7_countOf_165 14 rfl ?_
        refine G_sel [1, 0, 3, 4] [(2, .int (nI (ctot (coarG ln n none) (coarT ln n none) i + (pcn (cse (coarG ln n none) (coarT ln n none) i))))), (3, .int (nI (i + 1))), (0, .ref mo), (1, .int (nI 4))] rfl ?_
        refine G_eq (ws' := [(mo, .inr (7, [.ref ma0, .ref ma1, .ref ma2, .int (nI ns), .ref ma4, .ref ma5, .int (nI mlen), .ref ma7, .int (bI false), .ref ma9, .ref ma10, .ref ma11, .ref ma12, .int (nI mm), .int (nI pl), .ref ma15, .int (nI wm), .long hh])), (ma0, .inl (E.2.1, 15, .inl (aN Nw))), (ma7, .inl (E.2.1, 10, .inl (aN (fineC ln n none)))), (ma9, .inl (E.2.1, 10, .inl (aN (coarG ln n none)))), (ma10, .inl (E.2.1, 10, .inl (aO (coarT ln n none))))]) (L' := [(2, .int (nI (ctot (coarG ln n none) (coarT ln n none) (i + 1)))), (3, .int (nI (i + 1))), (0, .ref mo), (1, .int (nI 4))]) rfl rfl rfl ?_
        exact ih (i + 1) (by omega) (by omega)
      · refine G_iconst C dX7_countOf_30 (v := nI 1) rfl 31 rfl ?_
        refine G_goto C dX7_countOf_31 35 rfl ?_
        refine G_istore C dX7_countOf_35 (by decide) [(4, .int (nI 1)), (2, .int (nI (ctot (coarG ln n none) (coarT ln n none) i))), (3, .int (nI i)), (0, .ref mo), (1, .int (nI 4))] rfl 37 rfl ?_
        refine G_iload_n C dX7_countOf_37 rfl 38 rfl ?_
        refine G_tabOut C dX7_countOf_38 (by decide) 151 rfl ?_
        refine G_iload_n C dX7_countOf_151 rfl 152 rfl ?_
        refine G_aload_n C dX7_countOf_152 rfl 153 rfl ?_
        refine G_iload_n C dX7_countOf_153 rfl 154 rfl ?_
        refine G_cV C dX7_countOf_154 (c_X7_coarseOf l E mo ma0 ma1 ma2 ma4 ma5 ma7 ma9 ma10 ma11 ma12 ma15 ns mlen mm pl wm false hh (coarG ln n none) (coarT ln n none) i (cok_cit 21).1 (cok_cit 21).2 (by first | assumption | omega)) wm_X7_118 wi_X7_coarseOf wsel_X7_coarseOf wn_X7 wc_X7_coarseOf rfl rfl ⟨by decide, by decide, rfl⟩ rfl (Nat.le_of_ble_eq_true rfl) 7 rfl rfl 0 rfl [0, 3, 4] [1, 2] (wr := [(ma0, .inl (E.2.1, 15, .inl (aN Nw))), (ma7, .inl (E.2.1, 10, .inl (aN (fineC ln n none))))]) rfl rfl rfl rfl rfl [2, 0, 1, 3, 4] rfl [(mo, .inr (7, [.ref ma0, .ref ma1, .ref ma2, .int (nI ns), .ref ma4, .ref ma5, .int (nI mlen), .ref ma7, .int (bI false), .ref ma9, .ref ma10, .ref ma11, .ref ma12, .int (nI mm), .int (nI pl), .ref ma15, .int (nI wm), .long hh])), (ma0, .inl (E.2.1, 15, .inl (aN Nw))), (ma7, .inl (E.2.1, 10, .inl (aN (fineC ln n none)))), (ma9, .inl (E.2.1, 10, .inl (aN (coarG ln n none)))), (ma10, .inl (E.2.1, 10, .inl (aO (coarT ln n none))))] rfl rfl [.int (nI (cse (coarG ln n none) (coarT ln n none) i)), .int (nI (ctot (coarG ln n none) (coarT ln n none) i))] rfl 157 rfl ?_
        refine G_cS C dX7_countOf_157 (c_X7_ones l E (cse (coarG ln n none) (coarT ln n none) i) (mem_lt _ _ 10 (by omega))) wm_X7_121 wt_X7_ones wn_X7 wc_X7_ones rfl rfl ⟨by decide, by decide, rfl⟩ rfl (Nat.le_of_ble_eq_true rfl) [] [0, 1, 2, 3, 4] (wr := [(mo, .inr (7, [.ref ma0, .ref ma1, .ref ma2, .int (nI ns), .ref ma4, .ref ma5, .int (nI mlen), .ref ma7, .int (bI false), .ref ma9, .ref ma10, .ref ma11, .ref ma12, .int (nI mm), .int (nI pl), .ref ma15, .int (nI wm), .long hh])), (ma0, .inl (E.2.1, 15, .inl (aN Nw))), (ma7, .inl (E.2.1, 10, .inl (aN (fineC ln n none)))), (ma9, .inl (E.2.1, 10, .inl (aN (coarG ln n none)))), (ma10, .inl (E.2.1, 10, .inl (aO (coarT ln n none))))]) rfl rfl rfl rfl rfl [0, 1, 2, 3, 4] rfl [(mo, .inr (7, [.ref ma0, .ref ma1, .ref ma2, .int (nI ns), .ref ma4, .ref ma5, .int (nI mlen), .ref ma7, .int (bI false), .ref ma9, .ref ma10, .ref ma11, .ref ma12, .int (nI mm), .int (nI pl), .ref ma15, .int (nI wm), .long hh])), (ma0, .inl (E.2.1, 15, .inl (aN Nw))), (ma7, .inl (E.2.1, 10, .inl (aN (fineC ln n none)))), (ma9, .inl (E.2.1, 10, .inl (aN (coarG ln n none)))), (ma10, .inl (E.2.1, 10, .inl (aO (coarT ln n none))))] rfl rfl [.int (nI (pcn (cse (coarG ln n none) (coarT ln n none) i))), .int (nI (ctot (coarG ln n none) (coarT ln n none) i))] rfl 160 rfl ?_
        refine G_iadd C dX7_countOf_160 (v := nI (ctot (coarG ln n none) (coarT ln n none) i + (pcn (cse (coarG ln n none) (coarT ln n none) i)))) (nI_add _ _) 161 rfl ?_
        refine G_istore_n C dX7_countOf_161 (by decide) [(2, .int (nI (ctot (coarG ln n none) (coarT ln n none) i + (pcn (cse (coarG ln n none) (coarT ln n none) i))))), (4, .int (nI 1)), (3, .int (nI i)), (0, .ref mo), (1, .int (nI 4))] rfl 162 rfl ?_
        refine G_iinc C dX7_countOf_162 2 rfl (nI_1 _) (by decide) [(3, .int (nI (i + 1))), (2, .int (nI (ctot (coarG ln n none) (coarT ln n none) i + (pcn (cse (coarG ln n none) (coarT ln n none) i))))), (4, .int (nI 1)), (0, .ref mo), (1, .int (nI 4))] rfl 165 rfl ?_
        refine G_goto C dX7_countOf_165 14 rfl ?_
        refine G_sel [1, 0, 3, 4] [(2, .int (nI (ctot (coarG ln n none) (coarT ln n none) i + (pcn (cse (coarG ln n none) (coarT ln n none) i))))), (3, .int (nI (i + 1))), (0, .ref mo), (1, .int (nI 4))] rfl ?_
        refine G_eq (ws' := [(mo, .inr (7, [.ref ma0, .ref ma1, .ref ma2, .int (nI ns), .ref ma4, .ref ma5, .int (nI mlen), .ref ma7, .int (bI false), .ref ma9, .ref ma10, .ref ma11, .ref ma12, .int (nI mm), .int (nI pl), .ref ma15, .int (nI wm), .long hh])), (ma0, .inl (E.2.1, 15, .inl (aN Nw))), (ma7, .inl (E.2.1, 10, .inl (aN (fineC ln n none)))), (ma9, .inl (E.2.1, 10, .inl (aN (coarG ln n none)))), (ma10, .inl (E.2.1, 10, .inl (aO (coarT ln n none))))]) (L' := [(2, .int (nI (ctot (coarG ln n none) (coarT ln n none) (i + 1)))), (3, .int (nI (i + 1))), (0, .ref mo), (1, .int (nI 4))]) rfl rfl rfl ?_
        exact ih (i + 1) (by omega) (by omega)

set_option maxHeartbeats 4000000 in
set_option maxRecDepth 100000 in
theorem m_count_bad (l : Launch) (E : gE) (mo ma0 ma1 ma2 ma4 ma5 ma7 ma9 ma10 ma11 ma12 ma15 ns mlen mm pl wm : Nat) (gw : Bool) (hh : Int64) (Rf : Nat → Nat) (va : Int32) (hbad : inb va 5 = false) : FD l E yX7_count cX7_count 2 (some .int) { frames := 5, cells := 0, slots := 0, locals := 120 } [.ref mo, .int va] [(mo, .inr (7, [.ref ma0, .ref ma1, .ref ma2, .int (nI ns), .ref ma4, .ref ma5, .int (nI mlen), .ref ma7, .int (bI gw), .ref ma9, .ref ma10, .ref ma11, .ref ma12, .int (nI mm), .int (nI pl), .ref ma15, .int (nI wm), .long hh])), (ma4, .inl (E.2.1, 3, .inl (aN Rf)))] (some (.int (-2 : Int32))) [(mo, .inr (7, [.ref ma0, .ref ma1, .ref ma2, .int (nI ns), .ref ma4, .ref ma5, .int (nI mlen), .ref ma7, .int (bI gw), .ref ma9, .ref ma10, .ref ma11, .ref ma12, .int (nI mm), .int (nI pl), .ref ma15, .int (nI wm), .long hh])), (ma4, .inl (E.2.1, 3, .inl (aN (va_up Rf 0 (Rf 0 + 1)))))] := by
  refine Fn_ofL (own := RX7) (by decide) rfl rfl [(0, .ref mo), (1, .int va)] rfl ?_
  intro p e s m below meth c A C hr hnm
  refine G_iload_n C dX7_count_0 rfl 1 rfl ?_
  refine G_iconst C dX7_count_1 (v := nI 0) rfl 2 rfl ?_
  refine G_iconst C dX7_count_2 (v := nI 4) rfl 3 rfl ?_
  refine G_cS C dX7_count_3 (c_X7_within l E va (nI 0) (nI 4) ) wm_X7_43 wt_X7_within wn_X7 wc_X7_within rfl rfl ⟨by decide, by decide, rfl⟩ rfl (Nat.le_of_ble_eq_true rfl) [] [0, 1] (wr := [(mo, .inr (7, [.ref ma0, .ref ma1, .ref ma2, .int (nI ns), .ref ma4, .ref ma5, .int (nI mlen), .ref ma7, .int (bI gw), .ref ma9, .ref ma10, .ref ma11, .ref ma12, .int (nI mm), .int (nI pl), .ref ma15, .int (nI wm), .long hh])), (ma4, .inl (E.2.1, 3, .inl (aN Rf)))]) rfl rfl rfl rfl rfl [0, 1] rfl [(mo, .inr (7, [.ref ma0, .ref ma1, .ref ma2, .int (nI ns), .ref ma4, .ref ma5, .int (nI mlen), .ref ma7, .int (bI gw), .ref ma9, .ref ma10, .ref ma11, .ref ma12, .int (nI mm), .int (nI pl), .ref ma15, .int (nI wm), .long hh])), (ma4, .inl (E.2.1, 3, .inl (aN Rf)))] rfl rfl [.int (bI (decide ((nI 0).toInt ≤ va.toInt ∧ va.toInt ≤ (nI 4).toInt)))] rfl 6 rfl ?_
  refine G_if_eq C dX7_count_6 17 rfl 9 rfl (wi_inb va (n := 5) rfl (by omega)) (fun h_1 => ?_) (fun h_1 => ?_)
  · refine G_aload_n C dX7_count_17 rfl 18 rfl ?_
    refine G_bipush C dX7_count_18 (v := (-2 : Int32)) (by decide) 20 rfl ?_
    refine G_cV C dX7_count_20 (c_X7_counts0 l E mo ma0 ma1 ma2 ma4 ma5 ma7 ma9 ma10 ma11 ma12 ma15 ns mlen mm pl wm gw hh Rf ) wm_X7_51 wi_X7_counts wsel_X7_counts wn_X7 wc_X7_counts rfl rfl ⟨by decide, by decide, rfl⟩ rfl (Nat.le_of_ble_eq_true rfl) 7 rfl rfl 0 rfl [0, 1] [] (wr := []) rfl rfl rfl rfl rfl [0, 1] rfl [(mo, .inr (7, [.ref ma0, .ref ma1, .ref ma2, .int (nI ns), .ref ma4, .ref ma5, .int (nI mlen), .ref ma7, .int (bI gw), .ref ma9, .ref ma10, .ref ma11, .ref ma12, .int (nI mm), .int (nI pl), .ref ma15, .int (nI wm), .long hh])), (ma4, .inl (E.2.1, 3, .inl (aN (va_up Rf 0 (Rf 0 + 1)))))] rfl rfl [.int (-2 : Int32)] rfl 23 rfl ?_
    exact G_iret C hr dX7_count_23 rfl () trivial rfl rfl
  · exact absurd hbad (by simp [h_1])

set_option maxHeartbeats 4000000 in
set_option maxRecDepth 100000 in
theorem m_count_ok (l : Launch) (E : gE) (mo ma0 ma1 ma2 ma4 ma5 ma7 ma9 ma10 ma11 ma12 ma15 ns mlen mm pl wm : Nat) (gw : Bool) (hh : Int64) (Nw : Nat → Nat) (S : Nat → Nat) (Gp : Nat → Nat) (Tt : Nat → Option Nat) (ln : Nat → Nat) (n wh : Nat) (hok : mok n ln Nw) (hw : wh < 5) : FD l E yX7_count cX7_count 2 (some .int) { frames := 5, cells := 0, slots := 0, locals := 120 } [.ref mo, .int (nI wh)] [(mo, .inr (7, [.ref ma0, .ref ma1, .ref ma2, .int (nI ns), .ref ma4, .ref ma5, .int (nI mlen), .ref ma7, .int (bI gw), .ref ma9, .ref ma10, .ref ma11, .ref ma12, .int (nI mm), .int (nI pl), .ref ma15, .int (nI wm), .long hh])), (ma0, .inl (E.2.1, 15, .inl (aN Nw))), (ma7, .inl (E.2.1, 10, .inl (aN S))), (ma9, .inl (E.2.1, 10, .inl (aN Gp))), (ma10, .inl (E.2.1, 10, .inl (aO Tt)))] (some (.int (nI (cnd (fineC ln n none) (coarG ln n none) (coarT ln n none) wh)))) [(mo, .inr (7, [.ref ma0, .ref ma1, .ref ma2, .int (nI ns), .ref ma4, .ref ma5, .int (nI mlen), .ref ma7, .int (bI false), .ref ma9, .ref ma10, .ref ma11, .ref ma12, .int (nI mm), .int (nI pl), .ref ma15, .int (nI wm), .long hh])), (ma0, .inl (E.2.1, 15, .inl (aN Nw))), (ma7, .inl (E.2.1, 10, .inl (aN (fineC ln n none)))), (ma9, .inl (E.2.1, 10, .inl (aN (coarG ln n none)))), (ma10, .inl (E.2.1, 10, .inl (aO (coarT ln n none))))] := by
  refine Fn_ofL (own := RX7) (by decide) rfl rfl [(0, .ref mo), (1, .int (nI wh))] rfl ?_
  intro p e s m below meth c A C hr hnm
  refine G_iload_n C dX7_count_0 rfl 1 rfl ?_
  refine G_iconst C dX7_count_1 (v := nI 0) rfl 2 rfl ?_
  refine G_iconst C dX7_count_2 (v := nI 4) rfl 3 rfl ?_
  refine G_cS C dX7_count_3 (c_X7_within l E (nI wh) (nI 0) (nI 4) ) wm_X7_43 wt_X7_within wn_X7 wc_X7_within rfl rfl ⟨by decide, by decide, rfl⟩ rfl (Nat.le_of_ble_eq_true rfl) [] [0, 1, 2, 3, 4] (wr := [(mo, .inr (7, [.ref ma0, .ref ma1, .ref ma2, .int (nI ns), .ref ma4, .ref ma5, .int (nI mlen), .ref ma7, .int (bI gw), .ref ma9, .ref ma10, .ref ma11, .ref ma12, .int (nI mm), .int (nI pl), .ref ma15, .int (nI wm), .long hh])), (ma0, .inl (E.2.1, 15, .inl (aN Nw))), (ma7, .inl (E.2.1, 10, .inl (aN S))), (ma9, .inl (E.2.1, 10, .inl (aN Gp))), (ma10, .inl (E.2.1, 10, .inl (aO Tt)))]) rfl rfl rfl rfl rfl [0, 1, 2, 3, 4] rfl [(mo, .inr (7, [.ref ma0, .ref ma1, .ref ma2, .int (nI ns), .ref ma4, .ref ma5, .int (nI mlen), .ref ma7, .int (bI gw), .ref ma9, .ref ma10, .ref ma11, .ref ma12, .int (nI mm), .int (nI pl), .ref ma15, .int (nI wm), .long hh])), (ma0, .inl (E.2.1, 15, .inl (aN Nw))), (ma7, .inl (E.2.1, 10, .inl (aN S))), (ma9, .inl (E.2.1, 10, .inl (aN Gp))), (ma10, .inl (E.2.1, 10, .inl (aO Tt)))] rfl rfl [.int (bI (decide ((nI 0).toInt ≤ (nI wh).toInt ∧ (nI wh).toInt ≤ (nI 4).toInt)))] rfl 6 rfl ?_
  refine G_if_eq_f C dX7_count_6 17 rfl 9 rfl (wi_ok (by omega) (by omega)) ?_
  refine G_aload_n C dX7_count_9 rfl 10 rfl ?_
  refine G_iload_n C dX7_count_10 rfl 11 rfl ?_
  refine G_cV C dX7_count_11 (c_X7_countOf l E mo ma0 ma1 ma2 ma4 ma5 ma7 ma9 ma10 ma11 ma12 ma15 ns mlen mm pl wm gw hh Nw S Gp Tt ln n wh (by first | assumption | omega) (by first | assumption | omega)) wm_X7_124 wi_X7_countOf wsel_X7_countOf wn_X7 wc_X7_countOf rfl rfl ⟨by decide, by decide, rfl⟩ rfl (Nat.le_of_ble_eq_true rfl) 7 rfl rfl 0 rfl [0, 1, 2, 3, 4] [] (wr := []) rfl rfl rfl rfl rfl [0, 1, 2, 3, 4] rfl [(mo, .inr (7, [.ref ma0, .ref ma1, .ref ma2, .int (nI ns), .ref ma4, .ref ma5, .int (nI mlen), .ref ma7, .int (bI false), .ref ma9, .ref ma10, .ref ma11, .ref ma12, .int (nI mm), .int (nI pl), .ref ma15, .int (nI wm), .long hh])), (ma0, .inl (E.2.1, 15, .inl (aN Nw))), (ma7, .inl (E.2.1, 10, .inl (aN (fineC ln n none)))), (ma9, .inl (E.2.1, 10, .inl (aN (coarG ln n none)))), (ma10, .inl (E.2.1, 10, .inl (aO (coarT ln n none))))] rfl rfl [.int (nI (cnd (fineC ln n none) (coarG ln n none) (coarT ln n none) wh))] rfl 14 rfl ?_
  refine G_goto C dX7_count_14 23 rfl ?_
  exact G_iret C hr dX7_count_23 rfl () trivial rfl rfl

set_option maxHeartbeats 4000000 in
set_option maxRecDepth 100000 in
theorem m_alias_bad (l : Launch) (E : gE) (mo ma0 ma1 ma2 ma4 ma5 ma7 ma9 ma10 ma11 ma12 ma15 ns mlen mm pl wm : Nat) (gw : Bool) (hh : Int64) (Rf : Nat → Nat) (va vb vc : Int32) (hbad : inb va 10 = false ∨ inb vb 10 = false ∨ inb vc 2 = false) : FD l E yX7_alias cX7_alias 5 (some .int) { frames := 4, cells := 0, slots := 0, locals := 96 } [.ref mo, .int va, .int vb, .int vc] [(mo, .inr (7, [.ref ma0, .ref ma1, .ref ma2, .int (nI ns), .ref ma4, .ref ma5, .int (nI mlen), .ref ma7, .int (bI gw), .ref ma9, .ref ma10, .ref ma11, .ref ma12, .int (nI mm), .int (nI pl), .ref ma15, .int (nI wm), .long hh])), (ma4, .inl (E.2.1, 3, .inl (aN Rf)))] (some (.int (-2 : Int32))) [(mo, .inr (7, [.ref ma0, .ref ma1, .ref ma2, .int (nI ns), .ref ma4, .ref ma5, .int (nI mlen), .ref ma7, .int (bI gw), .ref ma9, .ref ma10, .ref ma11, .ref ma12, .int (nI mm), .int (nI pl), .ref ma15, .int (nI wm), .long hh])), (ma4, .inl (E.2.1, 3, .inl (aN (va_up Rf 0 (Rf 0 + 1)))))] := by
  refine Fn_ofL (own := RX7) (by decide) rfl rfl [(0, .ref mo), (1, .int va), (2, .int vb), (3, .int vc)] rfl ?_
  intro p e s m below meth c A C hr hnm
  refine G_iload_n C dX7_alias_0 rfl 1 rfl ?_
  refine G_cS C dX7_alias_1 (c_X7_isName l E va ) wm_X7_55 wt_X7_isName wn_X7 wc_X7_isName rfl rfl ⟨by decide, by decide, rfl⟩ rfl (Nat.le_of_ble_eq_true rfl) [] [0, 1] (wr := [(mo, .inr (7, [.ref ma0, .ref ma1, .ref ma2, .int (nI ns), .ref ma4, .ref ma5, .int (nI mlen), .ref ma7, .int (bI gw), .ref ma9, .ref ma10, .ref ma11, .ref ma12, .int (nI mm), .int (nI pl), .ref ma15, .int (nI wm), .long hh])), (ma4, .inl (E.2.1, 3, .inl (aN Rf)))]) rfl rfl rfl rfl rfl [0, 1] rfl [(mo, .inr (7, [.ref ma0, .ref ma1, .ref ma2, .int (nI ns), .ref ma4, .ref ma5, .int (nI mlen), .ref ma7, .int (bI gw), .ref ma9, .ref ma10, .ref ma11, .ref ma12, .int (nI mm), .int (nI pl), .ref ma15, .int (nI wm), .long hh])), (ma4, .inl (E.2.1, 3, .inl (aN Rf)))] rfl rfl [.int (bI (inb va 10))] rfl 4 rfl ?_
  refine G_if_eq C dX7_alias_4 23 rfl 7 rfl (bI_0 _) (fun h_1 => ?_) (fun h_1 => ?_)
  · refine G_aload_n C dX7_alias_23 rfl 24 rfl ?_
    refine G_bipush C dX7_alias_24 (v := (-2 : Int32)) (by decide) 26 rfl ?_
    refine G_cV C dX7_alias_26 (c_X7_counts0 l E mo ma0 ma1 ma2 ma4 ma5 ma7 ma9 ma10 ma11 ma12 ma15 ns mlen mm pl wm gw hh Rf ) wm_X7_51 wi_X7_counts wsel_X7_counts wn_X7 wc_X7_counts rfl rfl ⟨by decide, by decide, rfl⟩ rfl (Nat.le_of_ble_eq_true rfl) 7 rfl rfl 0 rfl [0, 1] [] (wr := []) rfl rfl rfl rfl rfl [0, 1] rfl [(mo, .inr (7, [.ref ma0, .ref ma1, .ref ma2, .int (nI ns), .ref ma4, .ref ma5, .int (nI mlen), .ref ma7, .int (bI gw), .ref ma9, .ref ma10, .ref ma11, .ref ma12, .int (nI mm), .int (nI pl), .ref ma15, .int (nI wm), .long hh])), (ma4, .inl (E.2.1, 3, .inl (aN (va_up Rf 0 (Rf 0 + 1)))))] rfl rfl [.int (-2 : Int32)] rfl 29 rfl ?_
    exact G_iret C hr dX7_alias_29 rfl () trivial rfl rfl
  · refine G_iload_n C dX7_alias_7 rfl 8 rfl ?_
    refine G_cS C dX7_alias_8 (c_X7_isName l E vb ) wm_X7_55 wt_X7_isName wn_X7 wc_X7_isName rfl rfl ⟨by decide, by decide, rfl⟩ rfl (Nat.le_of_ble_eq_true rfl) [] [0, 1] (wr := [(mo, .inr (7, [.ref ma0, .ref ma1, .ref ma2, .int (nI ns), .ref ma4, .ref ma5, .int (nI mlen), .ref ma7, .int (bI gw), .ref ma9, .ref ma10, .ref ma11, .ref ma12, .int (nI mm), .int (nI pl), .ref ma15, .int (nI wm), .long hh])), (ma4, .inl (E.2.1, 3, .inl (aN Rf)))]) rfl rfl rfl rfl rfl [0, 1] rfl [(mo, .inr (7, [.ref ma0, .ref ma1, .ref ma2, .int (nI ns), .ref ma4, .ref ma5, .int (nI mlen), .ref ma7, .int (bI gw), .ref ma9, .ref ma10, .ref ma11, .ref ma12, .int (nI mm), .int (nI pl), .ref ma15, .int (nI wm), .long hh])), (ma4, .inl (E.2.1, 3, .inl (aN Rf)))] rfl rfl [.int (bI (inb vb 10))] rfl 11 rfl ?_
    refine G_if_eq C dX7_alias_11 23 rfl 14 rfl (bI_0 _) (fun h_2 => ?_) (fun h_2 => ?_)
    · refine G_aload_n C dX7_alias_23 rfl 24 rfl ?_
      refine G_bipush C dX7_alias_24 (v := (-2 : Int32)) (by decide) 26 rfl ?_
      refine G_cV C dX7_alias_26 (c_X7_counts0 l E mo ma0 ma1 ma2 ma4 ma5 ma7 ma9 ma10 ma11 ma12 ma15 ns mlen mm pl wm gw hh Rf ) wm_X7_51 wi_X7_counts wsel_X7_counts wn_X7 wc_X7_counts rfl rfl ⟨by decide, by decide, rfl⟩ rfl (Nat.le_of_ble_eq_true rfl) 7 rfl rfl 0 rfl [0, 1] [] (wr := []) rfl rfl rfl rfl rfl [0, 1] rfl [(mo, .inr (7, [.ref ma0, .ref ma1, .ref ma2, .int (nI ns), .ref ma4, .ref ma5, .int (nI mlen), .ref ma7, .int (bI gw), .ref ma9, .ref ma10, .ref ma11, .ref ma12, .int (nI mm), .int (nI pl), .ref ma15, .int (nI wm), .long hh])), (ma4, .inl (E.2.1, 3, .inl (aN (va_up Rf 0 (Rf 0 + 1)))))] rfl rfl [.int (-2 : Int32)] rfl 29 rfl ?_
      exact G_iret C hr dX7_alias_29 rfl () trivial rfl rfl
    · refine G_iload_n C dX7_alias_14 rfl 15 rfl ?_
      refine G_iconst C dX7_alias_15 (v := nI 0) rfl 16 rfl ?_
      refine G_iconst C dX7_alias_16 (v := nI 1) rfl 17 rfl ?_
      refine G_cS C dX7_alias_17 (c_X7_within l E vc (nI 0) (nI 1) ) wm_X7_43 wt_X7_within wn_X7 wc_X7_within rfl rfl ⟨by decide, by decide, rfl⟩ rfl (Nat.le_of_ble_eq_true rfl) [] [0, 1] (wr := [(mo, .inr (7, [.ref ma0, .ref ma1, .ref ma2, .int (nI ns), .ref ma4, .ref ma5, .int (nI mlen), .ref ma7, .int (bI gw), .ref ma9, .ref ma10, .ref ma11, .ref ma12, .int (nI mm), .int (nI pl), .ref ma15, .int (nI wm), .long hh])), (ma4, .inl (E.2.1, 3, .inl (aN Rf)))]) rfl rfl rfl rfl rfl [0, 1] rfl [(mo, .inr (7, [.ref ma0, .ref ma1, .ref ma2, .int (nI ns), .ref ma4, .ref ma5, .int (nI mlen), .ref ma7, .int (bI gw), .ref ma9, .ref ma10, .ref ma11, .ref ma12, .int (nI mm), .int (nI pl), .ref ma15, .int (nI wm), .long hh])), (ma4, .inl (E.2.1, 3, .inl (aN Rf)))] rfl rfl [.int (bI (decide ((nI 0).toInt ≤ vc.toInt ∧ vc.toInt ≤ (nI 1).toInt)))] rfl 20 rfl ?_
      refine G_if_ne C dX7_alias_20 30 rfl 23 rfl (wi_inb vc (n := 2) rfl (by omega)) (fun h_3 => ?_) (fun h_3 => ?_)
      · exact absurd hbad (by simp [h_1, h_2, h_3])
      · refine G_aload_n C dX7_alias_23 rfl 24 rfl ?_
        refine G_bipush C dX7_alias_24 (v := (-2 : Int32)) (by decide) 26 rfl ?_
        refine G_cV C dX7_alias_26 (c_X7_counts0 l E mo ma0 ma1 ma2 ma4 ma5 ma7 ma9 ma10 ma11 ma12 ma15 ns mlen mm pl wm gw hh Rf ) wm_X7_51 wi_X7_counts wsel_X7_counts wn_X7 wc_X7_counts rfl rfl ⟨by decide, by decide, rfl⟩ rfl (Nat.le_of_ble_eq_true rfl) 7 rfl rfl 0 rfl [0, 1] [] (wr := []) rfl rfl rfl rfl rfl [0, 1] rfl [(mo, .inr (7, [.ref ma0, .ref ma1, .ref ma2, .int (nI ns), .ref ma4, .ref ma5, .int (nI mlen), .ref ma7, .int (bI gw), .ref ma9, .ref ma10, .ref ma11, .ref ma12, .int (nI mm), .int (nI pl), .ref ma15, .int (nI wm), .long hh])), (ma4, .inl (E.2.1, 3, .inl (aN (va_up Rf 0 (Rf 0 + 1)))))] rfl rfl [.int (-2 : Int32)] rfl 29 rfl ?_
        exact G_iret C hr dX7_alias_29 rfl () trivial rfl rfl

set_option maxHeartbeats 4000000 in
set_option maxRecDepth 100000 in
theorem m_alias_0 (l : Launch) (E : gE) (mo ma0 ma1 ma2 ma4 ma5 ma7 ma9 ma10 ma11 ma12 ma15 ns mlen mm pl wm : Nat) (gw : Bool) (hh : Int64) (Nw : Nat → Nat) (S : Nat → Nat) (Gp : Nat → Nat) (Tt : Nat → Option Nat) (ln : Nat → Nat) (n x y : Nat) (hok : mok n ln Nw) (hx : x < 10) (hy : y < 10) : FD l E yX7_alias cX7_alias 5 (some .int) { frames := 4, cells := 0, slots := 0, locals := 96 } [.ref mo, .int (nI x), .int (nI y), .int (nI 0)] [(mo, .inr (7, [.ref ma0, .ref ma1, .ref ma2, .int (nI ns), .ref ma4, .ref ma5, .int (nI mlen), .ref ma7, .int (bI gw), .ref ma9, .ref ma10, .ref ma11, .ref ma12, .int (nI mm), .int (nI pl), .ref ma15, .int (nI wm), .long hh])), (ma0, .inl (E.2.1, 15, .inl (aN Nw))), (ma7, .inl (E.2.1, 10, .inl (aN S))), (ma9, .inl (E.2.1, 10, .inl (aN Gp))), (ma10, .inl (E.2.1, 10, .inl (aO Tt)))] (some (.int (bI (decide (¬ ((fineC ln n none x) &&& (fineC ln n none y) = 0)))))) [(mo, .inr (7, [.ref ma0, .ref ma1, .ref ma2, .int (nI ns), .ref ma4, .ref ma5, .int (nI mlen), .ref ma7, .int (bI false), .ref ma9, .ref ma10, .ref ma11, .ref ma12, .int (nI mm), .int (nI pl), .ref ma15, .int (nI wm), .long hh])), (ma0, .inl (E.2.1, 15, .inl (aN Nw))), (ma7, .inl (E.2.1, 10, .inl (aN (fineC ln n none)))), (ma9, .inl (E.2.1, 10, .inl (aN (coarG ln n none)))), (ma10, .inl (E.2.1, 10, .inl (aO (coarT ln n none))))] := by
  refine Fn_ofL (own := RX7) (by decide) rfl rfl [(0, .ref mo), (1, .int (nI x)), (2, .int (nI y)), (3, .int (nI 0))] rfl ?_
  intro p e s m below meth c A C hr hnm
  refine G_iload_n C dX7_alias_0 rfl 1 rfl ?_
  refine G_cS C dX7_alias_1 (c_X7_isName l E (nI x) ) wm_X7_55 wt_X7_isName wn_X7 wc_X7_isName rfl rfl ⟨by decide, by decide, rfl⟩ rfl (Nat.le_of_ble_eq_true rfl) [] [0, 1, 2, 3, 4] (wr := [(mo, .inr (7, [.ref ma0, .ref ma1, .ref ma2, .int (nI ns), .ref ma4, .ref ma5, .int (nI mlen), .ref ma7, .int (bI gw), .ref ma9, .ref ma10, .ref ma11, .ref ma12, .int (nI mm), .int (nI pl), .ref ma15, .int (nI wm), .long hh])), (ma0, .inl (E.2.1, 15, .inl (aN Nw))), (ma7, .inl (E.2.1, 10, .inl (aN S))), (ma9, .inl (E.2.1, 10, .inl (aN Gp))), (ma10, .inl (E.2.1, 10, .inl (aO Tt)))]) rfl rfl rfl rfl rfl [0, 1, 2, 3, 4] rfl [(mo, .inr (7, [.ref ma0, .ref ma1, .ref ma2, .int (nI ns), .ref ma4, .ref ma5, .int (nI mlen), .ref ma7, .int (bI gw), .ref ma9, .ref ma10, .ref ma11, .ref ma12, .int (nI mm), .int (nI pl), .ref ma15, .int (nI wm), .long hh])), (ma0, .inl (E.2.1, 15, .inl (aN Nw))), (ma7, .inl (E.2.1, 10, .inl (aN S))), (ma9, .inl (E.2.1, 10, .inl (aN Gp))), (ma10, .inl (E.2.1, 10, .inl (aO Tt)))] rfl rfl [.int (bI (inb (nI x) 10))] rfl 4 rfl ?_
  refine G_if_eq_f C dX7_alias_4 23 rfl 7 rfl (inbT hx (by omega)) ?_
  refine G_iload_n C dX7_alias_7 rfl 8 rfl ?_
  refine G_cS C dX7_alias_8 (c_X7_isName l E (nI y) ) wm_X7_55 wt_X7_isName wn_X7 wc_X7_isName rfl rfl ⟨by decide, by decide, rfl⟩ rfl (Nat.le_of_ble_eq_true rfl) [] [0, 1, 2, 3, 4] (wr := [(mo, .inr (7, [.ref ma0, .ref ma1, .ref ma2, .int (nI ns), .ref ma4, .ref ma5, .int (nI mlen), .ref ma7, .int (bI gw), .ref ma9, .ref ma10, .ref ma11, .ref ma12, .int (nI mm), .int (nI pl), .ref ma15, .int (nI wm), .long hh])), (ma0, .inl (E.2.1, 15, .inl (aN Nw))), (ma7, .inl (E.2.1, 10, .inl (aN S))), (ma9, .inl (E.2.1, 10, .inl (aN Gp))), (ma10, .inl (E.2.1, 10, .inl (aO Tt)))]) rfl rfl rfl rfl rfl [0, 1, 2, 3, 4] rfl [(mo, .inr (7, [.ref ma0, .ref ma1, .ref ma2, .int (nI ns), .ref ma4, .ref ma5, .int (nI mlen), .ref ma7, .int (bI gw), .ref ma9, .ref ma10, .ref ma11, .ref ma12, .int (nI mm), .int (nI pl), .ref ma15, .int (nI wm), .long hh])), (ma0, .inl (E.2.1, 15, .inl (aN Nw))), (ma7, .inl (E.2.1, 10, .inl (aN S))), (ma9, .inl (E.2.1, 10, .inl (aN Gp))), (ma10, .inl (E.2.1, 10, .inl (aO Tt)))] rfl rfl [.int (bI (inb (nI y) 10))] rfl 11 rfl ?_
  refine G_if_eq_f C dX7_alias_11 23 rfl 14 rfl (inbT hy (by omega)) ?_
  refine G_iload_n C dX7_alias_14 rfl 15 rfl ?_
  refine G_iconst C dX7_alias_15 (v := nI 0) rfl 16 rfl ?_
  refine G_iconst C dX7_alias_16 (v := nI 1) rfl 17 rfl ?_
  refine G_cS C dX7_alias_17 (c_X7_within l E (nI 0) (nI 0) (nI 1) ) wm_X7_43 wt_X7_within wn_X7 wc_X7_within rfl rfl ⟨by decide, by decide, rfl⟩ rfl (Nat.le_of_ble_eq_true rfl) [] [0, 1, 2, 3, 4] (wr := [(mo, .inr (7, [.ref ma0, .ref ma1, .ref ma2, .int (nI ns), .ref ma4, .ref ma5, .int (nI mlen), .ref ma7, .int (bI gw), .ref ma9, .ref ma10, .ref ma11, .ref ma12, .int (nI mm), .int (nI pl), .ref ma15, .int (nI wm), .long hh])), (ma0, .inl (E.2.1, 15, .inl (aN Nw))), (ma7, .inl (E.2.1, 10, .inl (aN S))), (ma9, .inl (E.2.1, 10, .inl (aN Gp))), (ma10, .inl (E.2.1, 10, .inl (aO Tt)))]) rfl rfl rfl rfl rfl [0, 1, 2, 3, 4] rfl [(mo, .inr (7, [.ref ma0, .ref ma1, .ref ma2, .int (nI ns), .ref ma4, .ref ma5, .int (nI mlen), .ref ma7, .int (bI gw), .ref ma9, .ref ma10, .ref ma11, .ref ma12, .int (nI mm), .int (nI pl), .ref ma15, .int (nI wm), .long hh])), (ma0, .inl (E.2.1, 15, .inl (aN Nw))), (ma7, .inl (E.2.1, 10, .inl (aN S))), (ma9, .inl (E.2.1, 10, .inl (aN Gp))), (ma10, .inl (E.2.1, 10, .inl (aO Tt)))] rfl rfl [.int (bI (decide ((nI 0).toInt ≤ (nI 0).toInt ∧ (nI 0).toInt ≤ (nI 1).toInt)))] rfl 20 rfl ?_
  refine G_if_ne_t C dX7_alias_20 30 rfl (wi_ok (by omega) (by omega)) ?_
  refine G_aload_n C dX7_alias_30 rfl 31 rfl ?_
  refine G_iconst C dX7_alias_31 (v := oI none) rfl 32 rfl ?_
  refine G_cV C dX7_alias_32 (c_X7_laysFine l E mo ma0 ma1 ma2 ma4 ma5 ma7 ma9 ma10 ma11 ma12 ma15 ns mlen mm pl wm gw hh Nw S ln n none (by first | assumption | omega) (fun g h => by cases h)) wm_X7_108 wi_X7_laysFine wsel_X7_laysFine wn_X7 wc_X7_laysFine rfl rfl ⟨by decide, by decide, rfl⟩ rfl (Nat.le_of_ble_eq_true rfl) 7 rfl rfl 0 rfl [0, 1, 2] [3, 4] (wr := [(ma9, .inl (E.2.1, 10, .inl (aN Gp))), (ma10, .inl (E.2.1, 10, .inl (aO Tt)))]) rfl rfl rfl rfl rfl [2, 3, 4, 0, 1] rfl [(mo, .inr (7, [.ref ma0, .ref ma1, .ref ma2, .int (nI ns), .ref ma4, .ref ma5, .int (nI mlen), .ref ma7, .int (bI false), .ref ma9, .ref ma10, .ref ma11, .ref ma12, .int (nI mm), .int (nI pl), .ref ma15, .int (nI wm), .long hh])), (ma0, .inl (E.2.1, 15, .inl (aN Nw))), (ma7, .inl (E.2.1, 10, .inl (aN (fineC ln n none)))), (ma9, .inl (E.2.1, 10, .inl (aN Gp))), (ma10, .inl (E.2.1, 10, .inl (aO Tt)))] rfl rfl [] rfl 35 rfl ?_
  refine G_aload_n C dX7_alias_35 rfl 36 rfl ?_
  refine G_iconst C dX7_alias_36 (v := oI none) rfl 37 rfl ?_
  refine G_cV C dX7_alias_37 (c_X7_laysCoarse l E mo ma0 ma1 ma2 ma4 ma5 ma7 ma9 ma10 ma11 ma12 ma15 ns mlen mm pl wm false hh Nw Gp Tt ln n none (by first | assumption | omega) (fun g h => by cases h)) wm_X7_115 wi_X7_laysCoarse wsel_X7_laysCoarse wn_X7 wc_X7_laysCoarse rfl rfl ⟨by decide, by decide, rfl⟩ rfl (Nat.le_of_ble_eq_true rfl) 7 rfl rfl 0 rfl [0, 1, 3, 4] [2] (wr := [(ma7, .inl (E.2.1, 10, .inl (aN (fineC ln n none))))]) rfl rfl rfl rfl rfl [1, 2, 0, 3, 4] rfl [(mo, .inr (7, [.ref ma0, .ref ma1, .ref ma2, .int (nI ns), .ref ma4, .ref ma5, .int (nI mlen), .ref ma7, .int (bI false), .ref ma9, .ref ma10, .ref ma11, .ref ma12, .int (nI mm), .int (nI pl), .ref ma15, .int (nI wm), .long hh])), (ma0, .inl (E.2.1, 15, .inl (aN Nw))), (ma7, .inl (E.2.1, 10, .inl (aN (fineC ln n none)))), (ma9, .inl (E.2.1, 10, .inl (aN (coarG ln n none)))), (ma10, .inl (E.2.1, 10, .inl (aO (coarT ln n none))))] rfl rfl [] rfl 40 rfl ?_
  refine G_iload_n C dX7_alias_40 rfl 41 rfl ?_
  refine G_if_ne_f C dX7_alias_41 60 rfl 44 rfl (by decide) ?_
  refine G_aload_n C dX7_alias_44 rfl 45 rfl ?_
  refine G_getf C dX7_alias_45 wF_X7 wf_X7_25 (f := 7) (by decide) (ci := 7) rfl 0 rfl rfl 48 rfl ?_
  refine G_iload_n C dX7_alias_48 rfl 49 rfl ?_
  refine G_ialdN C dX7_alias_49 2 rfl rfl (by omega) 50 rfl ?_
  refine G_aload_n C dX7_alias_50 rfl 51 rfl ?_
  refine G_getf C dX7_alias_51 wF_X7 wf_X7_25 (f := 7) (by decide) (ci := 7) rfl 0 rfl rfl 54 rfl ?_
  refine G_iload_n C dX7_alias_54 rfl 55 rfl ?_
  refine G_ialdN C dX7_alias_55 2 rfl rfl (by omega) 56 rfl ?_
  refine G_iand C dX7_alias_56 (v := nI (((fineC ln n none) x) &&& ((fineC ln n none) y))) (fa_and _ _) 57 rfl ?_
  refine G_goto C dX7_alias_57 71 rfl ?_
  refine G_istore C dX7_alias_71 (by decide) [(4, .int (nI (((fineC ln n none) x) &&& ((fineC ln n none) y)))), (0, .ref mo), (1, .int (nI x)), (2, .int (nI y)), (3, .int (nI 0))] rfl 73 rfl ?_
  refine G_iload C dX7_alias_73 rfl 75 rfl ?_
  refine G_if_eq C dX7_alias_75 82 rfl 78 rfl (n_eq0 (Nat.lt_of_le_of_lt Nat.and_le_left (Nat.lt_trans (sok_fineC _ hx) (by decide)))) (fun h_1 => ?_) (fun h_1 => ?_)
  · refine G_iconst C dX7_alias_82 (v := nI 0) rfl 83 rfl ?_
    exact G_iret C hr dX7_alias_83 rfl () trivial (bI_rf (by simp [h_1])) rfl
  · refine G_iconst C dX7_alias_78 (v := nI 1) rfl 79 rfl ?_
    refine G_goto C dX7_alias_79 83 rfl ?_
    exact G_iret C hr dX7_alias_83 rfl () trivial (bI_rt (by simp [h_1])) rfl

set_option maxHeartbeats 4000000 in
set_option maxRecDepth 100000 in
theorem m_alias_1 (l : Launch) (E : gE) (mo ma0 ma1 ma2 ma4 ma5 ma7 ma9 ma10 ma11 ma12 ma15 ns mlen mm pl wm : Nat) (gw : Bool) (hh : Int64) (Nw : Nat → Nat) (S : Nat → Nat) (Gp : Nat → Nat) (Tt : Nat → Option Nat) (ln : Nat → Nat) (n x y : Nat) (hok : mok n ln Nw) (hx : x < 10) (hy : y < 10) : FD l E yX7_alias cX7_alias 5 (some .int) { frames := 4, cells := 0, slots := 0, locals := 96 } [.ref mo, .int (nI x), .int (nI y), .int (nI 1)] [(mo, .inr (7, [.ref ma0, .ref ma1, .ref ma2, .int (nI ns), .ref ma4, .ref ma5, .int (nI mlen), .ref ma7, .int (bI gw), .ref ma9, .ref ma10, .ref ma11, .ref ma12, .int (nI mm), .int (nI pl), .ref ma15, .int (nI wm), .long hh])), (ma0, .inl (E.2.1, 15, .inl (aN Nw))), (ma7, .inl (E.2.1, 10, .inl (aN S))), (ma9, .inl (E.2.1, 10, .inl (aN Gp))), (ma10, .inl (E.2.1, 10, .inl (aO Tt)))] (some (.int (bI (decide (¬ ((cse (coarG ln n none) (coarT ln n none) x) &&& (cse (coarG ln n none) (coarT ln n none) y) = 0)))))) [(mo, .inr (7, [.ref ma0, .ref ma1, .ref ma2, .int (nI ns), .ref ma4, .ref ma5, .int (nI mlen), .ref ma7, .int (bI false), .ref ma9, .ref ma10, .ref ma11, .ref ma12, .int (nI mm), .int (nI pl), .ref ma15, .int (nI wm), .long hh])), (ma0, .inl (E.2.1, 15, .inl (aN Nw))), (ma7, .inl (E.2.1, 10, .inl (aN (fineC ln n none)))), (ma9, .inl (E.2.1, 10, .inl (aN (coarG ln n none)))), (ma10, .inl (E.2.1, 10, .inl (aO (coarT ln n none))))] := by
  refine Fn_ofL (own := RX7) (by decide) rfl rfl [(0, .ref mo), (1, .int (nI x)), (2, .int (nI y)), (3, .int (nI 1))] rfl ?_
  intro p e s m below meth c A C hr hnm
  refine G_iload_n C dX7_alias_0 rfl 1 rfl ?_
  refine G_cS C dX7_alias_1 (c_X7_isName l E (nI x) ) wm_X7_55 wt_X7_isName wn_X7 wc_X7_isName rfl rfl ⟨by decide, by decide, rfl⟩ rfl (Nat.le_of_ble_eq_true rfl) [] [0, 1, 2, 3, 4] (wr := [(mo, .inr (7, [.ref ma0, .ref ma1, .ref ma2, .int (nI ns), .ref ma4, .ref ma5, .int (nI mlen), .ref ma7, .int (bI gw), .ref ma9, .ref ma10, .ref ma11, .ref ma12, .int (nI mm), .int (nI pl), .ref ma15, .int (nI wm), .long hh])), (ma0, .inl (E.2.1, 15, .inl (aN Nw))), (ma7, .inl (E.2.1, 10, .inl (aN S))), (ma9, .inl (E.2.1, 10, .inl (aN Gp))), (ma10, .inl (E.2.1, 10, .inl (aO Tt)))]) rfl rfl rfl rfl rfl [0, 1, 2, 3, 4] rfl [(mo, .inr (7, [.ref ma0, .ref ma1, .ref ma2, .int (nI ns), .ref ma4, .ref ma5, .int (nI mlen), .ref ma7, .int (bI gw), .ref ma9, .ref ma10, .ref ma11, .ref ma12, .int (nI mm), .int (nI pl), .ref ma15, .int (nI wm), .long hh])), (ma0, .inl (E.2.1, 15, .inl (aN Nw))), (ma7, .inl (E.2.1, 10, .inl (aN S))), (ma9, .inl (E.2.1, 10, .inl (aN Gp))), (ma10, .inl (E.2.1, 10, .inl (aO Tt)))] rfl rfl [.int (bI (inb (nI x) 10))] rfl 4 rfl ?_
  refine G_if_eq_f C dX7_alias_4 23 rfl 7 rfl (inbT hx (by omega)) ?_
  refine G_iload_n C dX7_alias_7 rfl 8 rfl ?_
  refine G_cS C dX7_alias_8 (c_X7_isName l E (nI y) ) wm_X7_55 wt_X7_isName wn_X7 wc_X7_isName rfl rfl ⟨by decide, by decide, rfl⟩ rfl (Nat.le_of_ble_eq_true rfl) [] [0, 1, 2, 3, 4] (wr := [(mo, .inr (7, [.ref ma0, .ref ma1, .ref ma2, .int (nI ns), .ref ma4, .ref ma5, .int (nI mlen), .ref ma7, .int (bI gw), .ref ma9, .ref ma10, .ref ma11, .ref ma12, .int (nI mm), .int (nI pl), .ref ma15, .int (nI wm), .long hh])), (ma0, .inl (E.2.1, 15, .inl (aN Nw))), (ma7, .inl (E.2.1, 10, .inl (aN S))), (ma9, .inl (E.2.1, 10, .inl (aN Gp))), (ma10, .inl (E.2.1, 10, .inl (aO Tt)))]) rfl rfl rfl rfl rfl [0, 1, 2, 3, 4] rfl [(mo, .inr (7, [.ref ma0, .ref ma1, .ref ma2, .int (nI ns), .ref ma4, .ref ma5, .int (nI mlen), .ref ma7, .int (bI gw), .ref ma9, .ref ma10, .ref ma11, .ref ma12, .int (nI mm), .int (nI pl), .ref ma15, .int (nI wm), .long hh])), (ma0, .inl (E.2.1, 15, .inl (aN Nw))), (ma7, .inl (E.2.1, 10, .inl (aN S))), (ma9, .inl (E.2.1, 10, .inl (aN Gp))), (ma10, .inl (E.2.1, 10, .inl (aO Tt)))] rfl rfl [.int (bI (inb (nI y) 10))] rfl 11 rfl ?_
  refine G_if_eq_f C dX7_alias_11 23 rfl 14 rfl (inbT hy (by omega)) ?_
  refine G_iload_n C dX7_alias_14 rfl 15 rfl ?_
  refine G_iconst C dX7_alias_15 (v := nI 0) rfl 16 rfl ?_
  refine G_iconst C dX7_alias_16 (v := nI 1) rfl 17 rfl ?_
  refine G_cS C dX7_alias_17 (c_X7_within l E (nI 1) (nI 0) (nI 1) ) wm_X7_43 wt_X7_within wn_X7 wc_X7_within rfl rfl ⟨by decide, by decide, rfl⟩ rfl (Nat.le_of_ble_eq_true rfl) [] [0, 1, 2, 3, 4] (wr := [(mo, .inr (7, [.ref ma0, .ref ma1, .ref ma2, .int (nI ns), .ref ma4, .ref ma5, .int (nI mlen), .ref ma7, .int (bI gw), .ref ma9, .ref ma10, .ref ma11, .ref ma12, .int (nI mm), .int (nI pl), .ref ma15, .int (nI wm), .long hh])), (ma0, .inl (E.2.1, 15, .inl (aN Nw))), (ma7, .inl (E.2.1, 10, .inl (aN S))), (ma9, .inl (E.2.1, 10, .inl (aN Gp))), (ma10, .inl (E.2.1, 10, .inl (aO Tt)))]) rfl rfl rfl rfl rfl [0, 1, 2, 3, 4] rfl [(mo, .inr (7, [.ref ma0, .ref ma1, .ref ma2, .int (nI ns), .ref ma4, .ref ma5, .int (nI mlen), .ref ma7, .int (bI gw), .ref ma9, .ref ma10, .ref ma11, .ref ma12, .int (nI mm), .int (nI pl), .ref ma15, .int (nI wm), .long hh])), (ma0, .inl (E.2.1, 15, .inl (aN Nw))), (ma7, .inl (E.2.1, 10, .inl (aN S))), (ma9, .inl (E.2.1, 10, .inl (aN Gp))), (ma10, .inl (E.2.1, 10, .inl (aO Tt)))] rfl rfl [.int (bI (decide ((nI 0).toInt ≤ (nI 1).toInt ∧ (nI 1).toInt ≤ (nI 1).toInt)))] rfl 20 rfl ?_
  refine G_if_ne_t C dX7_alias_20 30 rfl (wi_ok (by omega) (by omega)) ?_
  refine G_aload_n C dX7_alias_30 rfl 31 rfl ?_
  refine G_iconst C dX7_alias_31 (v := oI none) rfl 32 rfl ?_
  refine G_cV C dX7_alias_32 (c_X7_laysFine l E mo ma0 ma1 ma2 ma4 ma5 ma7 ma9 ma10 ma11 ma12 ma15 ns mlen mm pl wm gw hh Nw S ln n none (by first | assumption | omega) (fun g h => by cases h)) wm_X7_108 wi_X7_laysFine wsel_X7_laysFine wn_X7 wc_X7_laysFine rfl rfl ⟨by decide, by decide, rfl⟩ rfl (Nat.le_of_ble_eq_true rfl) 7 rfl rfl 0 rfl [0, 1, 2] [3, 4] (wr := [(ma9, .inl (E.2.1, 10, .inl (aN Gp))), (ma10, .inl (E.2.1, 10, .inl (aO Tt)))]) rfl rfl rfl rfl rfl [2, 3, 4, 0, 1] rfl [(mo, .inr (7, [.ref ma0, .ref ma1, .ref ma2, .int (nI ns), .ref ma4, .ref ma5, .int (nI mlen), .ref ma7, .int (bI false), .ref ma9, .ref ma10, .ref ma11, .ref ma12, .int (nI mm), .int (nI pl), .ref ma15, .int (nI wm), .long hh])), (ma0, .inl (E.2.1, 15, .inl (aN Nw))), (ma7, .inl (E.2.1, 10, .inl (aN (fineC ln n none)))), (ma9, .inl (E.2.1, 10, .inl (aN Gp))), (ma10, .inl (E.2.1, 10, .inl (aO Tt)))] rfl rfl [] rfl 35 rfl ?_
  refine G_aload_n C dX7_alias_35 rfl 36 rfl ?_
  refine G_iconst C dX7_alias_36 (v := oI none) rfl 37 rfl ?_
  refine G_cV C dX7_alias_37 (c_X7_laysCoarse l E mo ma0 ma1 ma2 ma4 ma5 ma7 ma9 ma10 ma11 ma12 ma15 ns mlen mm pl wm false hh Nw Gp Tt ln n none (by first | assumption | omega) (fun g h => by cases h)) wm_X7_115 wi_X7_laysCoarse wsel_X7_laysCoarse wn_X7 wc_X7_laysCoarse rfl rfl ⟨by decide, by decide, rfl⟩ rfl (Nat.le_of_ble_eq_true rfl) 7 rfl rfl 0 rfl [0, 1, 3, 4] [2] (wr := [(ma7, .inl (E.2.1, 10, .inl (aN (fineC ln n none))))]) rfl rfl rfl rfl rfl [1, 2, 0, 3, 4] rfl [(mo, .inr (7, [.ref ma0, .ref ma1, .ref ma2, .int (nI ns), .ref ma4, .ref ma5, .int (nI mlen), .ref ma7, .int (bI false), .ref ma9, .ref ma10, .ref ma11, .ref ma12, .int (nI mm), .int (nI pl), .ref ma15, .int (nI wm), .long hh])), (ma0, .inl (E.2.1, 15, .inl (aN Nw))), (ma7, .inl (E.2.1, 10, .inl (aN (fineC ln n none)))), (ma9, .inl (E.2.1, 10, .inl (aN (coarG ln n none)))), (ma10, .inl (E.2.1, 10, .inl (aO (coarT ln n none))))] rfl rfl [] rfl 40 rfl ?_
  refine G_iload_n C dX7_alias_40 rfl 41 rfl ?_
  refine G_if_ne_t C dX7_alias_41 60 rfl (by decide) ?_
  refine G_aload_n C dX7_alias_60 rfl 61 rfl ?_
  refine G_iload_n C dX7_alias_61 rfl 62 rfl ?_
  refine G_cV C dX7_alias_62 (c_X7_coarseOf l E mo ma0 ma1 ma2 ma4 ma5 ma7 ma9 ma10 ma11 ma12 ma15 ns mlen mm pl wm false hh (coarG ln n none) (coarT ln n none) x (cok_cit 21).1 (cok_cit 21).2 (by first | assumption | omega)) wm_X7_118 wi_X7_coarseOf wsel_X7_coarseOf wn_X7 wc_X7_coarseOf rfl rfl ⟨by decide, by decide, rfl⟩ rfl (Nat.le_of_ble_eq_true rfl) 7 rfl rfl 0 rfl [0, 3, 4] [1, 2] (wr := [(ma0, .inl (E.2.1, 15, .inl (aN Nw))), (ma7, .inl (E.2.1, 10, .inl (aN (fineC ln n none))))]) rfl rfl rfl rfl rfl [2, 0, 1, 3, 4] rfl [(mo, .inr (7, [.ref ma0, .ref ma1, .ref ma2, .int (nI ns), .ref ma4, .ref ma5, .int (nI mlen), .ref ma7, .int (bI false), .ref ma9, .ref ma10, .ref ma11, .ref ma12, .int (nI mm), .int (nI pl), .ref ma15, .int (nI wm), .long hh])), (ma0, .inl (E.2.1, 15, .inl (aN Nw))), (ma7, .inl (E.2.1, 10, .inl (aN (fineC ln n none)))), (ma9, .inl (E.2.1, 10, .inl (aN (coarG ln n none)))), (ma10, .inl (E.2.1, 10, .inl (aO (coarT ln n none))))] rfl rfl [.int (nI (cse (coarG ln n none) (coarT ln n none) x))] rfl 65 rfl ?_
  refine G_aload_n C dX7_alias_65 rfl 66 rfl ?_
  refine G_iload_n C dX7_alias_66 rfl 67 rfl ?_
  refine G_cV C dX7_alias_67 (c_X7_coarseOf l E mo ma0 ma1 ma2 ma4 ma5 ma7 ma9 ma10 ma11 ma12 ma15 ns mlen mm pl wm false hh (coarG ln n none) (coarT ln n none) y (cok_cit 21).1 (cok_cit 21).2 (by first | assumption | omega)) wm_X7_118 wi_X7_coarseOf wsel_X7_coarseOf wn_X7 wc_X7_coarseOf rfl rfl ⟨by decide, by decide, rfl⟩ rfl (Nat.le_of_ble_eq_true rfl) 7 rfl rfl 0 rfl [0, 3, 4] [1, 2] (wr := [(ma0, .inl (E.2.1, 15, .inl (aN Nw))), (ma7, .inl (E.2.1, 10, .inl (aN (fineC ln n none))))]) rfl rfl rfl rfl rfl [2, 0, 1, 3, 4] rfl [(mo, .inr (7, [.ref ma0, .ref ma1, .ref ma2, .int (nI ns), .ref ma4, .ref ma5, .int (nI mlen), .ref ma7, .int (bI false), .ref ma9, .ref ma10, .ref ma11, .ref ma12, .int (nI mm), .int (nI pl), .ref ma15, .int (nI wm), .long hh])), (ma0, .inl (E.2.1, 15, .inl (aN Nw))), (ma7, .inl (E.2.1, 10, .inl (aN (fineC ln n none)))), (ma9, .inl (E.2.1, 10, .inl (aN (coarG ln n none)))), (ma10, .inl (E.2.1, 10, .inl (aO (coarT ln n none))))] rfl rfl [.int (nI (cse (coarG ln n none) (coarT ln n none) y)), .int (nI (cse (coarG ln n none) (coarT ln n none) x))] rfl 70 rfl ?_
  refine G_iand C dX7_alias_70 (v := nI ((cse (coarG ln n none) (coarT ln n none) x) &&& (cse (coarG ln n none) (coarT ln n none) y))) (fa_and _ _) 71 rfl ?_
  refine G_istore C dX7_alias_71 (by decide) [(4, .int (nI ((cse (coarG ln n none) (coarT ln n none) x) &&& (cse (coarG ln n none) (coarT ln n none) y)))), (0, .ref mo), (1, .int (nI x)), (2, .int (nI y)), (3, .int (nI 1))] rfl 73 rfl ?_
  refine G_iload C dX7_alias_73 rfl 75 rfl ?_
  refine G_if_eq C dX7_alias_75 82 rfl 78 rfl (n_eq0 (Nat.lt_of_le_of_lt Nat.and_le_left (Nat.lt_trans (mem_lt _ _ 10 (by omega)) (by decide)))) (fun h_1 => ?_) (fun h_1 => ?_)
  · refine G_iconst C dX7_alias_82 (v := nI 0) rfl 83 rfl ?_
    exact G_iret C hr dX7_alias_83 rfl () trivial (bI_rf (by simp [h_1])) rfl
  · refine G_iconst C dX7_alias_78 (v := nI 1) rfl 79 rfl ?_
    refine G_goto C dX7_alias_79 83 rfl ?_
    exact G_iret C hr dX7_alias_83 rfl () trivial (bI_rt (by simp [h_1])) rfl

set_option maxHeartbeats 4000000 in
set_option maxRecDepth 100000 in
theorem m_without_bad (l : Launch) (E : gE) (mo ma0 ma1 ma2 ma4 ma5 ma7 ma9 ma10 ma11 ma12 ma15 ns mlen mm pl wm : Nat) (gw : Bool) (hh : Int64) (Nw : Nat → Nat) (Rf : Nat → Nat) (n : Nat) (va vb vc : Int32) (h0 : Nw 0 = n) (hn : n ≤ 14) (hbad : inb va n = false ∨ inb vb 10 = false ∨ inb vc 2 = false) : FD l E yX7_without cX7_without 5 (some .int) { frames := 4, cells := 0, slots := 0, locals := 96 } [.ref mo, .int va, .int vb, .int vc] [(mo, .inr (7, [.ref ma0, .ref ma1, .ref ma2, .int (nI ns), .ref ma4, .ref ma5, .int (nI mlen), .ref ma7, .int (bI gw), .ref ma9, .ref ma10, .ref ma11, .ref ma12, .int (nI mm), .int (nI pl), .ref ma15, .int (nI wm), .long hh])), (ma0, .inl (E.2.1, 15, .inl (aN Nw))), (ma4, .inl (E.2.1, 3, .inl (aN Rf)))] (some (.int (-2 : Int32))) [(mo, .inr (7, [.ref ma0, .ref ma1, .ref ma2, .int (nI ns), .ref ma4, .ref ma5, .int (nI mlen), .ref ma7, .int (bI gw), .ref ma9, .ref ma10, .ref ma11, .ref ma12, .int (nI mm), .int (nI pl), .ref ma15, .int (nI wm), .long hh])), (ma0, .inl (E.2.1, 15, .inl (aN Nw))), (ma4, .inl (E.2.1, 3, .inl (aN (va_up Rf 0 (Rf 0 + 1)))))] := by
  refine Fn_ofL (own := RX7) (by decide) rfl rfl [(0, .ref mo), (1, .int va), (2, .int vb), (3, .int vc)] rfl ?_
  intro p e s m below meth c A C hr hnm
  refine G_aload_n C dX7_without_0 rfl 1 rfl ?_
  refine G_iload_n C dX7_without_1 rfl 2 rfl ?_
  refine G_cV C dX7_without_2 (c_X7_isLine l E mo ma0 ma1 ma2 ma4 ma5 ma7 ma9 ma10 ma11 ma12 ma15 ns mlen mm pl wm gw hh Nw va n (by first | assumption | omega) (by first | assumption | omega)) wm_X7_62 wi_X7_isLine wsel_X7_isLine wn_X7 wc_X7_isLine rfl rfl ⟨by decide, by decide, rfl⟩ rfl (Nat.le_of_ble_eq_true rfl) 7 rfl rfl 0 rfl [0, 1] [2] (wr := [(ma4, .inl (E.2.1, 3, .inl (aN Rf)))]) rfl rfl rfl rfl rfl [1, 2, 0] rfl [(mo, .inr (7, [.ref ma0, .ref ma1, .ref ma2, .int (nI ns), .ref ma4, .ref ma5, .int (nI mlen), .ref ma7, .int (bI gw), .ref ma9, .ref ma10, .ref ma11, .ref ma12, .int (nI mm), .int (nI pl), .ref ma15, .int (nI wm), .long hh])), (ma0, .inl (E.2.1, 15, .inl (aN Nw))), (ma4, .inl (E.2.1, 3, .inl (aN Rf)))] rfl rfl [.int (bI (inb va n))] rfl 5 rfl ?_
  refine G_if_eq C dX7_without_5 24 rfl 8 rfl (bI_0 _) (fun h_1 => ?_) (fun h_1 => ?_)
  · refine G_aload_n C dX7_without_24 rfl 25 rfl ?_
    refine G_bipush C dX7_without_25 (v := (-2 : Int32)) (by decide) 27 rfl ?_
    refine G_cV C dX7_without_27 (c_X7_counts0 l E mo ma0 ma1 ma2 ma4 ma5 ma7 ma9 ma10 ma11 ma12 ma15 ns mlen mm pl wm gw hh Rf ) wm_X7_51 wi_X7_counts wsel_X7_counts wn_X7 wc_X7_counts rfl rfl ⟨by decide, by decide, rfl⟩ rfl (Nat.le_of_ble_eq_true rfl) 7 rfl rfl 0 rfl [0, 2] [1] (wr := [(ma0, .inl (E.2.1, 15, .inl (aN Nw)))]) rfl rfl rfl rfl rfl [1, 0, 2] rfl [(mo, .inr (7, [.ref ma0, .ref ma1, .ref ma2, .int (nI ns), .ref ma4, .ref ma5, .int (nI mlen), .ref ma7, .int (bI gw), .ref ma9, .ref ma10, .ref ma11, .ref ma12, .int (nI mm), .int (nI pl), .ref ma15, .int (nI wm), .long hh])), (ma0, .inl (E.2.1, 15, .inl (aN Nw))), (ma4, .inl (E.2.1, 3, .inl (aN (va_up Rf 0 (Rf 0 + 1)))))] rfl rfl [.int (-2 : Int32)] rfl 30 rfl ?_
    exact G_iret C hr dX7_without_30 rfl () trivial rfl rfl
  · refine G_iload_n C dX7_without_8 rfl 9 rfl ?_
    refine G_cS C dX7_without_9 (c_X7_isName l E vb ) wm_X7_55 wt_X7_isName wn_X7 wc_X7_isName rfl rfl ⟨by decide, by decide, rfl⟩ rfl (Nat.le_of_ble_eq_true rfl) [] [0, 1, 2] (wr := [(mo, .inr (7, [.ref ma0, .ref ma1, .ref ma2, .int (nI ns), .ref ma4, .ref ma5, .int (nI mlen), .ref ma7, .int (bI gw), .ref ma9, .ref ma10, .ref ma11, .ref ma12, .int (nI mm), .int (nI pl), .ref ma15, .int (nI wm), .long hh])), (ma0, .inl (E.2.1, 15, .inl (aN Nw))), (ma4, .inl (E.2.1, 3, .inl (aN Rf)))]) rfl rfl rfl rfl rfl [0, 1, 2] rfl [(mo, .inr (7, [.ref ma0, .ref ma1, .ref ma2, .int (nI ns), .ref ma4, .ref ma5, .int (nI mlen), .ref ma7, .int (bI gw), .ref ma9, .ref ma10, .ref ma11, .ref ma12, .int (nI mm), .int (nI pl), .ref ma15, .int (nI wm), .long hh])), (ma0, .inl (E.2.1, 15, .inl (aN Nw))), (ma4, .inl (E.2.1, 3, .inl (aN Rf)))] rfl rfl [.int (bI (inb vb 10))] rfl 12 rfl ?_
    refine G_if_eq C dX7_without_12 24 rfl 15 rfl (bI_0 _) (fun h_2 => ?_) (fun h_2 => ?_)
    · refine G_aload_n C dX7_without_24 rfl 25 rfl ?_
      refine G_bipush C dX7_without_25 (v := (-2 : Int32)) (by decide) 27 rfl ?_
      refine G_cV C dX7_without_27 (c_X7_counts0 l E mo ma0 ma1 ma2 ma4 ma5 ma7 ma9 ma10 ma11 ma12 ma15 ns mlen mm pl wm gw hh Rf ) wm_X7_51 wi_X7_counts wsel_X7_counts wn_X7 wc_X7_counts rfl rfl ⟨by decide, by decide, rfl⟩ rfl (Nat.le_of_ble_eq_true rfl) 7 rfl rfl 0 rfl [0, 2] [1] (wr := [(ma0, .inl (E.2.1, 15, .inl (aN Nw)))]) rfl rfl rfl rfl rfl [1, 0, 2] rfl [(mo, .inr (7, [.ref ma0, .ref ma1, .ref ma2, .int (nI ns), .ref ma4, .ref ma5, .int (nI mlen), .ref ma7, .int (bI gw), .ref ma9, .ref ma10, .ref ma11, .ref ma12, .int (nI mm), .int (nI pl), .ref ma15, .int (nI wm), .long hh])), (ma0, .inl (E.2.1, 15, .inl (aN Nw))), (ma4, .inl (E.2.1, 3, .inl (aN (va_up Rf 0 (Rf 0 + 1)))))] rfl rfl [.int (-2 : Int32)] rfl 30 rfl ?_
      exact G_iret C hr dX7_without_30 rfl () trivial rfl rfl
    · refine G_iload_n C dX7_without_15 rfl 16 rfl ?_
      refine G_iconst C dX7_without_16 (v := nI 0) rfl 17 rfl ?_
      refine G_iconst C dX7_without_17 (v := nI 1) rfl 18 rfl ?_
      refine G_cS C dX7_without_18 (c_X7_within l E vc (nI 0) (nI 1) ) wm_X7_43 wt_X7_within wn_X7 wc_X7_within rfl rfl ⟨by decide, by decide, rfl⟩ rfl (Nat.le_of_ble_eq_true rfl) [] [0, 1, 2] (wr := [(mo, .inr (7, [.ref ma0, .ref ma1, .ref ma2, .int (nI ns), .ref ma4, .ref ma5, .int (nI mlen), .ref ma7, .int (bI gw), .ref ma9, .ref ma10, .ref ma11, .ref ma12, .int (nI mm), .int (nI pl), .ref ma15, .int (nI wm), .long hh])), (ma0, .inl (E.2.1, 15, .inl (aN Nw))), (ma4, .inl (E.2.1, 3, .inl (aN Rf)))]) rfl rfl rfl rfl rfl [0, 1, 2] rfl [(mo, .inr (7, [.ref ma0, .ref ma1, .ref ma2, .int (nI ns), .ref ma4, .ref ma5, .int (nI mlen), .ref ma7, .int (bI gw), .ref ma9, .ref ma10, .ref ma11, .ref ma12, .int (nI mm), .int (nI pl), .ref ma15, .int (nI wm), .long hh])), (ma0, .inl (E.2.1, 15, .inl (aN Nw))), (ma4, .inl (E.2.1, 3, .inl (aN Rf)))] rfl rfl [.int (bI (decide ((nI 0).toInt ≤ vc.toInt ∧ vc.toInt ≤ (nI 1).toInt)))] rfl 21 rfl ?_
      refine G_if_ne C dX7_without_21 31 rfl 24 rfl (wi_inb vc (n := 2) rfl (by omega)) (fun h_3 => ?_) (fun h_3 => ?_)
      · exact absurd hbad (by simp [h_1, h_2, h_3])
      · refine G_aload_n C dX7_without_24 rfl 25 rfl ?_
        refine G_bipush C dX7_without_25 (v := (-2 : Int32)) (by decide) 27 rfl ?_
        refine G_cV C dX7_without_27 (c_X7_counts0 l E mo ma0 ma1 ma2 ma4 ma5 ma7 ma9 ma10 ma11 ma12 ma15 ns mlen mm pl wm gw hh Rf ) wm_X7_51 wi_X7_counts wsel_X7_counts wn_X7 wc_X7_counts rfl rfl ⟨by decide, by decide, rfl⟩ rfl (Nat.le_of_ble_eq_true rfl) 7 rfl rfl 0 rfl [0, 2] [1] (wr := [(ma0, .inl (E.2.1, 15, .inl (aN Nw)))]) rfl rfl rfl rfl rfl [1, 0, 2] rfl [(mo, .inr (7, [.ref ma0, .ref ma1, .ref ma2, .int (nI ns), .ref ma4, .ref ma5, .int (nI mlen), .ref ma7, .int (bI gw), .ref ma9, .ref ma10, .ref ma11, .ref ma12, .int (nI mm), .int (nI pl), .ref ma15, .int (nI wm), .long hh])), (ma0, .inl (E.2.1, 15, .inl (aN Nw))), (ma4, .inl (E.2.1, 3, .inl (aN (va_up Rf 0 (Rf 0 + 1)))))] rfl rfl [.int (-2 : Int32)] rfl 30 rfl ?_
        exact G_iret C hr dX7_without_30 rfl () trivial rfl rfl

set_option maxHeartbeats 4000000 in
set_option maxRecDepth 100000 in
theorem m_without_0 (l : Launch) (E : gE) (mo ma0 ma1 ma2 ma4 ma5 ma7 ma9 ma10 ma11 ma12 ma15 ns mlen mm pl wm : Nat) (gw : Bool) (hh : Int64) (Nw : Nat → Nat) (S : Nat → Nat) (Gp : Nat → Nat) (Tt : Nat → Option Nat) (ln : Nat → Nat) (n i x : Nat) (hok : mok n ln Nw) (hi : i < n) (hx : x < 10) : FD l E yX7_without cX7_without 5 (some .int) { frames := 4, cells := 0, slots := 0, locals := 96 } [.ref mo, .int (nI i), .int (nI x), .int (nI 0)] [(mo, .inr (7, [.ref ma0, .ref ma1, .ref ma2, .int (nI ns), .ref ma4, .ref ma5, .int (nI mlen), .ref ma7, .int (bI gw), .ref ma9, .ref ma10, .ref ma11, .ref ma12, .int (nI mm), .int (nI pl), .ref ma15, .int (nI wm), .long hh])), (ma0, .inl (E.2.1, 15, .inl (aN Nw))), (ma7, .inl (E.2.1, 10, .inl (aN S))), (ma9, .inl (E.2.1, 10, .inl (aN Gp))), (ma10, .inl (E.2.1, 10, .inl (aO Tt)))] (some (.int (nI (pcn (fineC ln n none x)) - nI (pcn (fineC ln n (some i) x))))) [(mo, .inr (7, [.ref ma0, .ref ma1, .ref ma2, .int (nI ns), .ref ma4, .ref ma5, .int (nI mlen), .ref ma7, .int (bI false), .ref ma9, .ref ma10, .ref ma11, .ref ma12, .int (nI mm), .int (nI pl), .ref ma15, .int (nI wm), .long hh])), (ma0, .inl (E.2.1, 15, .inl (aN Nw))), (ma7, .inl (E.2.1, 10, .inl (aN (fineC ln n (some i))))), (ma9, .inl (E.2.1, 10, .inl (aN (coarG ln n (some i))))), (ma10, .inl (E.2.1, 10, .inl (aO (coarT ln n (some i)))))] := by
  refine Fn_ofL (own := RX7) (by decide) rfl rfl [(0, .ref mo), (1, .int (nI i)), (2, .int (nI x)), (3, .int (nI 0))] rfl ?_
  intro p e s m below meth c A C hr hnm
  have h14 : n ≤ 14 := hok.n
  refine G_aload_n C dX7_without_0 rfl 1 rfl ?_
  refine G_iload_n C dX7_without_1 rfl 2 rfl ?_
  refine G_cV C dX7_without_2 (c_X7_isLine l E mo ma0 ma1 ma2 ma4 ma5 ma7 ma9 ma10 ma11 ma12 ma15 ns mlen mm pl wm gw hh Nw (nI i) n hok.z hok.n) wm_X7_62 wi_X7_isLine wsel_X7_isLine wn_X7 wc_X7_isLine rfl rfl ⟨by decide, by decide, rfl⟩ rfl (Nat.le_of_ble_eq_true rfl) 7 rfl rfl 0 rfl [0, 1] [2, 3, 4] (wr := [(ma7, .inl (E.2.1, 10, .inl (aN S))), (ma9, .inl (E.2.1, 10, .inl (aN Gp))), (ma10, .inl (E.2.1, 10, .inl (aO Tt)))]) rfl rfl rfl rfl rfl [3, 4, 0, 1, 2] rfl [(mo, .inr (7, [.ref ma0, .ref ma1, .ref ma2, .int (nI ns), .ref ma4, .ref ma5, .int (nI mlen), .ref ma7, .int (bI gw), .ref ma9, .ref ma10, .ref ma11, .ref ma12, .int (nI mm), .int (nI pl), .ref ma15, .int (nI wm), .long hh])), (ma0, .inl (E.2.1, 15, .inl (aN Nw))), (ma7, .inl (E.2.1, 10, .inl (aN S))), (ma9, .inl (E.2.1, 10, .inl (aN Gp))), (ma10, .inl (E.2.1, 10, .inl (aO Tt)))] rfl rfl [.int (bI (inb (nI i) n))] rfl 5 rfl ?_
  refine G_if_eq_f C dX7_without_5 24 rfl 8 rfl (inbT hi (by omega)) ?_
  refine G_iload_n C dX7_without_8 rfl 9 rfl ?_
  refine G_cS C dX7_without_9 (c_X7_isName l E (nI x) ) wm_X7_55 wt_X7_isName wn_X7 wc_X7_isName rfl rfl ⟨by decide, by decide, rfl⟩ rfl (Nat.le_of_ble_eq_true rfl) [] [0, 1, 2, 3, 4] (wr := [(mo, .inr (7, [.ref ma0, .ref ma1, .ref ma2, .int (nI ns), .ref ma4, .ref ma5, .int (nI mlen), .ref ma7, .int (bI gw), .ref ma9, .ref ma10, .ref ma11, .ref ma12, .int (nI mm), .int (nI pl), .ref ma15, .int (nI wm), .long hh])), (ma0, .inl (E.2.1, 15, .inl (aN Nw))), (ma7, .inl (E.2.1, 10, .inl (aN S))), (ma9, .inl (E.2.1, 10, .inl (aN Gp))), (ma10, .inl (E.2.1, 10, .inl (aO Tt)))]) rfl rfl rfl rfl rfl [0, 1, 2, 3, 4] rfl [(mo, .inr (7, [.ref ma0, .ref ma1, .ref ma2, .int (nI ns), .ref ma4, .ref ma5, .int (nI mlen), .ref ma7, .int (bI gw), .ref ma9, .ref ma10, .ref ma11, .ref ma12, .int (nI mm), .int (nI pl), .ref ma15, .int (nI wm), .long hh])), (ma0, .inl (E.2.1, 15, .inl (aN Nw))), (ma7, .inl (E.2.1, 10, .inl (aN S))), (ma9, .inl (E.2.1, 10, .inl (aN Gp))), (ma10, .inl (E.2.1, 10, .inl (aO Tt)))] rfl rfl [.int (bI (inb (nI x) 10))] rfl 12 rfl ?_
  refine G_if_eq_f C dX7_without_12 24 rfl 15 rfl (inbT hx (by omega)) ?_
  refine G_iload_n C dX7_without_15 rfl 16 rfl ?_
  refine G_iconst C dX7_without_16 (v := nI 0) rfl 17 rfl ?_
  refine G_iconst C dX7_without_17 (v := nI 1) rfl 18 rfl ?_
  refine G_cS C dX7_without_18 (c_X7_within l E (nI 0) (nI 0) (nI 1) ) wm_X7_43 wt_X7_within wn_X7 wc_X7_within rfl rfl ⟨by decide, by decide, rfl⟩ rfl (Nat.le_of_ble_eq_true rfl) [] [0, 1, 2, 3, 4] (wr := [(mo, .inr (7, [.ref ma0, .ref ma1, .ref ma2, .int (nI ns), .ref ma4, .ref ma5, .int (nI mlen), .ref ma7, .int (bI gw), .ref ma9, .ref ma10, .ref ma11, .ref ma12, .int (nI mm), .int (nI pl), .ref ma15, .int (nI wm), .long hh])), (ma0, .inl (E.2.1, 15, .inl (aN Nw))), (ma7, .inl (E.2.1, 10, .inl (aN S))), (ma9, .inl (E.2.1, 10, .inl (aN Gp))), (ma10, .inl (E.2.1, 10, .inl (aO Tt)))]) rfl rfl rfl rfl rfl [0, 1, 2, 3, 4] rfl [(mo, .inr (7, [.ref ma0, .ref ma1, .ref ma2, .int (nI ns), .ref ma4, .ref ma5, .int (nI mlen), .ref ma7, .int (bI gw), .ref ma9, .ref ma10, .ref ma11, .ref ma12, .int (nI mm), .int (nI pl), .ref ma15, .int (nI wm), .long hh])), (ma0, .inl (E.2.1, 15, .inl (aN Nw))), (ma7, .inl (E.2.1, 10, .inl (aN S))), (ma9, .inl (E.2.1, 10, .inl (aN Gp))), (ma10, .inl (E.2.1, 10, .inl (aO Tt)))] rfl rfl [.int (bI (decide ((nI 0).toInt ≤ (nI 0).toInt ∧ (nI 0).toInt ≤ (nI 1).toInt)))] rfl 21 rfl ?_
  refine G_if_ne_t C dX7_without_21 31 rfl (wi_ok (by omega) (by omega)) ?_
  refine G_aload_n C dX7_without_31 rfl 32 rfl ?_
  refine G_iconst C dX7_without_32 (v := oI none) rfl 33 rfl ?_
  refine G_cV C dX7_without_33 (c_X7_laysFine l E mo ma0 ma1 ma2 ma4 ma5 ma7 ma9 ma10 ma11 ma12 ma15 ns mlen mm pl wm gw hh Nw S ln n none (by first | assumption | omega) (fun g h => by cases h)) wm_X7_108 wi_X7_laysFine wsel_X7_laysFine wn_X7 wc_X7_laysFine rfl rfl ⟨by decide, by decide, rfl⟩ rfl (Nat.le_of_ble_eq_true rfl) 7 rfl rfl 0 rfl [0, 1, 2] [3, 4] (wr := [(ma9, .inl (E.2.1, 10, .inl (aN Gp))), (ma10, .inl (E.2.1, 10, .inl (aO Tt)))]) rfl rfl rfl rfl rfl [2, 3, 4, 0, 1] rfl [(mo, .inr (7, [.ref ma0, .ref ma1, .ref ma2, .int (nI ns), .ref ma4, .ref ma5, .int (nI mlen), .ref ma7, .int (bI false), .ref ma9, .ref ma10, .ref ma11, .ref ma12, .int (nI mm), .int (nI pl), .ref ma15, .int (nI wm), .long hh])), (ma0, .inl (E.2.1, 15, .inl (aN Nw))), (ma7, .inl (E.2.1, 10, .inl (aN (fineC ln n none)))), (ma9, .inl (E.2.1, 10, .inl (aN Gp))), (ma10, .inl (E.2.1, 10, .inl (aO Tt)))] rfl rfl [] rfl 36 rfl ?_
  refine G_aload_n C dX7_without_36 rfl 37 rfl ?_
  refine G_iconst C dX7_without_37 (v := oI none) rfl 38 rfl ?_
  refine G_cV C dX7_without_38 (c_X7_laysCoarse l E mo ma0 ma1 ma2 ma4 ma5 ma7 ma9 ma10 ma11 ma12 ma15 ns mlen mm pl wm false hh Nw Gp Tt ln n none (by first | assumption | omega) (fun g h => by cases h)) wm_X7_115 wi_X7_laysCoarse wsel_X7_laysCoarse wn_X7 wc_X7_laysCoarse rfl rfl ⟨by decide, by decide, rfl⟩ rfl (Nat.le_of_ble_eq_true rfl) 7 rfl rfl 0 rfl [0, 1, 3, 4] [2] (wr := [(ma7, .inl (E.2.1, 10, .inl (aN (fineC ln n none))))]) rfl rfl rfl rfl rfl [1, 2, 0, 3, 4] rfl [(mo, .inr (7, [.ref ma0, .ref ma1, .ref ma2, .int (nI ns), .ref ma4, .ref ma5, .int (nI mlen), .ref ma7, .int (bI false), .ref ma9, .ref ma10, .ref ma11, .ref ma12, .int (nI mm), .int (nI pl), .ref ma15, .int (nI wm), .long hh])), (ma0, .inl (E.2.1, 15, .inl (aN Nw))), (ma7, .inl (E.2.1, 10, .inl (aN (fineC ln n none)))), (ma9, .inl (E.2.1, 10, .inl (aN (coarG ln n none)))), (ma10, .inl (E.2.1, 10, .inl (aO (coarT ln n none))))] rfl rfl [] rfl 41 rfl ?_
  refine G_iload_n C dX7_without_41 rfl 42 rfl ?_
  refine G_if_ne_f C dX7_without_42 57 rfl 45 rfl (by decide) ?_
  refine G_aload_n C dX7_without_45 rfl 46 rfl ?_
  refine G_getf C dX7_without_46 wF_X7 wf_X7_25 (f := 7) (by decide) (ci := 7) rfl 0 rfl rfl 49 rfl ?_
  refine G_iload_n C dX7_without_49 rfl 50 rfl ?_
  refine G_ialdN C dX7_without_50 2 rfl rfl (by omega) 51 rfl ?_
  refine G_cS C dX7_without_51 (c_X7_ones l E ((fineC ln n none) x) (sok_fineC _ hx)) wm_X7_121 wt_X7_ones wn_X7 wc_X7_ones rfl rfl ⟨by decide, by decide, rfl⟩ rfl (Nat.le_of_ble_eq_true rfl) [] [0, 1, 2, 3, 4] (wr := [(mo, .inr (7, [.ref ma0, .ref ma1, .ref ma2, .int (nI ns), .ref ma4, .ref ma5, .int (nI mlen), .ref ma7, .int (bI false), .ref ma9, .ref ma10, .ref ma11, .ref ma12, .int (nI mm), .int (nI pl), .ref ma15, .int (nI wm), .long hh])), (ma0, .inl (E.2.1, 15, .inl (aN Nw))), (ma7, .inl (E.2.1, 10, .inl (aN (fineC ln n none)))), (ma9, .inl (E.2.1, 10, .inl (aN (coarG ln n none)))), (ma10, .inl (E.2.1, 10, .inl (aO (coarT ln n none))))]) rfl rfl rfl rfl rfl [0, 1, 2, 3, 4] rfl [(mo, .inr (7, [.ref ma0, .ref ma1, .ref ma2, .int (nI ns), .ref ma4, .ref ma5, .int (nI mlen), .ref ma7, .int (bI false), .ref ma9, .ref ma10, .ref ma11, .ref ma12, .int (nI mm), .int (nI pl), .ref ma15, .int (nI wm), .long hh])), (ma0, .inl (E.2.1, 15, .inl (aN Nw))), (ma7, .inl (E.2.1, 10, .inl (aN (fineC ln n none)))), (ma9, .inl (E.2.1, 10, .inl (aN (coarG ln n none)))), (ma10, .inl (E.2.1, 10, .inl (aO (coarT ln n none))))] rfl rfl [.int (nI (pcn ((fineC ln n none) x)))] rfl 54 rfl ?_
  refine G_goto C dX7_without_54 65 rfl ?_
  refine G_istore C dX7_without_65 (by decide) [(4, .int (nI (pcn ((fineC ln n none) x)))), (0, .ref mo), (1, .int (nI i)), (2, .int (nI x)), (3, .int (nI 0))] rfl 67 rfl ?_
  refine G_aload_n C dX7_without_67 rfl 68 rfl ?_
  refine G_iload_n C dX7_without_68 rfl 69 rfl ?_
  refine G_cV C dX7_without_69 (c_X7_laysFine l E mo ma0 ma1 ma2 ma4 ma5 ma7 ma9 ma10 ma11 ma12 ma15 ns mlen mm pl wm false hh Nw (fineC ln n none) ln n (some i) (by first | assumption | omega) (fun g h => by cases h; omega)) wm_X7_108 wi_X7_laysFine wsel_X7_laysFine wn_X7 wc_X7_laysFine rfl rfl ⟨by decide, by decide, rfl⟩ rfl (Nat.le_of_ble_eq_true rfl) 7 rfl rfl 0 rfl [0, 1, 2] [3, 4] (wr := [(ma9, .inl (E.2.1, 10, .inl (aN (coarG ln n none)))), (ma10, .inl (E.2.1, 10, .inl (aO (coarT ln n none))))]) rfl rfl rfl rfl rfl [2, 3, 4, 0, 1] rfl [(mo, .inr (7, [.ref ma0, .ref ma1, .ref ma2, .int (nI ns), .ref ma4, .ref ma5, .int (nI mlen), .ref ma7, .int (bI false), .ref ma9, .ref ma10, .ref ma11, .ref ma12, .int (nI mm), .int (nI pl), .ref ma15, .int (nI wm), .long hh])), (ma0, .inl (E.2.1, 15, .inl (aN Nw))), (ma7, .inl (E.2.1, 10, .inl (aN (fineC ln n (some i))))), (ma9, .inl (E.2.1, 10, .inl (aN (coarG ln n none)))), (ma10, .inl (E.2.1, 10, .inl (aO (coarT ln n none))))] rfl rfl [] rfl 72 rfl ?_
  refine G_aload_n C dX7_without_72 rfl 73 rfl ?_
  refine G_iload_n C dX7_without_73 rfl 74 rfl ?_
  refine G_cV C dX7_without_74 (c_X7_laysCoarse l E mo ma0 ma1 ma2 ma4 ma5 ma7 ma9 ma10 ma11 ma12 ma15 ns mlen mm pl wm false hh Nw (coarG ln n none) (coarT ln n none) ln n (some i) (by first | assumption | omega) (fun g h => by cases h; omega)) wm_X7_115 wi_X7_laysCoarse wsel_X7_laysCoarse wn_X7 wc_X7_laysCoarse rfl rfl ⟨by decide, by decide, rfl⟩ rfl (Nat.le_of_ble_eq_true rfl) 7 rfl rfl 0 rfl [0, 1, 3, 4] [2] (wr := [(ma7, .inl (E.2.1, 10, .inl (aN (fineC ln n (some i)))))]) rfl rfl rfl rfl rfl [1, 2, 0, 3, 4] rfl [(mo, .inr (7, [.ref ma0, .ref ma1, .ref ma2, .int (nI ns), .ref ma4, .ref ma5, .int (nI mlen), .ref ma7, .int (bI false), .ref ma9, .ref ma10, .ref ma11, .ref ma12, .int (nI mm), .int (nI pl), .ref ma15, .int (nI wm), .long hh])), (ma0, .inl (E.2.1, 15, .inl (aN Nw))), (ma7, .inl (E.2.1, 10, .inl (aN (fineC ln n (some i))))), (ma9, .inl (E.2.1, 10, .inl (aN (coarG ln n (some i))))), (ma10, .inl (E.2.1, 10, .inl (aO (coarT ln n (some i)))))] rfl rfl [] rfl 77 rfl ?_
  refine G_iload C dX7_without_77 rfl 79 rfl ?_
  refine G_iload_n C dX7_without_79 rfl 80 rfl ?_
  refine G_if_ne_f C dX7_without_80 95 rfl 83 rfl (by decide) ?_
  refine G_aload_n C dX7_without_83 rfl 84 rfl ?_
  refine G_getf C dX7_without_84 wF_X7 wf_X7_25 (f := 7) (by decide) (ci := 7) rfl 0 rfl rfl 87 rfl ?_
  refine G_iload_n C dX7_without_87 rfl 88 rfl ?_
  refine G_ialdN C dX7_without_88 2 rfl rfl (by omega) 89 rfl ?_
  refine G_cS C dX7_without_89 (c_X7_ones l E ((fineC ln n (some i)) x) (sok_fineC _ hx)) wm_X7_121 wt_X7_ones wn_X7 wc_X7_ones rfl rfl ⟨by decide, by decide, rfl⟩ rfl (Nat.le_of_ble_eq_true rfl) [] [0, 1, 2, 3, 4] (wr := [(mo, .inr (7, [.ref ma0, .ref ma1, .ref ma2, .int (nI ns), .ref ma4, .ref ma5, .int (nI mlen), .ref ma7, .int (bI false), .ref ma9, .ref ma10, .ref ma11, .ref ma12, .int (nI mm), .int (nI pl), .ref ma15, .int (nI wm), .long hh])), (ma0, .inl (E.2.1, 15, .inl (aN Nw))), (ma7, .inl (E.2.1, 10, .inl (aN (fineC ln n (some i))))), (ma9, .inl (E.2.1, 10, .inl (aN (coarG ln n (some i))))), (ma10, .inl (E.2.1, 10, .inl (aO (coarT ln n (some i)))))]) rfl rfl rfl rfl rfl [0, 1, 2, 3, 4] rfl [(mo, .inr (7, [.ref ma0, .ref ma1, .ref ma2, .int (nI ns), .ref ma4, .ref ma5, .int (nI mlen), .ref ma7, .int (bI false), .ref ma9, .ref ma10, .ref ma11, .ref ma12, .int (nI mm), .int (nI pl), .ref ma15, .int (nI wm), .long hh])), (ma0, .inl (E.2.1, 15, .inl (aN Nw))), (ma7, .inl (E.2.1, 10, .inl (aN (fineC ln n (some i))))), (ma9, .inl (E.2.1, 10, .inl (aN (coarG ln n (some i))))), (ma10, .inl (E.2.1, 10, .inl (aO (coarT ln n (some i)))))] rfl rfl [.int (nI (pcn ((fineC ln n (some i)) x))), .int (nI (pcn ((fineC ln n none) x)))] rfl 92 rfl ?_
  refine G_goto C dX7_without_92 103 rfl ?_
  refine G_isub C dX7_without_103 (v := nI (pcn ((fineC ln n none) x)) - nI (pcn ((fineC ln n (some i)) x))) rfl 104 rfl ?_
  exact G_iret C hr dX7_without_104 rfl () trivial rfl rfl

set_option maxHeartbeats 4000000 in
set_option maxRecDepth 100000 in
theorem m_without_1 (l : Launch) (E : gE) (mo ma0 ma1 ma2 ma4 ma5 ma7 ma9 ma10 ma11 ma12 ma15 ns mlen mm pl wm : Nat) (gw : Bool) (hh : Int64) (Nw : Nat → Nat) (S : Nat → Nat) (Gp : Nat → Nat) (Tt : Nat → Option Nat) (ln : Nat → Nat) (n i x : Nat) (hok : mok n ln Nw) (hi : i < n) (hx : x < 10) : FD l E yX7_without cX7_without 5 (some .int) { frames := 4, cells := 0, slots := 0, locals := 96 } [.ref mo, .int (nI i), .int (nI x), .int (nI 1)] [(mo, .inr (7, [.ref ma0, .ref ma1, .ref ma2, .int (nI ns), .ref ma4, .ref ma5, .int (nI mlen), .ref ma7, .int (bI gw), .ref ma9, .ref ma10, .ref ma11, .ref ma12, .int (nI mm), .int (nI pl), .ref ma15, .int (nI wm), .long hh])), (ma0, .inl (E.2.1, 15, .inl (aN Nw))), (ma7, .inl (E.2.1, 10, .inl (aN S))), (ma9, .inl (E.2.1, 10, .inl (aN Gp))), (ma10, .inl (E.2.1, 10, .inl (aO Tt)))] (some (.int (nI (pcn (cse (coarG ln n none) (coarT ln n none) x)) - nI (pcn (cse (coarG ln n (some i)) (coarT ln n (some i)) x))))) [(mo, .inr (7, [.ref ma0, .ref ma1, .ref ma2, .int (nI ns), .ref ma4, .ref ma5, .int (nI mlen), .ref ma7, .int (bI false), .ref ma9, .ref ma10, .ref ma11, .ref ma12, .int (nI mm), .int (nI pl), .ref ma15, .int (nI wm), .long hh])), (ma0, .inl (E.2.1, 15, .inl (aN Nw))), (ma7, .inl (E.2.1, 10, .inl (aN (fineC ln n (some i))))), (ma9, .inl (E.2.1, 10, .inl (aN (coarG ln n (some i))))), (ma10, .inl (E.2.1, 10, .inl (aO (coarT ln n (some i)))))] := by
  refine Fn_ofL (own := RX7) (by decide) rfl rfl [(0, .ref mo), (1, .int (nI i)), (2, .int (nI x)), (3, .int (nI 1))] rfl ?_
  intro p e s m below meth c A C hr hnm
  have h14 : n ≤ 14 := hok.n
  refine G_aload_n C dX7_without_0 rfl 1 rfl ?_
  refine G_iload_n C dX7_without_1 rfl 2 rfl ?_
  refine G_cV C dX7_without_2 (c_X7_isLine l E mo ma0 ma1 ma2 ma4 ma5 ma7 ma9 ma10 ma11 ma12 ma15 ns mlen mm pl wm gw hh Nw (nI i) n hok.z hok.n) wm_X7_62 wi_X7_isLine wsel_X7_isLine wn_X7 wc_X7_isLine rfl rfl ⟨by decide, by decide, rfl⟩ rfl (Nat.le_of_ble_eq_true rfl) 7 rfl rfl 0 rfl [0, 1] [2, 3, 4] (wr := [(ma7, .inl (E.2.1, 10, .inl (aN S))), (ma9, .inl (E.2.1, 10, .inl (aN Gp))), (ma10, .inl (E.2.1, 10, .inl (aO Tt)))]) rfl rfl rfl rfl rfl [3, 4, 0, 1, 2] rfl [(mo, .inr (7, [.ref ma0, .ref ma1, .ref ma2, .int (nI ns), .ref ma4, .ref ma5, .int (nI mlen), .ref ma7, .int (bI gw), .ref ma9, .ref ma10, .ref ma11, .ref ma12, .int (nI mm), .int (nI pl), .ref ma15, .int (nI wm), .long hh])), (ma0, .inl (E.2.1, 15, .inl (aN Nw))), (ma7, .inl (E.2.1, 10, .inl (aN S))), (ma9, .inl (E.2.1, 10, .inl (aN Gp))), (ma10, .inl (E.2.1, 10, .inl (aO Tt)))] rfl rfl [.int (bI (inb (nI i) n))] rfl 5 rfl ?_
  refine G_if_eq_f C dX7_without_5 24 rfl 8 rfl (inbT hi (by omega)) ?_
  refine G_iload_n C dX7_without_8 rfl 9 rfl ?_
  refine G_cS C dX7_without_9 (c_X7_isName l E (nI x) ) wm_X7_55 wt_X7_isName wn_X7 wc_X7_isName rfl rfl ⟨by decide, by decide, rfl⟩ rfl (Nat.le_of_ble_eq_true rfl) [] [0, 1, 2, 3, 4] (wr := [(mo, .inr (7, [.ref ma0, .ref ma1, .ref ma2, .int (nI ns), .ref ma4, .ref ma5, .int (nI mlen), .ref ma7, .int (bI gw), .ref ma9, .ref ma10, .ref ma11, .ref ma12, .int (nI mm), .int (nI pl), .ref ma15, .int (nI wm), .long hh])), (ma0, .inl (E.2.1, 15, .inl (aN Nw))), (ma7, .inl (E.2.1, 10, .inl (aN S))), (ma9, .inl (E.2.1, 10, .inl (aN Gp))), (ma10, .inl (E.2.1, 10, .inl (aO Tt)))]) rfl rfl rfl rfl rfl [0, 1, 2, 3, 4] rfl [(mo, .inr (7, [.ref ma0, .ref ma1, .ref ma2, .int (nI ns), .ref ma4, .ref ma5, .int (nI mlen), .ref ma7, .int (bI gw), .ref ma9, .ref ma10, .ref ma11, .ref ma12, .int (nI mm), .int (nI pl), .ref ma15, .int (nI wm), .long hh])), (ma0, .inl (E.2.1, 15, .inl (aN Nw))), (ma7, .inl (E.2.1, 10, .inl (aN S))), (ma9, .inl (E.2.1, 10, .inl (aN Gp))), (ma10, .inl (E.2.1, 10, .inl (aO Tt)))] rfl rfl [.int (bI (inb (nI x) 10))] rfl 12 rfl ?_
  refine G_if_eq_f C dX7_without_12 24 rfl 15 rfl (inbT hx (by omega)) ?_
  refine G_iload_n C dX7_without_15 rfl 16 rfl ?_
  refine G_iconst C dX7_without_16 (v := nI 0) rfl 17 rfl ?_
  refine G_iconst C dX7_without_17 (v := nI 1) rfl 18 rfl ?_
  refine G_cS C dX7_without_18 (c_X7_within l E (nI 1) (nI 0) (nI 1) ) wm_X7_43 wt_X7_within wn_X7 wc_X7_within rfl rfl ⟨by decide, by decide, rfl⟩ rfl (Nat.le_of_ble_eq_true rfl) [] [0, 1, 2, 3, 4] (wr := [(mo, .inr (7, [.ref ma0, .ref ma1, .ref ma2, .int (nI ns), .ref ma4, .ref ma5, .int (nI mlen), .ref ma7, .int (bI gw), .ref ma9, .ref ma10, .ref ma11, .ref ma12, .int (nI mm), .int (nI pl), .ref ma15, .int (nI wm), .long hh])), (ma0, .inl (E.2.1, 15, .inl (aN Nw))), (ma7, .inl (E.2.1, 10, .inl (aN S))), (ma9, .inl (E.2.1, 10, .inl (aN Gp))), (ma10, .inl (E.2.1, 10, .inl (aO Tt)))]) rfl rfl rfl rfl rfl [0, 1, 2, 3, 4] rfl [(mo, .inr (7, [.ref ma0, .ref ma1, .ref ma2, .int (nI ns), .ref ma4, .ref ma5, .int (nI mlen), .ref ma7, .int (bI gw), .ref ma9, .ref ma10, .ref ma11, .ref ma12, .int (nI mm), .int (nI pl), .ref ma15, .int (nI wm), .long hh])), (ma0, .inl (E.2.1, 15, .inl (aN Nw))), (ma7, .inl (E.2.1, 10, .inl (aN S))), (ma9, .inl (E.2.1, 10, .inl (aN Gp))), (ma10, .inl (E.2.1, 10, .inl (aO Tt)))] rfl rfl [.int (bI (decide ((nI 0).toInt ≤ (nI 1).toInt ∧ (nI 1).toInt ≤ (nI 1).toInt)))] rfl 21 rfl ?_
  refine G_if_ne_t C dX7_without_21 31 rfl (wi_ok (by omega) (by omega)) ?_
  refine G_aload_n C dX7_without_31 rfl 32 rfl ?_
  refine G_iconst C dX7_without_32 (v := oI none) rfl 33 rfl ?_
  refine G_cV C dX7_without_33 (c_X7_laysFine l E mo ma0 ma1 ma2 ma4 ma5 ma7 ma9 ma10 ma11 ma12 ma15 ns mlen mm pl wm gw hh Nw S ln n none (by first | assumption | omega) (fun g h => by cases h)) wm_X7_108 wi_X7_laysFine wsel_X7_laysFine wn_X7 wc_X7_laysFine rfl rfl ⟨by decide, by decide, rfl⟩ rfl (Nat.le_of_ble_eq_true rfl) 7 rfl rfl 0 rfl [0, 1, 2] [3, 4] (wr := [(ma9, .inl (E.2.1, 10, .inl (aN Gp))), (ma10, .inl (E.2.1, 10, .inl (aO Tt)))]) rfl rfl rfl rfl rfl [2, 3, 4, 0, 1] rfl [(mo, .inr (7, [.ref ma0, .ref ma1, .ref ma2, .int (nI ns), .ref ma4, .ref ma5, .int (nI mlen), .ref ma7, .int (bI false), .ref ma9, .ref ma10, .ref ma11, .ref ma12, .int (nI mm), .int (nI pl), .ref ma15, .int (nI wm), .long hh])), (ma0, .inl (E.2.1, 15, .inl (aN Nw))), (ma7, .inl (E.2.1, 10, .inl (aN (fineC ln n none)))), (ma9, .inl (E.2.1, 10, .inl (aN Gp))), (ma10, .inl (E.2.1, 10, .inl (aO Tt)))] rfl rfl [] rfl 36 rfl ?_
  refine G_aload_n C dX7_without_36 rfl 37 rfl ?_
  refine G_iconst C dX7_without_37 (v := oI none) rfl 38 rfl ?_
  refine G_cV C dX7_without_38 (c_X7_laysCoarse l E mo ma0 ma1 ma2 ma4 ma5 ma7 ma9 ma10 ma11 ma12 ma15 ns mlen mm pl wm false hh Nw Gp Tt ln n none (by first | assumption | omega) (fun g h => by cases h)) wm_X7_115 wi_X7_laysCoarse wsel_X7_laysCoarse wn_X7 wc_X7_laysCoarse rfl rfl ⟨by decide, by decide, rfl⟩ rfl (Nat.le_of_ble_eq_true rfl) 7 rfl rfl 0 rfl [0, 1, 3, 4] [2] (wr := [(ma7, .inl (E.2.1, 10, .inl (aN (fineC ln n none))))]) rfl rfl rfl rfl rfl [1, 2, 0, 3, 4] rfl [(mo, .inr (7, [.ref ma0, .ref ma1, .ref ma2, .int (nI ns), .ref ma4, .ref ma5, .int (nI mlen), .ref ma7, .int (bI false), .ref ma9, .ref ma10, .ref ma11, .ref ma12, .int (nI mm), .int (nI pl), .ref ma15, .int (nI wm), .long hh])), (ma0, .inl (E.2.1, 15, .inl (aN Nw))), (ma7, .inl (E.2.1, 10, .inl (aN (fineC ln n none)))), (ma9, .inl (E.2.1, 10, .inl (aN (coarG ln n none)))), (ma10, .inl (E.2.1, 10, .inl (aO (coarT ln n none))))] rfl rfl [] rfl 41 rfl ?_
  refine G_iload_n C dX7_without_41 rfl 42 rfl ?_
  refine G_if_ne_t C dX7_without_42 57 rfl (by decide) ?_
  refine G_aload_n C dX7_without_57 rfl 58 rfl ?_
  refine G_iload_n C dX7_without_58 rfl 59 rfl ?_
  refine G_cV C dX7_without_59 (c_X7_coarseOf l E mo ma0 ma1 ma2 ma4 ma5 ma7 ma9 ma10 ma11 ma12 ma15 ns mlen mm pl wm false hh (coarG ln n none) (coarT ln n none) x (cok_cit 21).1 (cok_cit 21).2 (by first | assumption | omega)) wm_X7_118 wi_X7_coarseOf wsel_X7_coarseOf wn_X7 wc_X7_coarseOf rfl rfl ⟨by decide, by decide, rfl⟩ rfl (Nat.le_of_ble_eq_true rfl) 7 rfl rfl 0 rfl [0, 3, 4] [1, 2] (wr := [(ma0, .inl (E.2.1, 15, .inl (aN Nw))), (ma7, .inl (E.2.1, 10, .inl (aN (fineC ln n none))))]) rfl rfl rfl rfl rfl [2, 0, 1, 3, 4] rfl [(mo, .inr (7, [.ref ma0, .ref ma1, .ref ma2, .int (nI ns), .ref ma4, .ref ma5, .int (nI mlen), .ref ma7, .int (bI false), .ref ma9, .ref ma10, .ref ma11, .ref ma12, .int (nI mm), .int (nI pl), .ref ma15, .int (nI wm), .long hh])), (ma0, .inl (E.2.1, 15, .inl (aN Nw))), (ma7, .inl (E.2.1, 10, .inl (aN (fineC ln n none)))), (ma9, .inl (E.2.1, 10, .inl (aN (coarG ln n none)))), (ma10, .inl (E.2.1, 10, .inl (aO (coarT ln n none))))] rfl rfl [.int (nI (cse (coarG ln n none) (coarT ln n none) x))] rfl 62 rfl ?_
  refine G_cS C dX7_without_62 (c_X7_ones l E (cse (coarG ln n none) (coarT ln n none) x) (mem_lt _ _ 10 (by omega))) wm_X7_121 wt_X7_ones wn_X7 wc_X7_ones rfl rfl ⟨by decide, by decide, rfl⟩ rfl (Nat.le_of_ble_eq_true rfl) [] [0, 1, 2, 3, 4] (wr := [(mo, .inr (7, [.ref ma0, .ref ma1, .ref ma2, .int (nI ns), .ref ma4, .ref ma5, .int (nI mlen), .ref ma7, .int (bI false), .ref ma9, .ref ma10, .ref ma11, .ref ma12, .int (nI mm), .int (nI pl), .ref ma15, .int (nI wm), .long hh])), (ma0, .inl (E.2.1, 15, .inl (aN Nw))), (ma7, .inl (E.2.1, 10, .inl (aN (fineC ln n none)))), (ma9, .inl (E.2.1, 10, .inl (aN (coarG ln n none)))), (ma10, .inl (E.2.1, 10, .inl (aO (coarT ln n none))))]) rfl rfl rfl rfl rfl [0, 1, 2, 3, 4] rfl [(mo, .inr (7, [.ref ma0, .ref ma1, .ref ma2, .int (nI ns), .ref ma4, .ref ma5, .int (nI mlen), .ref ma7, .int (bI false), .ref ma9, .ref ma10, .ref ma11, .ref ma12, .int (nI mm), .int (nI pl), .ref ma15, .int (nI wm), .long hh])), (ma0, .inl (E.2.1, 15, .inl (aN Nw))), (ma7, .inl (E.2.1, 10, .inl (aN (fineC ln n none)))), (ma9, .inl (E.2.1, 10, .inl (aN (coarG ln n none)))), (ma10, .inl (E.2.1, 10, .inl (aO (coarT ln n none))))] rfl rfl [.int (nI (pcn (cse (coarG ln n none) (coarT ln n none) x)))] rfl 65 rfl ?_
  refine G_istore C dX7_without_65 (by decide) [(4, .int (nI (pcn (cse (coarG ln n none) (coarT ln n none) x)))), (0, .ref mo), (1, .int (nI i)), (2, .int (nI x)), (3, .int (nI 1))] rfl 67 rfl ?_
  refine G_aload_n C dX7_without_67 rfl 68 rfl ?_
  refine G_iload_n C dX7_without_68 rfl 69 rfl ?_
  refine G_cV C dX7_without_69 (c_X7_laysFine l E mo ma0 ma1 ma2 ma4 ma5 ma7 ma9 ma10 ma11 ma12 ma15 ns mlen mm pl wm false hh Nw (fineC ln n none) ln n (some i) (by first | assumption | omega) (fun g h => by cases h; omega)) wm_X7_108 wi_X7_laysFine wsel_X7_laysFine wn_X7 wc_X7_laysFine rfl rfl ⟨by decide, by decide, rfl⟩ rfl (Nat.le_of_ble_eq_true rfl) 7 rfl rfl 0 rfl [0, 1, 2] [3, 4] (wr := [(ma9, .inl (E.2.1, 10, .inl (aN (coarG ln n none)))), (ma10, .inl (E.2.1, 10, .inl (aO (coarT ln n none))))]) rfl rfl rfl rfl rfl [2, 3, 4, 0, 1] rfl [(mo, .inr (7, [.ref ma0, .ref ma1, .ref ma2, .int (nI ns), .ref ma4, .ref ma5, .int (nI mlen), .ref ma7, .int (bI false), .ref ma9, .ref ma10, .ref ma11, .ref ma12, .int (nI mm), .int (nI pl), .ref ma15, .int (nI wm), .long hh])), (ma0, .inl (E.2.1, 15, .inl (aN Nw))), (ma7, .inl (E.2.1, 10, .inl (aN (fineC ln n (some i))))), (ma9, .inl (E.2.1, 10, .inl (aN (coarG ln n none)))), (ma10, .inl (E.2.1, 10, .inl (aO (coarT ln n none))))] rfl rfl [] rfl 72 rfl ?_
  refine G_aload_n C dX7_without_72 rfl 73 rfl ?_
  refine G_iload_n C dX7_without_73 rfl 74 rfl ?_
  refine G_cV C dX7_without_74 (c_X7_laysCoarse l E mo ma0 ma1 ma2 ma4 ma5 ma7 ma9 ma10 ma11 ma12 ma15 ns mlen mm pl wm false hh Nw (coarG ln n none) (coarT ln n none) ln n (some i) (by first | assumption | omega) (fun g h => by cases h; omega)) wm_X7_115 wi_X7_laysCoarse wsel_X7_laysCoarse wn_X7 wc_X7_laysCoarse rfl rfl ⟨by decide, by decide, rfl⟩ rfl (Nat.le_of_ble_eq_true rfl) 7 rfl rfl 0 rfl [0, 1, 3, 4] [2] (wr := [(ma7, .inl (E.2.1, 10, .inl (aN (fineC ln n (some i)))))]) rfl rfl rfl rfl rfl [1, 2, 0, 3, 4] rfl [(mo, .inr (7, [.ref ma0, .ref ma1, .ref ma2, .int (nI ns), .ref ma4, .ref ma5, .int (nI mlen), .ref ma7, .int (bI false), .ref ma9, .ref ma10, .ref ma11, .ref ma12, .int (nI mm), .int (nI pl), .ref ma15, .int (nI wm), .long hh])), (ma0, .inl (E.2.1, 15, .inl (aN Nw))), (ma7, .inl (E.2.1, 10, .inl (aN (fineC ln n (some i))))), (ma9, .inl (E.2.1, 10, .inl (aN (coarG ln n (some i))))), (ma10, .inl (E.2.1, 10, .inl (aO (coarT ln n (some i)))))] rfl rfl [] rfl 77 rfl ?_
  refine G_iload C dX7_without_77 rfl 79 rfl ?_
  refine G_iload_n C dX7_without_79 rfl 80 rfl ?_
  refine G_if_ne_t C dX7_without_80 95 rfl (by decide) ?_
  refine G_aload_n C dX7_without_95 rfl 96 rfl ?_
  refine G_iload_n C dX7_without_96 rfl 97 rfl ?_
  refine G_cV C dX7_without_97 (c_X7_coarseOf l E mo ma0 ma1 ma2 ma4 ma5 ma7 ma9 ma10 ma11 ma12 ma15 ns mlen mm pl wm false hh (coarG ln n (some i)) (coarT ln n (some i)) x (cok_cit 21).1 (cok_cit 21).2 (by first | assumption | omega)) wm_X7_118 wi_X7_coarseOf wsel_X7_coarseOf wn_X7 wc_X7_coarseOf rfl rfl ⟨by decide, by decide, rfl⟩ rfl (Nat.le_of_ble_eq_true rfl) 7 rfl rfl 0 rfl [0, 3, 4] [1, 2] (wr := [(ma0, .inl (E.2.1, 15, .inl (aN Nw))), (ma7, .inl (E.2.1, 10, .inl (aN (fineC ln n (some i)))))]) rfl rfl rfl rfl rfl [2, 0, 1, 3, 4] rfl [(mo, .inr (7, [.ref ma0, .ref ma1, .ref ma2, .int (nI ns), .ref ma4, .ref ma5, .int (nI mlen), .ref ma7, .int (bI false), .ref ma9, .ref ma10, .ref ma11, .ref ma12, .int (nI mm), .int (nI pl), .ref ma15, .int (nI wm), .long hh])), (ma0, .inl (E.2.1, 15, .inl (aN Nw))), (ma7, .inl (E.2.1, 10, .inl (aN (fineC ln n (some i))))), (ma9, .inl (E.2.1, 10, .inl (aN (coarG ln n (some i))))), (ma10, .inl (E.2.1, 10, .inl (aO (coarT ln n (some i)))))] rfl rfl [.int (nI (cse (coarG ln n (some i)) (coarT ln n (some i)) x)), .int (nI (pcn (cse (coarG ln n none) (coarT ln n none) x)))] rfl 100 rfl ?_
  refine G_cS C dX7_without_100 (c_X7_ones l E (cse (coarG ln n (some i)) (coarT ln n (some i)) x) (mem_lt _ _ 10 (by omega))) wm_X7_121 wt_X7_ones wn_X7 wc_X7_ones rfl rfl ⟨by decide, by decide, rfl⟩ rfl (Nat.le_of_ble_eq_true rfl) [] [0, 1, 2, 3, 4] (wr := [(mo, .inr (7, [.ref ma0, .ref ma1, .ref ma2, .int (nI ns), .ref ma4, .ref ma5, .int (nI mlen), .ref ma7, .int (bI false), .ref ma9, .ref ma10, .ref ma11, .ref ma12, .int (nI mm), .int (nI pl), .ref ma15, .int (nI wm), .long hh])), (ma0, .inl (E.2.1, 15, .inl (aN Nw))), (ma7, .inl (E.2.1, 10, .inl (aN (fineC ln n (some i))))), (ma9, .inl (E.2.1, 10, .inl (aN (coarG ln n (some i))))), (ma10, .inl (E.2.1, 10, .inl (aO (coarT ln n (some i)))))]) rfl rfl rfl rfl rfl [0, 1, 2, 3, 4] rfl [(mo, .inr (7, [.ref ma0, .ref ma1, .ref ma2, .int (nI ns), .ref ma4, .ref ma5, .int (nI mlen), .ref ma7, .int (bI false), .ref ma9, .ref ma10, .ref ma11, .ref ma12, .int (nI mm), .int (nI pl), .ref ma15, .int (nI wm), .long hh])), (ma0, .inl (E.2.1, 15, .inl (aN Nw))), (ma7, .inl (E.2.1, 10, .inl (aN (fineC ln n (some i))))), (ma9, .inl (E.2.1, 10, .inl (aN (coarG ln n (some i))))), (ma10, .inl (E.2.1, 10, .inl (aO (coarT ln n (some i)))))] rfl rfl [.int (nI (pcn (cse (coarG ln n (some i)) (coarT ln n (some i)) x))), .int (nI (pcn (cse (coarG ln n none) (coarT ln n none) x)))] rfl 103 rfl ?_
  refine G_isub C dX7_without_103 (v := nI (pcn (cse (coarG ln n none) (coarT ln n none) x)) - nI (pcn (cse (coarG ln n (some i)) (coarT ln n (some i)) x))) rfl 104 rfl ?_
  exact G_iret C hr dX7_without_104 rfl () trivial rfl rfl
