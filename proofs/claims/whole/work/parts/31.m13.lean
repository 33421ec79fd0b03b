set_option maxHeartbeats 4000000 in
set_option maxRecDepth 100000 in
theorem c_X7_gets (l : Launch) (E : gE) (mo ma0 ma1 ma2 ma4 ma5 ma7 ma9 ma10 ma11 ma12 ma15 ns mlen mm pl wm : Nat) (gw : Bool) (hh : Int64) (S : Nat → Nat) (x b : Nat) (hx : x < 10) (hb : b < 1024) (hS : S x < 1024) : FD l E yX7_gets cX7_gets 3 none { frames := 0, cells := 0, slots := 0, locals := 0 } [.ref mo, .int (nI x), .int (nI b)] [(mo, .inr (7, [.ref ma0, .ref ma1, .ref ma2, .int (nI ns), .ref ma4, .ref ma5, .int (nI mlen), .ref ma7, .int (bI gw), .ref ma9, .ref ma10, .ref ma11, .ref ma12, .int (nI mm), .int (nI pl), .ref ma15, .int (nI wm), .long hh])), (ma7, .inl (E.2.1, 10, .inl (aN S)))] none [(mo, .inr (7, [.ref ma0, .ref ma1, .ref ma2, .int (nI ns), .ref ma4, .ref ma5, .int (nI mlen), .ref ma7, .int (bI (gw || grw (S x) b)), .ref ma9, .ref ma10, .ref ma11, .ref ma12, .int (nI mm), .int (nI pl), .ref ma15, .int (nI wm), .long hh])), (ma7, .inl (E.2.1, 10, .inl (aN (va_up S x (S x ||| b)))))] := by
  refine Fn_ofL (own := RX7) (by decide) rfl rfl [(0, .ref mo), (1, .int (nI x)), (2, .int (nI b))] rfl ?_
  intro p e s m below meth c A C hr hnm
  refine G_aload_n C dX7_gets_0 rfl 1 rfl ?_
  refine G_aload_n C dX7_gets_1 rfl 2 rfl ?_
  refine G_getf C dX7_gets_2 wF_X7 wf_X7_65 (f := 8) (by decide) (ci := 7) rfl 0 rfl rfl 5 rfl ?_
  refine G_if_ne C dX7_gets_5 21 rfl 8 rfl (bI_0 _) (fun h_1 => ?_) (fun h_1 => ?_)
  · refine G_iconst C dX7_gets_21 (v := nI 1) rfl 22 rfl ?_
    refine G_goto C dX7_gets_22 26 rfl ?_
    refine G_putf C dX7_gets_26 wF_X7 wf_X7_65 (f := 8) (by decide) (ci := 7) rfl tyX7_ok nmX7 rfl 0 rfl (by decide) (by decide) (Nat.le_of_ble_eq_true rfl) [(mo, .inr (7, [.ref ma0, .ref ma1, .ref ma2, .int (nI ns), .ref ma4, .ref ma5, .int (nI mlen), .ref ma7, .int (nI 1), .ref ma9, .ref ma10, .ref ma11, .ref ma12, .int (nI mm), .int (nI pl), .ref ma15, .int (nI wm), .long hh])), (ma7, .inl (E.2.1, 10, .inl (aN S)))] rfl 29 rfl ?_
    refine G_aload_n C dX7_gets_29 rfl 30 rfl ?_
    refine G_getf C dX7_gets_30 wF_X7 wf_X7_25 (f := 7) (by decide) (ci := 7) rfl 0 rfl rfl 33 rfl ?_
    refine G_iload_n C dX7_gets_33 rfl 34 rfl ?_
    refine G_dup2 C dX7_gets_34 rfl rfl 35 rfl ?_
    refine G_ialdN C dX7_gets_35 1 rfl rfl (by omega) 36 rfl ?_
    refine G_iload_n C dX7_gets_36 rfl 37 rfl ?_
    refine G_ior C dX7_gets_37 (v := nI ((S x) ||| b)) (fa_or _ _) 38 rfl ?_
    refine G_iastN C dX7_gets_38 1 rfl rfl (x := (S x) ||| b) (by omega) [(mo, .inr (7, [.ref ma0, .ref ma1, .ref ma2, .int (nI ns), .ref ma4, .ref ma5, .int (nI mlen), .ref ma7, .int (nI 1), .ref ma9, .ref ma10, .ref ma11, .ref ma12, .int (nI mm), .int (nI pl), .ref ma15, .int (nI wm), .long hh])), (ma7, .inl (E.2.1, 10, .inl (aN (va_up S x ((S x) ||| b)))))] rfl 39 rfl ?_
    exact G_vret C hr dX7_gets_39 () trivial rfl (by simp [h_1, bI])
  · refine G_iload_n C dX7_gets_8 rfl 9 rfl ?_
    refine G_aload_n C dX7_gets_9 rfl 10 rfl ?_
    refine G_getf C dX7_gets_10 wF_X7 wf_X7_25 (f := 7) (by decide) (ci := 7) rfl 0 rfl rfl 13 rfl ?_
    refine G_iload_n C dX7_gets_13 rfl 14 rfl ?_
    refine G_ialdN C dX7_gets_14 1 rfl rfl (by omega) 15 rfl ?_
    refine G_iconst C dX7_gets_15 (v := oI none) rfl 16 rfl ?_
    refine G_ixor C dX7_gets_16 (v := (nI (S x)) ^^^ (oI none)) rfl 17 rfl ?_
    refine G_iand C dX7_gets_17 (v := (nI b) &&& ((nI (S x)) ^^^ (oI none))) rfl 18 rfl ?_
    refine G_if_eq C dX7_gets_18 25 rfl 21 rfl (grw_iff hS hb) (fun h_2 => ?_) (fun h_2 => ?_)
    · refine G_iconst C dX7_gets_25 (v := nI 0) rfl 26 rfl ?_
      refine G_putf C dX7_gets_26 wF_X7 wf_X7_65 (f := 8) (by decide) (ci := 7) rfl tyX7_ok nmX7 rfl 0 rfl (by decide) (by decide) (Nat.le_of_ble_eq_true rfl) [(mo, .inr (7, [.ref ma0, .ref ma1, .ref ma2, .int (nI ns), .ref ma4, .ref ma5, .int (nI mlen), .ref ma7, .int (nI 0), .ref ma9, .ref ma10, .ref ma11, .ref ma12, .int (nI mm), .int (nI pl), .ref ma15, .int (nI wm), .long hh])), (ma7, .inl (E.2.1, 10, .inl (aN S)))] rfl 29 rfl ?_
      refine G_aload_n C dX7_gets_29 rfl 30 rfl ?_
      refine G_getf C dX7_gets_30 wF_X7 wf_X7_25 (f := 7) (by decide) (ci := 7) rfl 0 rfl rfl 33 rfl ?_
      refine G_iload_n C dX7_gets_33 rfl 34 rfl ?_
      refine G_dup2 C dX7_gets_34 rfl rfl 35 rfl ?_
      refine G_ialdN C dX7_gets_35 1 rfl rfl (by omega) 36 rfl ?_
      refine G_iload_n C dX7_gets_36 rfl 37 rfl ?_
      refine G_ior C dX7_gets_37 (v := nI ((S x) ||| b)) (fa_or _ _) 38 rfl ?_
      refine G_iastN C dX7_gets_38 1 rfl rfl (x := (S x) ||| b) (by omega) [(mo, .inr (7, [.ref ma0, .ref ma1, .ref ma2, .int (nI ns), .ref ma4, .ref ma5, .int (nI mlen), .ref ma7, .int (nI 0), .ref ma9, .ref ma10, .ref ma11, .ref ma12, .int (nI mm), .int (nI pl), .ref ma15, .int (nI wm), .long hh])), (ma7, .inl (E.2.1, 10, .inl (aN (va_up S x ((S x) ||| b)))))] rfl 39 rfl ?_
      exact G_vret C hr dX7_gets_39 () trivial rfl (by simp [h_1, grw, h_2, bI])
    · refine G_iconst C dX7_gets_21 (v := nI 1) rfl 22 rfl ?_
      refine G_goto C dX7_gets_22 26 rfl ?_
      refine G_putf C dX7_gets_26 wF_X7 wf_X7_65 (f := 8) (by decide) (ci := 7) rfl tyX7_ok nmX7 rfl 0 rfl (by decide) (by decide) (Nat.le_of_ble_eq_true rfl) [(mo, .inr (7, [.ref ma0, .ref ma1, .ref ma2, .int (nI ns), .ref ma4, .ref ma5, .int (nI mlen), .ref ma7, .int (nI 1), .ref ma9, .ref ma10, .ref ma11, .ref ma12, .int (nI mm), .int (nI pl), .ref ma15, .int (nI wm), .long hh])), (ma7, .inl (E.2.1, 10, .inl (aN S)))] rfl 29 rfl ?_
      refine G_aload_n C dX7_gets_29 rfl 30 rfl ?_
      refine G_getf C dX7_gets_30 wF_X7 wf_X7_25 (f := 7) (by decide) (ci := 7) rfl 0 rfl rfl 33 rfl ?_
      refine G_iload_n C dX7_gets_33 rfl 34 rfl ?_
      refine G_dup2 C dX7_gets_34 rfl rfl 35 rfl ?_
      refine G_ialdN C dX7_gets_35 1 rfl rfl (by omega) 36 rfl ?_
      refine G_iload_n C dX7_gets_36 rfl 37 rfl ?_
      refine G_ior C dX7_gets_37 (v := nI ((S x) ||| b)) (fa_or _ _) 38 rfl ?_
      refine G_iastN C dX7_gets_38 1 rfl rfl (x := (S x) ||| b) (by omega) [(mo, .inr (7, [.ref ma0, .ref ma1, .ref ma2, .int (nI ns), .ref ma4, .ref ma5, .int (nI mlen), .ref ma7, .int (nI 1), .ref ma9, .ref ma10, .ref ma11, .ref ma12, .int (nI mm), .int (nI pl), .ref ma15, .int (nI wm), .long hh])), (ma7, .inl (E.2.1, 10, .inl (aN (va_up S x ((S x) ||| b)))))] rfl 39 rfl ?_
      exact G_vret C hr dX7_gets_39 () trivial rfl (by simp [h_1, grw, h_2, bI])

set_option maxHeartbeats 4000000 in
set_option maxRecDepth 100000 in
theorem c_X7_growsBy (l : Launch) (E : gE) (mo ma0 ma1 ma2 ma4 ma5 ma7 ma9 ma10 ma11 ma12 ma15 ns mlen mm pl wm : Nat) (gw : Bool) (hh : Int64) (Nw : Nat → Nat) (S : Nat → Nat) (i v : Nat) (hi : i < 14) (hc : Nw (1 + i) = v) (hv : v < 400) (hS : sok S) : FD l E yX7_growsBy cX7_growsBy 5 none { frames := 1, cells := 0, slots := 0, locals := 22 } [.ref mo, .int (nI i)] [(mo, .inr (7, [.ref ma0, .ref ma1, .ref ma2, .int (nI ns), .ref ma4, .ref ma5, .int (nI mlen), .ref ma7, .int (bI gw), .ref ma9, .ref ma10, .ref ma11, .ref ma12, .int (nI mm), .int (nI pl), .ref ma15, .int (nI wm), .long hh])), (ma0, .inl (E.2.1, 15, .inl (aN Nw))), (ma7, .inl (E.2.1, 10, .inl (aN S)))] none [(mo, .inr (7, [.ref ma0, .ref ma1, .ref ma2, .int (nI ns), .ref ma4, .ref ma5, .int (nI mlen), .ref ma7, .int (bI ((mgb v (S, gw)).2)), .ref ma9, .ref ma10, .ref ma11, .ref ma12, .int (nI mm), .int (nI pl), .ref ma15, .int (nI wm), .long hh])), (ma0, .inl (E.2.1, 15, .inl (aN Nw))), (ma7, .inl (E.2.1, 10, .inl (aN ((mgb v (S, gw)).1))))] := by
  refine Fn_ofL (own := RX7) (by decide) rfl rfl [(0, .ref mo), (1, .int (nI i))] rfl ?_
  intro p e s m below meth c A C hr hnm
  refine G_aload_n C dX7_growsBy_0 rfl 1 rfl ?_
  refine G_iload_n C dX7_growsBy_1 rfl 2 rfl ?_
  refine G_cV C dX7_growsBy_2 (c_X7_xOf l E mo ma0 ma1 ma2 ma4 ma5 ma7 ma9 ma10 ma11 ma12 ma15 ns mlen mm pl wm gw hh Nw i v (by first | assumption | omega) (by first | assumption | omega) (by first | assumption | omega)) wm_X7_69 wi_X7_xOf wsel_X7_xOf wn_X7 wc_X7_xOf rfl rfl ⟨by decide, by decide, rfl⟩ rfl (Nat.le_of_ble_eq_true rfl) 7 rfl rfl 0 rfl [0, 1] [2] (wr := [(ma7, .inl (E.2.1, 10, .inl (aN S)))]) rfl rfl rfl rfl rfl [1, 2, 0] rfl [(mo, .inr (7, [.ref ma0, .ref ma1, .ref ma2, .int (nI ns), .ref ma4, .ref ma5, .int (nI mlen), .ref ma7, .int (bI gw), .ref ma9, .ref ma10, .ref ma11, .ref ma12, .int (nI mm), .int (nI pl), .ref ma15, .int (nI wm), .long hh])), (ma0, .inl (E.2.1, 15, .inl (aN Nw))), (ma7, .inl (E.2.1, 10, .inl (aN S)))] rfl rfl [.int (nI (v / 10 % 10))] rfl 5 rfl ?_
  refine G_istore_n C dX7_growsBy_5 (by decide) [(2, .int (nI (v / 10 % 10))), (0, .ref mo), (1, .int (nI i))] rfl 6 rfl ?_
  refine G_aload_n C dX7_growsBy_6 rfl 7 rfl ?_
  refine G_iload_n C dX7_growsBy_7 rfl 8 rfl ?_
  refine G_cV C dX7_growsBy_8 (c_X7_yOf l E mo ma0 ma1 ma2 ma4 ma5 ma7 ma9 ma10 ma11 ma12 ma15 ns mlen mm pl wm gw hh Nw i v (by first | assumption | omega) (by first | assumption | omega) (by first | assumption | omega)) wm_X7_72 wi_X7_yOf wsel_X7_yOf wn_X7 wc_X7_yOf rfl rfl ⟨by decide, by decide, rfl⟩ rfl (Nat.le_of_ble_eq_true rfl) 7 rfl rfl 0 rfl [0, 1] [2] (wr := [(ma7, .inl (E.2.1, 10, .inl (aN S)))]) rfl rfl rfl rfl rfl [1, 2, 0] rfl [(mo, .inr (7, [.ref ma0, .ref ma1, .ref ma2, .int (nI ns), .ref ma4, .ref ma5, .int (nI mlen), .ref ma7, .int (bI gw), .ref ma9, .ref ma10, .ref ma11, .ref ma12, .int (nI mm), .int (nI pl), .ref ma15, .int (nI wm), .long hh])), (ma0, .inl (E.2.1, 15, .inl (aN Nw))), (ma7, .inl (E.2.1, 10, .inl (aN S)))] rfl rfl [.int (nI (v % 10))] rfl 11 rfl ?_
  refine G_istore_n C dX7_growsBy_11 (by decide) [(3, .int (nI (v % 10))), (2, .int (nI (v / 10 % 10))), (0, .ref mo), (1, .int (nI i))] rfl 12 rfl ?_
  refine G_iconst C dX7_growsBy_12 (v := nI 0) rfl 13 rfl ?_
  refine G_istore C dX7_growsBy_13 (by decide) [(4, .int (nI 0)), (3, .int (nI (v % 10))), (2, .int (nI (v / 10 % 10))), (0, .ref mo), (1, .int (nI i))] rfl 15 rfl ?_
  refine G_sel [0, 2, 1, 3, 4] [(4, .int (nI 0)), (2, .int (nI (v / 10 % 10))), (3, .int (nI (v % 10))), (0, .ref mo), (1, .int (nI i))] rfl ?_
  refine G_while (X := Nat) (Wf := fun z => [(mo, .inr (7, [.ref ma0, .ref ma1, .ref ma2, .int (nI ns), .ref ma4, .ref ma5, .int (nI mlen), .ref ma7, .int (bI ((mgz v (S, gw) z).2)), .ref ma9, .ref ma10, .ref ma11, .ref ma12, .int (nI mm), .int (nI pl), .ref ma15, .int (nI wm), .long hh])), (ma0, .inl (E.2.1, 15, .inl (aN Nw))), (ma7, .inl (E.2.1, 10, .inl (aN ((mgz v (S, gw) z).1))))]) (Lf := fun z => [(4, .int (nI z)), (2, .int (nI (v / 10 % 10))), (3, .int (nI (v % 10))), (0, .ref mo), (1, .int (nI i))]) (Sf := fun _ => []) (fun z => z ≤ 10) (fun z => 10 - z) (fun z hz ih => ?_) 0 (by omega)
  refine G_iload C dX7_growsBy_15 rfl 17 rfl ?_
  refine G_bipush C dX7_growsBy_17 (v := nI 10) (by decide) 19 rfl ?_
  refine G_icmp_ge C dX7_growsBy_19 98 rfl 22 rfl (nI_leI (by omega) (by omega)) (fun h_1 => ?_) (fun h_1 => ?_)
  · refine G_eq (ws' := [(mo, .inr (7, [.ref ma0, .ref ma1, .ref ma2, .int (nI ns), .ref ma4, .ref ma5, .int (nI mlen), .ref ma7, .int (bI ((mgz v (S, gw) 10).2)), .ref ma9, .ref ma10, .ref ma11, .ref ma12, .int (nI mm), .int (nI pl), .ref ma15, .int (nI wm), .long hh])), (ma0, .inl (E.2.1, 15, .inl (aN Nw))), (ma7, .inl (E.2.1, 10, .inl (aN ((mgz v (S, gw) 10).1))))]) (by rw [show z = 10 by omega]) rfl rfl ?_
    rcases (show v / 100 = 0 ∨ v / 100 = 1 ∨ (v / 100 = 2 ∨ v / 100 = 3) by omega) with hs | hs | hs
    · refine G_aload_n C dX7_growsBy_98 rfl 99 rfl ?_
      refine G_iload_n C dX7_growsBy_99 rfl 100 rfl ?_
      refine G_cV C dX7_growsBy_100 (c_X7_sortOf l E mo ma0 ma1 ma2 ma4 ma5 ma7 ma9 ma10 ma11 ma12 ma15 ns mlen mm pl wm ((mgz v (S, gw) 10).2) hh Nw i v (by first | assumption | omega) (by first | assumption | omega) (by first | assumption | omega)) wm_X7_75 wi_X7_sortOf wsel_X7_sortOf wn_X7 wc_X7_sortOf rfl rfl ⟨by decide, by decide, rfl⟩ rfl (Nat.le_of_ble_eq_true rfl) 7 rfl rfl 0 rfl [0, 1] [2] (wr := [(ma7, .inl (E.2.1, 10, .inl (aN ((mgz v (S, gw) 10).1))))]) rfl rfl rfl rfl rfl [1, 2, 0] rfl [(mo, .inr (7, [.ref ma0, .ref ma1, .ref ma2, .int (nI ns), .ref ma4, .ref ma5, .int (nI mlen), .ref ma7, .int (bI ((mgz v (S, gw) 10).2)), .ref ma9, .ref ma10, .ref ma11, .ref ma12, .int (nI mm), .int (nI pl), .ref ma15, .int (nI wm), .long hh])), (ma0, .inl (E.2.1, 15, .inl (aN Nw))), (ma7, .inl (E.2.1, 10, .inl (aN ((mgz v (S, gw) 10).1))))] rfl rfl [.int (nI (v / 100))] rfl 103 rfl ?_
      refine G_iconst C dX7_growsBy_103 (v := nI 2) rfl 104 rfl ?_
      refine G_icmp_ge_f C dX7_growsBy_104 132 rfl 107 rfl (by rw [nI_leI (by omega) (by omega)]; omega) ?_
      refine G_aload_n C dX7_growsBy_107 rfl 108 rfl ?_
      refine G_iload_n C dX7_growsBy_108 rfl 109 rfl ?_
      refine G_aload_n C dX7_growsBy_109 rfl 110 rfl ?_
      refine G_iload_n C dX7_growsBy_110 rfl 111 rfl ?_
      refine G_cV C dX7_growsBy_111 (c_X7_sortOf l E mo ma0 ma1 ma2 ma4 ma5 ma7 ma9 ma10 ma11 ma12 ma15 ns mlen mm pl wm ((mgz v (S, gw) 10).2) hh Nw i v (by first | assumption | omega) (by first | assumption | omega) (by first | assumption | omega)) wm_X7_75 wi_X7_sortOf wsel_X7_sortOf wn_X7 wc_X7_sortOf rfl rfl ⟨by decide, by decide, rfl⟩ rfl (Nat.le_of_ble_eq_true rfl) 7 rfl rfl 0 rfl [0, 1] [2] (wr := [(ma7, .inl (E.2.1, 10, .inl (aN ((mgz v (S, gw) 10).1))))]) rfl rfl rfl rfl rfl [1, 2, 0] rfl [(mo, .inr (7, [.ref ma0, .ref ma1, .ref ma2, .int (nI ns), .ref ma4, .ref ma5, .int (nI mlen), .ref ma7, .int (bI ((mgz v (S, gw) 10).2)), .ref ma9, .ref ma10, .ref ma11, .ref ma12, .int (nI mm), .int (nI pl), .ref ma15, .int (nI wm), .long hh])), (ma0, .inl (E.2.1, 15, .inl (aN Nw))), (ma7, .inl (E.2.1, 10, .inl (aN ((mgz v (S, gw) 10).1))))] rfl rfl [.int (nI (v / 100)), .int (nI (v / 10 % 10)), .ref mo] rfl 114 rfl ?_
      refine G_if_ne_f C dX7_growsBy_114 123 rfl 117 rfl (by rw [n_eq0 (by omega)]; omega) ?_
      refine G_iconst C dX7_growsBy_117 (v := nI 1) rfl 118 rfl ?_
      refine G_iload_n C dX7_growsBy_118 rfl 119 rfl ?_
      refine G_ishl C dX7_growsBy_119 (v := nI (2 ^ (v % 10))) (nI_bit _ (by omega)) 120 rfl ?_
      refine G_goto C dX7_growsBy_120 129 rfl ?_
      refine G_cV C dX7_growsBy_129 (c_X7_gets l E mo ma0 ma1 ma2 ma4 ma5 ma7 ma9 ma10 ma11 ma12 ma15 ns mlen mm pl wm ((mgz v (S, gw) 10).2) hh ((mgz v (S, gw) 10).1) (v / 10 % 10) (2 ^ (v % 10)) (by omega) (pow_lt10 (by omega)) (sok_mgz hS 10 (by omega) _ (by omega))) wm_X7_82 wi_X7_gets wsel_X7_gets wn_X7 wc_X7_gets rfl rfl ⟨by decide, by decide, rfl⟩ rfl (Nat.le_of_ble_eq_true rfl) 7 rfl rfl 0 rfl [0, 2] [1] (wr := [(ma0, .inl (E.2.1, 15, .inl (aN Nw)))]) rfl rfl rfl rfl rfl [1, 0, 2] rfl [(mo, .inr (7, [.ref ma0, .ref ma1, .ref ma2, .int (nI ns), .ref ma4, .ref ma5, .int (nI mlen), .ref ma7, .int (bI (((mgz v (S, gw) 10).2) || grw (((mgz v (S, gw) 10).1) (v / 10 % 10)) (2 ^ (v % 10)))), .ref ma9, .ref ma10, .ref ma11, .ref ma12, .int (nI mm), .int (nI pl), .ref ma15, .int (nI wm), .long hh])), (ma0, .inl (E.2.1, 15, .inl (aN Nw))), (ma7, .inl (E.2.1, 10, .inl (aN (va_up ((mgz v (S, gw) 10).1) (v / 10 % 10) (((mgz v (S, gw) 10).1) (v / 10 % 10) ||| (2 ^ (v % 10)))))))] rfl rfl [] rfl 132 rfl ?_
      exact G_vret C hr dX7_growsBy_132 () trivial rfl (by simp only [mgb]; rw [if_pos hs]; rfl)
    · refine G_aload_n C dX7_growsBy_98 rfl 99 rfl ?_
      refine G_iload_n C dX7_growsBy_99 rfl 100 rfl ?_
      refine G_cV C dX7_growsBy_100 (c_X7_sortOf l E mo ma0 ma1 ma2 ma4 ma5 ma7 ma9 ma10 ma11 ma12 ma15 ns mlen mm pl wm ((mgz v (S, gw) 10).2) hh Nw i v (by first | assumption | omega) (by first | assumption | omega) (by first | assumption | omega)) wm_X7_75 wi_X7_sortOf wsel_X7_sortOf wn_X7 wc_X7_sortOf rfl rfl ⟨by decide, by decide, rfl⟩ rfl (Nat.le_of_ble_eq_true rfl) 7 rfl rfl 0 rfl [0, 1] [2] (wr := [(ma7, .inl (E.2.1, 10, .inl (aN ((mgz v (S, gw) 10).1))))]) rfl rfl rfl rfl rfl [1, 2, 0] rfl [(mo, .inr (7, [.ref ma0, .ref ma1, .ref ma2, .int (nI ns), .ref ma4, .ref ma5, .int (nI mlen), .ref ma7, .int (bI ((mgz v (S, gw) 10).2)), .ref ma9, .ref ma10, .ref ma11, .ref ma12, .int (nI mm), .int (nI pl), .ref ma15, .int (nI wm), .long hh])), (ma0, .inl (E.2.1, 15, .inl (aN Nw))), (ma7, .inl (E.2.1, 10, .inl (aN ((mgz v (S, gw) 10).1))))] rfl rfl [.int (nI (v / 100))] rfl 103 rfl ?_
      refine G_iconst C dX7_growsBy_103 (v := nI 2) rfl 104 rfl ?_
      refine G_icmp_ge_f C dX7_growsBy_104 132 rfl 107 rfl (by rw [nI_leI (by omega) (by omega)]; omega) ?_
      refine G_aload_n C dX7_growsBy_107 rfl 108 rfl ?_
      refine G_iload_n C dX7_growsBy_108 rfl 109 rfl ?_
      refine G_aload_n C dX7_growsBy_109 rfl 110 rfl ?_
      refine G_iload_n C dX7_growsBy_110 rfl 111 rfl ?_
      refine G_cV C dX7_growsBy_111 (c_X7_sortOf l E mo ma0 ma1 ma2 ma4 ma5 ma7 ma9 ma10 ma11 ma12 ma15 ns mlen mm pl wm ((mgz v (S, gw) 10).2) hh Nw i v (by first | assumption | omega) (by first | assumption | omega) (by first | assumption | omega)) wm_X7_75 wi_X7_sortOf wsel_X7_sortOf wn_X7 wc_X7_sortOf rfl rfl ⟨by decide, by decide, rfl⟩ rfl (Nat.le_of_ble_eq_true rfl) 7 rfl rfl 0 rfl [0, 1] [2] (wr := [(ma7, .inl (E.2.1, 10, .inl (aN ((mgz v (S, gw) 10).1))))]) rfl rfl rfl rfl rfl [1, 2, 0] rfl [(mo, .inr (7, [.ref ma0, .ref ma1, .ref ma2, .int (nI ns), .ref ma4, .ref ma5, .int (nI mlen), .ref ma7, .int (bI ((mgz v (S, gw) 10).2)), .ref ma9, .ref ma10, .ref ma11, .ref ma12, .int (nI mm), .int (nI pl), .ref ma15, .int (nI wm), .long hh])), (ma0, .inl (E.2.1, 15, .inl (aN Nw))), (ma7, .inl (E.2.1, 10, .inl (aN ((mgz v (S, gw) 10).1))))] rfl rfl [.int (nI (v / 100)), .int (nI (v / 10 % 10)), .ref mo] rfl 114 rfl ?_
      refine G_if_ne_t C dX7_growsBy_114 123 rfl (by rw [n_eq0 (by omega)]; omega) ?_
      refine G_aload_n C dX7_growsBy_123 rfl 124 rfl ?_
      refine G_getf C dX7_growsBy_124 wF_X7 wf_X7_25 (f := 7) (by decide) (ci := 7) rfl 0 rfl rfl 127 rfl ?_
      refine G_iload_n C dX7_growsBy_127 rfl 128 rfl ?_
      refine G_ialdN C dX7_growsBy_128 2 rfl rfl (by omega) 129 rfl ?_
      refine G_cV C dX7_growsBy_129 (c_X7_gets l E mo ma0 ma1 ma2 ma4 ma5 ma7 ma9 ma10 ma11 ma12 ma15 ns mlen mm pl wm ((mgz v (S, gw) 10).2) hh ((mgz v (S, gw) 10).1) (v / 10 % 10) (((mgz v (S, gw) 10).1) (v % 10)) (by omega) (sok_mgz hS 10 (by omega) _ (by omega)) (sok_mgz hS 10 (by omega) _ (by omega))) wm_X7_82 wi_X7_gets wsel_X7_gets wn_X7 wc_X7_gets rfl rfl ⟨by decide, by decide, rfl⟩ rfl (Nat.le_of_ble_eq_true rfl) 7 rfl rfl 0 rfl [0, 2] [1] (wr := [(ma0, .inl (E.2.1, 15, .inl (aN Nw)))]) rfl rfl rfl rfl rfl [1, 0, 2] rfl [(mo, .inr (7, [.ref ma0, .ref ma1, .ref ma2, .int (nI ns), .ref ma4, .ref ma5, .int (nI mlen), .ref ma7, .int (bI (((mgz v (S, gw) 10).2) || grw (((mgz v (S, gw) 10).1) (v / 10 % 10)) (((mgz v (S, gw) 10).1) (v % 10)))), .ref ma9, .ref ma10, .ref ma11, .ref ma12, .int (nI mm), .int (nI pl), .ref ma15, .int (nI wm), .long hh])), (ma0, .inl (E.2.1, 15, .inl (aN Nw))), (ma7, .inl (E.2.1, 10, .inl (aN (va_up ((mgz v (S, gw) 10).1) (v / 10 % 10) (((mgz v (S, gw) 10).1) (v / 10 % 10) ||| (((mgz v (S, gw) 10).1) (v % 10)))))))] rfl rfl [] rfl 132 rfl ?_
      exact G_vret C hr dX7_growsBy_132 () trivial rfl (by simp only [mgb]; rw [if_neg (by omega), if_pos hs]; rfl)
    · refine G_aload_n C dX7_growsBy_98 rfl 99 rfl ?_
      refine G_iload_n C dX7_growsBy_99 rfl 100 rfl ?_
      refine G_cV C dX7_growsBy_100 (c_X7_sortOf l E mo ma0 ma1 ma2 ma4 ma5 ma7 ma9 ma10 ma11 ma12 ma15 ns mlen mm pl wm ((mgz v (S, gw) 10).2) hh Nw i v (by first | assumption | omega) (by first | assumption | omega) (by first | assumption | omega)) wm_X7_75 wi_X7_sortOf wsel_X7_sortOf wn_X7 wc_X7_sortOf rfl rfl ⟨by decide, by decide, rfl⟩ rfl (Nat.le_of_ble_eq_true rfl) 7 rfl rfl 0 rfl [0, 1] [2] (wr := [(ma7, .inl (E.2.1, 10, .inl (aN ((mgz v (S, gw) 10).1))))]) rfl rfl rfl rfl rfl [1, 2, 0] rfl [(mo, .inr (7, [.ref ma0, .ref ma1, .ref ma2, .int (nI ns), .ref ma4, .ref ma5, .int (nI mlen), .ref ma7, .int (bI ((mgz v (S, gw) 10).2)), .ref ma9, .ref ma10, .ref ma11, .ref ma12, .int (nI mm), .int (nI pl), .ref ma15, .int (nI wm), .long hh])), (ma0, .inl (E.2.1, 15, .inl (aN Nw))), (ma7, .inl (E.2.1, 10, .inl (aN ((mgz v (S, gw) 10).1))))] rfl rfl [.int (nI (v / 100))] rfl 103 rfl ?_
      refine G_iconst C dX7_growsBy_103 (v := nI 2) rfl 104 rfl ?_
      refine G_icmp_ge_t C dX7_growsBy_104 132 rfl (by rw [nI_leI (by omega) (by omega)]; omega) ?_
      exact G_vret C hr dX7_growsBy_132 () trivial rfl (by simp only [mgb]; rw [if_neg (by omega), if_neg (by omega)])
  · rcases (show v / 100 = 2 ∨ v / 100 = 3 ∨ v / 100 < 2 by omega) with hs | hs | hs
    · refine G_aload_n C dX7_growsBy_22 rfl 23 rfl ?_
      refine G_iload_n C dX7_growsBy_23 rfl 24 rfl ?_
      refine G_cV C dX7_growsBy_24 (c_X7_sortOf l E mo ma0 ma1 ma2 ma4 ma5 ma7 ma9 ma10 ma11 ma12 ma15 ns mlen mm pl wm ((mgz v (S, gw) z).2) hh Nw i v (by first | assumption | omega) (by first | assumption | omega) (by first | assumption | omega)) wm_X7_75 wi_X7_sortOf wsel_X7_sortOf wn_X7 wc_X7_sortOf rfl rfl ⟨by decide, by decide, rfl⟩ rfl (Nat.le_of_ble_eq_true rfl) 7 rfl rfl 0 rfl [0, 1] [2] (wr := [(ma7, .inl (E.2.1, 10, .inl (aN ((mgz v (S, gw) z).1))))]) rfl rfl rfl rfl rfl [1, 2, 0] rfl [(mo, .inr (7, [.ref ma0, .ref ma1, .ref ma2, .int (nI ns), .ref ma4, .ref ma5, .int (nI mlen), .ref ma7, .int (bI ((mgz v (S, gw) z).2)), .ref ma9, .ref ma10, .ref ma11, .ref ma12, .int (nI mm), .int (nI pl), .ref ma15, .int (nI wm), .long hh])), (ma0, .inl (E.2.1, 15, .inl (aN Nw))), (ma7, .inl (E.2.1, 10, .inl (aN ((mgz v (S, gw) z).1))))] rfl rfl [.int (nI (v / 100))] rfl 27 rfl ?_
      refine G_iconst C dX7_growsBy_27 (v := nI 2) rfl 28 rfl ?_
      refine G_icmp_ne_f C dX7_growsBy_28 57 rfl 31 rfl (by rw [nI_eq (by omega) (by omega)]; omega) ?_
      refine G_aload_n C dX7_growsBy_31 rfl 32 rfl ?_
      refine G_getf C dX7_growsBy_32 wF_X7 wf_X7_25 (f := 7) (by decide) (ci := 7) rfl 0 rfl rfl 35 rfl ?_
      refine G_iload_n C dX7_growsBy_35 rfl 36 rfl ?_
      refine G_ialdN C dX7_growsBy_36 2 rfl rfl (by omega) 37 rfl ?_
      refine G_iload C dX7_growsBy_37 rfl 39 rfl ?_
      refine G_cS C dX7_growsBy_39 (c_X7_has l E (((mgz v (S, gw) z).1) (v % 10)) z (sok_mgz hS z (by omega) _ (by omega)) (by first | assumption | omega)) wm_X7_78 wt_X7_has wn_X7 wc_X7_has rfl rfl ⟨by decide, by decide, rfl⟩ rfl (Nat.le_of_ble_eq_true rfl) [] [0, 1, 2] (wr := [(mo, .inr (7, [.ref ma0, .ref ma1, .ref ma2, .int (nI ns), .ref ma4, .ref ma5, .int (nI mlen), .ref ma7, .int (bI ((mgz v (S, gw) z).2)), .ref ma9, .ref ma10, .ref ma11, .ref ma12, .int (nI mm), .int (nI pl), .ref ma15, .int (nI wm), .long hh])), (ma0, .inl (E.2.1, 15, .inl (aN Nw))), (ma7, .inl (E.2.1, 10, .inl (aN ((mgz v (S, gw) z).1))))]) rfl rfl rfl rfl rfl [0, 1, 2] rfl [(mo, .inr (7, [.ref ma0, .ref ma1, .ref ma2, .int (nI ns), .ref ma4, .ref ma5, .int (nI mlen), .ref ma7, .int (bI ((mgz v (S, gw) z).2)), .ref ma9, .ref ma10, .ref ma11, .ref ma12, .int (nI mm), .int (nI pl), .ref ma15, .int (nI wm), .long hh])), (ma0, .inl (E.2.1, 15, .inl (aN Nw))), (ma7, .inl (E.2.1, 10, .inl (aN ((mgz v (S, gw) z).1))))] rfl rfl [.int (bI ((((mgz v (S, gw) z).1) (v % 10)).testBit z))] rfl 42 rfl ?_
      refine G_if_eq C dX7_growsBy_42 57 rfl 45 rfl (bI_0 _) (fun h_3 => ?_) (fun h_3 => ?_)
      · refine G_aload_n C dX7_growsBy_57 rfl 58 rfl ?_
        refine G_iload_n C dX7_growsBy_58 rfl 59 rfl ?_
        refine G_cV C dX7_growsBy_59 (c_X7_sortOf l E mo ma0 ma1 ma2 ma4 ma5 ma7 ma9 ma10 ma11 ma12 ma15 ns mlen mm pl wm ((mgz v (S, gw) z).2) hh Nw i v (by first | assumption | omega) (by first | assumption | omega) (by first | assumption | omega)) wm_X7_75 wi_X7_sortOf wsel_X7_sortOf wn_X7 wc_X7_sortOf rfl rfl ⟨by decide, by decide, rfl⟩ rfl (Nat.le_of_ble_eq_true rfl) 7 rfl rfl 0 rfl [0, 1] [2] (wr := [(ma7, .inl (E.2.1, 10, .inl (aN ((mgz v (S, gw) z).1))))]) rfl rfl rfl rfl rfl [1, 2, 0] rfl [(mo, .inr (7, [.ref ma0, .ref ma1, .ref ma2, .int (nI ns), .ref ma4, .ref ma5, .int (nI mlen), .ref ma7, .int (bI ((mgz v (S, gw) z).2)), .ref ma9, .ref ma10, .ref ma11, .ref ma12, .int (nI mm), .int (nI pl), .ref ma15, .int (nI wm), .long hh])), (ma0, .inl (E.2.1, 15, .inl (aN Nw))), (ma7, .inl (E.2.1, 10, .inl (aN ((mgz v (S, gw) z).1))))] rfl rfl [.int (nI (v / 100))] rfl 62 rfl ?_
        refine G_iconst C dX7_growsBy_62 (v := nI 3) rfl 63 rfl ?_
        refine G_icmp_ne_t C dX7_growsBy_63 92 rfl (by rw [nI_eq (by omega) (by omega)]; omega) ?_
        refine G_iinc C dX7_growsBy_92 0 rfl (nI_1 _) (by decide) [(4, .int (nI (z + 1))), (2, .int (nI (v / 10 % 10))), (3, .int (nI (v % 10))), (0, .ref mo), (1, .int (nI i))] rfl 95 rfl ?_
        refine G_goto C dX7_growsBy_95 15 rfl ?_
        refine G_eq (ws' := [(mo, .inr (7, [.ref ma0, .ref ma1, .ref ma2, .int (nI ns), .ref ma4, .ref ma5, .int (nI mlen), .ref ma7, .int (bI ((mgz v (S, gw) (z + 1)).2)), .ref ma9, .ref ma10, .ref ma11, .ref ma12, .int (nI mm), .int (nI pl), .ref ma15, .int (nI wm), .long hh])), (ma0, .inl (E.2.1, 15, .inl (aN Nw))), (ma7, .inl (E.2.1, 10, .inl (aN ((mgz v (S, gw) (z + 1)).1))))]) (L' := [(4, .int (nI (z + 1))), (2, .int (nI (v / 10 % 10))), (3, .int (nI (v % 10))), (0, .ref mo), (1, .int (nI i))]) (by simp only [mgz, mz1]; rw [if_pos hs]; rw [if_neg (by simp [h_3])]) rfl rfl ?_
        exact ih (z + 1) (by omega) (by omega)
      · refine G_aload_n C dX7_growsBy_45 rfl 46 rfl ?_
        refine G_iload_n C dX7_growsBy_46 rfl 47 rfl ?_
        refine G_aload_n C dX7_growsBy_47 rfl 48 rfl ?_
        refine G_getf C dX7_growsBy_48 wF_X7 wf_X7_25 (f := 7) (by decide) (ci := 7) rfl 0 rfl rfl 51 rfl ?_
        refine G_iload C dX7_growsBy_51 rfl 53 rfl ?_
        refine G_ialdN C dX7_growsBy_53 2 rfl rfl (by omega) 54 rfl ?_
        refine G_cV C dX7_growsBy_54 (c_X7_gets l E mo ma0 ma1 ma2 ma4 ma5 ma7 ma9 ma10 ma11 ma12 ma15 ns mlen mm pl wm ((mgz v (S, gw) z).2) hh ((mgz v (S, gw) z).1) (v / 10 % 10) (((mgz v (S, gw) z).1) z) (by omega) (sok_mgz hS z (by omega) _ (by omega)) (sok_mgz hS z (by omega) _ (by omega))) wm_X7_82 wi_X7_gets wsel_X7_gets wn_X7 wc_X7_gets rfl rfl ⟨by decide, by decide, rfl⟩ rfl (Nat.le_of_ble_eq_true rfl) 7 rfl rfl 0 rfl [0, 2] [1] (wr := [(ma0, .inl (E.2.1, 15, .inl (aN Nw)))]) rfl rfl rfl rfl rfl [1, 0, 2] rfl [(mo, .inr (7, [.ref ma0, .ref ma1, .ref ma2, .int (nI ns), .ref ma4, .ref ma5, .int (nI mlen), .ref ma7, .int (bI (((mgz v (S, gw) z).2) || grw (((mgz v (S, gw) z).1) (v / 10 % 10)) (((mgz v (S, gw) z).1) z))), .ref ma9, .ref ma10, .ref ma11, .ref ma12, .int (nI mm), .int (nI pl), .ref ma15, .int (nI wm), .long hh])), (ma0, .inl (E.2.1, 15, .inl (aN Nw))), (ma7, .inl (E.2.1, 10, .inl (aN (va_up ((mgz v (S, gw) z).1) (v / 10 % 10) (((mgz v (S, gw) z).1) (v / 10 % 10) ||| (((mgz v (S, gw) z).1) z))))))] rfl rfl [] rfl 57 rfl ?_
        refine G_aload_n C dX7_growsBy_57 rfl 58 rfl ?_
        refine G_iload_n C dX7_growsBy_58 rfl 59 rfl ?_
        refine G_cV C dX7_growsBy_59 (c_X7_sortOf l E mo ma0 ma1 ma2 ma4 ma5 ma7 ma9 ma10 ma11 ma12 ma15 ns mlen mm pl wm (((mgz v (S, gw) z).2) || grw (((mgz v (S, gw) z).1) (v / 10 % 10)) (((mgz v (S, gw) z).1) z)) hh Nw i v (by first | assumption | omega) (by first | assumption | omega) (by first | assumption | omega)) wm_X7_75 wi_X7_sortOf wsel_X7_sortOf wn_X7 wc_X7_sortOf rfl rfl ⟨by decide, by decide, rfl⟩ rfl (Nat.le_of_ble_eq_true rfl) 7 rfl rfl 0 rfl [0, 1] [2] (wr := [(ma7, .inl (E.2.1, 10, .inl (aN (va_up ((mgz v (S, gw) z).1) (v / 10 % 10) (((mgz v (S, gw) z).1) (v / 10 % 10) ||| (((mgz v (S, gw) z).1) z))))))]) rfl rfl rfl rfl rfl [1, 2, 0] rfl [(mo, .inr (7, [.ref ma0, .ref ma1, .ref ma2, .int (nI ns), .ref ma4, .ref ma5, .int (nI mlen), .ref ma7, .int (bI (((mgz v (S, gw) z).2) || grw (((mgz v (S, gw) z).1) (v / 10 % 10)) (((mgz v (S, gw) z).1) z))), .ref ma9, .ref ma10, .ref ma11, .ref ma12, .int (nI mm), .int (nI pl), .ref ma15, .int (nI wm), .long hh])), (ma0, .inl (E.2.1, 15, .inl (aN Nw))), (ma7, .inl (E.2.1, 10, .inl (aN (va_up ((mgz v (S, gw) z).1) (v / 10 % 10) (((mgz v (S, gw) z).1) (v / 10 % 10) ||| (((mgz v (S, gw) z).1) z))))))] rfl rfl [.int (nI (v / 100))] rfl 62 rfl ?_
        refine G_iconst C dX7_growsBy_62 (v := nI 3) rfl 63 rfl ?_
        refine G_icmp_ne_t C dX7_growsBy_63 92 rfl (by rw [nI_eq (by omega) (by omega)]; omega) ?_
        refine G_iinc C dX7_growsBy_92 0 rfl (nI_1 _) (by decide) [(4, .int (nI (z + 1))), (2, .int (nI (v / 10 % 10))), (3, .int (nI (v % 10))), (0, .ref mo), (1, .int (nI i))] rfl 95 rfl ?_
        refine G_goto C dX7_growsBy_95 15 rfl ?_
        refine G_eq (ws' := [(mo, .inr (7, [.ref ma0, .ref ma1, .ref ma2, .int (nI ns), .ref ma4, .ref ma5, .int (nI mlen), .ref ma7, .int (bI ((mgz v (S, gw) (z + 1)).2)), .ref ma9, .ref ma10, .ref ma11, .ref ma12, .int (nI mm), .int (nI pl), .ref ma15, .int (nI wm), .long hh])), (ma0, .inl (E.2.1, 15, .inl (aN Nw))), (ma7, .inl (E.2.1, 10, .inl (aN ((mgz v (S, gw) (z + 1)).1))))]) (L' := [(4, .int (nI (z + 1))), (2, .int (nI (v / 10 % 10))), (3, .int (nI (v % 10))), (0, .ref mo), (1, .int (nI i))]) (by simp only [mgz, mz1]; rw [if_pos hs]; rw [if_pos (by simpa using h_3)]; rfl) rfl rfl ?_
        exact ih (z + 1) (by omega) (by omega)
    · refine G_aload_n C dX7_growsBy_22 rfl 23 rfl ?_
      refine G_iload_n C dX7_growsBy_23 rfl 24 rfl ?_
      refine G_cV C dX7_growsBy_24 (c_X7_sortOf l E mo ma0 ma1 ma2 ma4 ma5 ma7 ma9 ma10 ma11 ma12 ma15 ns mlen mm pl wm ((mgz v (S, gw) z).2) hh Nw i v (by first | assumption | omega) (by first | assumption | omega) (by first | assumption | omega)) wm_X7_75 wi_X7_sortOf wsel_X7_sortOf wn_X7 wc_X7_sortOf rfl rfl ⟨by decide, by decide, rfl⟩ rfl (Nat.le_of_ble_eq_true rfl) 7 rfl rfl 0 rfl [0, 1] [2] (wr := [(ma7, .inl (E.2.1, 10, .inl (aN ((mgz v (S, gw) z).1))))]) rfl rfl rfl rfl rfl [1, 2, 0] rfl [(mo, .inr (7, [.ref ma0, .ref ma1, .ref ma2, .int (nI ns), .ref ma4, .ref ma5, .int (nI mlen), .ref ma7, .int (bI ((mgz v (S, gw) z).2)), .ref ma9, .ref ma10, .ref ma11, .ref ma12, .int (nI mm), .int (nI pl), .ref ma15, .int (nI wm), .long hh])), (ma0, .inl (E.2.1, 15, .inl (aN Nw))), (ma7, .inl (E.2.1, 10, .inl (aN ((mgz v (S, gw) z).1))))] rfl rfl [.int (nI (v / 100))] rfl 27 rfl ?_
      refine G_iconst C dX7_growsBy_27 (v := nI 2) rfl 28 rfl ?_
      refine G_icmp_ne_t C dX7_growsBy_28 57 rfl (by rw [nI_eq (by omega) (by omega)]; omega) ?_
      refine G_aload_n C dX7_growsBy_57 rfl 58 rfl ?_
      refine G_iload_n C dX7_growsBy_58 rfl 59 rfl ?_
      refine G_cV C dX7_growsBy_59 (c_X7_sortOf l E mo ma0 ma1 ma2 ma4 ma5 ma7 ma9 ma10 ma11 ma12 ma15 ns mlen mm pl wm ((mgz v (S, gw) z).2) hh Nw i v (by first | assumption | omega) (by first | assumption | omega) (by first | assumption | omega)) wm_X7_75 wi_X7_sortOf wsel_X7_sortOf wn_X7 wc_X7_sortOf rfl rfl ⟨by decide, by decide, rfl⟩ rfl (Nat.le_of_ble_eq_true rfl) 7 rfl rfl 0 rfl [0, 1] [2] (wr := [(ma7, .inl (E.2.1, 10, .inl (aN ((mgz v (S, gw) z).1))))]) rfl rfl rfl rfl rfl [1, 2, 0] rfl [(mo, .inr (7, [.ref ma0, .ref ma1, .ref ma2, .int (nI ns), .ref ma4, .ref ma5, .int (nI mlen), .ref ma7, .int (bI ((mgz v (S, gw) z).2)), .ref ma9, .ref ma10, .ref ma11, .ref ma12, .int (nI mm), .int (nI pl), .ref ma15, .int (nI wm), .long hh])), (ma0, .inl (E.2.1, 15, .inl (aN Nw))), (ma7, .inl (E.2.1, 10, .inl (aN ((mgz v (S, gw) z).1))))] rfl rfl [.int (nI (v / 100))] rfl 62 rfl ?_
      refine G_iconst C dX7_growsBy_62 (v := nI 3) rfl 63 rfl ?_
      refine G_icmp_ne_f C dX7_growsBy_63 92 rfl 66 rfl (by rw [nI_eq (by omega) (by omega)]; omega) ?_
      refine G_aload_n C dX7_growsBy_66 rfl 67 rfl ?_
      refine G_getf C dX7_growsBy_67 wF_X7 wf_X7_25 (f := 7) (by decide) (ci := 7) rfl 0 rfl rfl 70 rfl ?_
      refine G_iload_n C dX7_growsBy_70 rfl 71 rfl ?_
      refine G_ialdN C dX7_growsBy_71 2 rfl rfl (by omega) 72 rfl ?_
      refine G_iload C dX7_growsBy_72 rfl 74 rfl ?_
      refine G_cS C dX7_growsBy_74 (c_X7_has l E (((mgz v (S, gw) z).1) (v / 10 % 10)) z (sok_mgz hS z (by omega) _ (by omega)) (by first | assumption | omega)) wm_X7_78 wt_X7_has wn_X7 wc_X7_has rfl rfl ⟨by decide, by decide, rfl⟩ rfl (Nat.le_of_ble_eq_true rfl) [] [0, 1, 2] (wr := [(mo, .inr (7, [.ref ma0, .ref ma1, .ref ma2, .int (nI ns), .ref ma4, .ref ma5, .int (nI mlen), .ref ma7, .int (bI ((mgz v (S, gw) z).2)), .ref ma9, .ref ma10, .ref ma11, .ref ma12, .int (nI mm), .int (nI pl), .ref ma15, .int (nI wm), .long hh])), (ma0, .inl (E.2.1, 15, .inl (aN Nw))), (ma7, .inl (E.2.1, 10, .inl (aN ((mgz v (S, gw) z).1))))]) rfl rfl rfl rfl rfl [0, 1, 2] rfl [(mo, .inr (7, [.ref ma0, .ref ma1, .ref ma2, .int (nI ns), .ref ma4, .ref ma5, .int (nI mlen), .ref ma7, .int (bI ((mgz v (S, gw) z).2)), .ref ma9, .ref ma10, .ref ma11, .ref ma12, .int (nI mm), .int (nI pl), .ref ma15, .int (nI wm), .long hh])), (ma0, .inl (E.2.1, 15, .inl (aN Nw))), (ma7, .inl (E.2.1, 10, .inl (aN ((mgz v (S, gw) z).1))))] rfl rfl [.int (bI ((((mgz v (S, gw) z).1) (v / 10 % 10)).testBit z))] rfl 77 rfl ?_
      refine G_if_eq C dX7_growsBy_77 92 rfl 80 rfl (bI_0 _) (fun h_3 => ?_) (fun h_3 => ?_)
      · refine G_iinc C dX7_growsBy_92 0 rfl (nI_1 _) (by decide) [(4, .int (nI (z + 1))), (2, .int (nI (v / 10 % 10))), (3, .int (nI (v % 10))), (0, .ref mo), (1, .int (nI i))] rfl 95 rfl ?_
        refine G_goto C dX7_growsBy_95 15 rfl ?_
        refine G_eq (ws' := [(mo, .inr (7, [.ref ma0, .ref ma1, .ref ma2, .int (nI ns), .ref ma4, .ref ma5, .int (nI mlen), .ref ma7, .int (bI ((mgz v (S, gw) (z + 1)).2)), .ref ma9, .ref ma10, .ref ma11, .ref ma12, .int (nI mm), .int (nI pl), .ref ma15, .int (nI wm), .long hh])), (ma0, .inl (E.2.1, 15, .inl (aN Nw))), (ma7, .inl (E.2.1, 10, .inl (aN ((mgz v (S, gw) (z + 1)).1))))]) (L' := [(4, .int (nI (z + 1))), (2, .int (nI (v / 10 % 10))), (3, .int (nI (v % 10))), (0, .ref mo), (1, .int (nI i))]) (by simp only [mgz, mz1]; rw [if_neg (by omega), if_pos hs]; rw [if_neg (by simp [h_3])]) rfl rfl ?_
        exact ih (z + 1) (by omega) (by omega)
      · refine G_aload_n C dX7_growsBy_80 rfl 81 rfl ?_
        refine G_iload C dX7_growsBy_81 rfl 83 rfl ?_
        refine G_aload_n C dX7_growsBy_83 rfl 84 rfl ?_
        refine G_getf C dX7_growsBy_84 wF_X7 wf_X7_25 (f := 7) (by decide) (ci := 7) rfl 0 rfl rfl 87 rfl ?_
        refine G_iload_n C dX7_growsBy_87 rfl 88 rfl ?_
        refine G_ialdN C dX7_growsBy_88 2 rfl rfl (by omega) 89 rfl ?_
        refine G_cV C dX7_growsBy_89 (c_X7_gets l E mo ma0 ma1 ma2 ma4 ma5 ma7 ma9 ma10 ma11 ma12 ma15 ns mlen mm pl wm ((mgz v (S, gw) z).2) hh ((mgz v (S, gw) z).1) z (((mgz v (S, gw) z).1) (v % 10)) (by omega) (sok_mgz hS z (by omega) _ (by omega)) (sok_mgz hS z (by omega) _ (by omega))) wm_X7_82 wi_X7_gets wsel_X7_gets wn_X7 wc_X7_gets rfl rfl ⟨by decide, by decide, rfl⟩ rfl (Nat.le_of_ble_eq_true rfl) 7 rfl rfl 0 rfl [0, 2] [1] (wr := [(ma0, .inl (E.2.1, 15, .inl (aN Nw)))]) rfl rfl rfl rfl rfl [1, 0, 2] rfl [(mo, .inr (7, [.ref ma0, .ref ma1, .ref ma2, .int (nI ns), .ref ma4, .ref ma5, .int (nI mlen), .ref ma7, .int (bI (((mgz v (S, gw) z).2) || grw (((mgz v (S, gw) z).1) z) (((mgz v (S, gw) z).1) (v % 10)))), .ref ma9, .ref ma10, .ref ma11, .ref ma12, .int (nI mm), .int (nI pl), .ref ma15, .int (nI wm), .long hh])), (ma0, .inl (E.2.1, 15, .inl (aN Nw))), (ma7, .inl (E.2.1, 10, .inl (aN (va_up ((mgz v (S, gw) z).1) z (((mgz v (S, gw) z).1) z ||| (((mgz v (S, gw) z).1) (v % 10)))))))] rfl rfl [] rfl 92 rfl ?_
        refine G_iinc C dX7_growsBy_92 0 rfl (nI_1 _) (by decide) [(4, .int (nI (z + 1))), (2, .int (nI (v / 10 % 10))), (3, .int (nI (v % 10))), (0, .ref mo), (1, .int (nI i))] rfl 95 rfl ?_
        refine G_goto C dX7_growsBy_95 15 rfl ?_
        refine G_eq (ws' := [(mo, .inr (7, [.ref ma0, .ref ma1, .ref ma2, .int (nI ns), .ref ma4, .ref ma5, .int (nI mlen), .ref ma7, .int (bI ((mgz v (S, gw) (z + 1)).2)), .ref ma9, .ref ma10, .ref ma11, .ref ma12, .int (nI mm), .int (nI pl), .ref ma15, .int (nI wm), .long hh])), (ma0, .inl (E.2.1, 15, .inl (aN Nw))), (ma7, .inl (E.2.1, 10, .inl (aN ((mgz v (S, gw) (z + 1)).1))))]) (L' := [(4, .int (nI (z + 1))), (2, .int (nI (v / 10 % 10))), (3, .int (nI (v % 10))), (0, .ref mo), (1, .int (nI i))]) (by simp only [mgz, mz1]; rw [if_neg (by omega), if_pos hs]; rw [if_pos (by simpa using h_3)]; rfl) rfl rfl ?_
        exact ih (z + 1) (by omega) (by omega)
    · refine G_aload_n C dX7_growsBy_22 rfl 23 rfl ?_
      refine G_iload_n C dX7_growsBy_23 rfl 24 rfl ?_
      refine G_cV C dX7_growsBy_24 (c_X7_sortOf l E mo ma0 ma1 ma2 ma4 ma5 ma7 ma9 ma10 ma11 ma12 ma15 ns mlen mm pl wm ((mgz v (S, gw) z).2) hh Nw i v (by first | assumption | omega) (by first | assumption | omega) (by first | assumption | omega)) wm_X7_75 wi_X7_sortOf wsel_X7_sortOf wn_X7 wc_X7_sortOf rfl rfl ⟨by decide, by decide, rfl⟩ rfl (Nat.le_of_ble_eq_true rfl) 7 rfl rfl 0 rfl [0, 1] [2] (wr := [(ma7, .inl (E.2.1, 10, .inl (aN ((mgz v (S, gw) z).1))))]) rfl rfl rfl rfl rfl [1, 2, 0] rfl [(mo, .inr (7, [.ref ma0, .ref ma1, .ref ma2, .int (nI ns), .ref ma4, .ref ma5, .int (nI mlen), .ref ma7, .int (bI ((mgz v (S, gw) z).2)), .ref ma9, .ref ma10, .ref ma11, .ref ma12, .int (nI mm), .int (nI pl), .ref ma15, .int (nI wm), .long hh])), (ma0, .inl (E.2.1, 15, .inl (aN Nw))), (ma7, .inl (E.2.1, 10, .inl (aN ((mgz v (S, gw) z).1))))] rfl rfl [.int (nI (v / 100))] rfl 27 rfl ?_
      refine G_iconst C dX7_growsBy_27 (v := nI 2) rfl 28 rfl ?_
      refine G_icmp_ne_t C dX7_growsBy_28 57 rfl (by rw [nI_eq (by omega) (by omega)]; omega) ?_
      refine G_aload_n C dX7_growsBy_57 rfl 58 rfl ?_
      refine G_iload_n C dX7_growsBy_58 rfl 59 rfl ?_
      refine G_cV C dX7_growsBy_59 (c_X7_sortOf l E mo ma0 ma1 ma2 ma4 ma5 ma7 ma9 ma10 ma11 ma12 ma15 ns mlen mm pl wm ((mgz v (S, gw) z).2) hh Nw i v (by first | assumption | omega) (by first | assumption | omega) (by first | assumption | omega)) wm_X7_75 wi_X7_sortOf wsel_X7_sortOf wn_X7 wc_X7_sortOf rfl rfl ⟨by decide, by decide, rfl⟩ rfl (Nat.le_of_ble_eq_true rfl) 7 rfl rfl 0 rfl [0, 1] [2] (wr := [(ma7, .inl (E.2.1, 10, .inl (aN ((mgz v (S, gw) z).1))))]) rfl rfl rfl rfl rfl [1, 2, 0] rfl [(mo, .inr (7, [.ref ma0, .ref ma1, .ref ma2, .int (nI ns), .ref ma4, .ref ma5, .int (nI mlen), .ref ma7, .int (bI ((mgz v (S, gw) z).2)), .ref ma9, .ref ma10, .ref ma11, .ref ma12, .int (nI mm), .int (nI pl), .ref ma15, .int (nI wm), .long hh])), (ma0, .inl (E.2.1, 15, .inl (aN Nw))), (ma7, .inl (E.2.1, 10, .inl (aN ((mgz v (S, gw) z).1))))] rfl rfl [.int (nI (v / 100))] rfl 62 rfl ?_
      refine G_iconst C dX7_growsBy_62 (v := nI 3) rfl 63 rfl ?_
      refine G_icmp_ne_t C dX7_growsBy_63 92 rfl (by rw [nI_eq (by omega) (by omega)]; omega) ?_
      refine G_iinc C dX7_growsBy_92 0 rfl (nI_1 _) (by decide) [(4, .int (nI (z + 1))), (2, .int (nI (v / 10 % 10))), (3, .int (nI (v % 10))), (0, .ref mo), (1, .int (nI i))] rfl 95 rfl ?_
      refine G_goto C dX7_growsBy_95 15 rfl ?_
      refine G_eq (ws' := [(mo, .inr (7, [.ref ma0, .ref ma1, .ref ma2, .int (nI ns), .ref ma4, .ref ma5, .int (nI mlen), .ref ma7, .int (bI ((mgz v (S, gw) (z + 1)).2)), .ref ma9, .ref ma10, .ref ma11, .ref ma12, .int (nI mm), .int (nI pl), .ref ma15, .int (nI wm), .long hh])), (ma0, .inl (E.2.1, 15, .inl (aN Nw))), (ma7, .inl (E.2.1, 10, .inl (aN ((mgz v (S, gw) (z + 1)).1))))]) (L' := [(4, .int (nI (z + 1))), (2, .int (nI (v / 10 % 10))), (3, .int (nI (v % 10))), (0, .ref mo), (1, .int (nI i))]) (by simp only [mgz, mz1]; rw [if_neg (by omega), if_neg (by omega)]) rfl rfl ?_
      exact ih (z + 1) (by omega) (by omega)

set_option maxHeartbeats 4000000 in
set_option maxRecDepth 100000 in
theorem c_X7_laysFine (l : Launch) (E : gE) (mo ma0 ma1 ma2 ma4 ma5 ma7 ma9 ma10 ma11 ma12 ma15 ns mlen mm pl wm : Nat) (gw : Bool) (hh : Int64) (Nw : Nat → Nat) (S : Nat → Nat) (ln : Nat → Nat) (n : Nat) (lo : Option Nat) (hok : mok n ln Nw) (hlo : ∀ g, lo = some g → g < 2 ^ 31) : FD l E yX7_laysFine cX7_laysFine 3 none { frames := 2, cells := 0, slots := 0, locals := 46 } [.ref mo, .int (oI lo)] [(mo, .inr (7, [.ref ma0, .ref ma1, .ref ma2, .int (nI ns), .ref ma4, .ref ma5, .int (nI mlen), .ref ma7, .int (bI gw), .ref ma9, .ref ma10, .ref ma11, .ref ma12, .int (nI mm), .int (nI pl), .ref ma15, .int (nI wm), .long hh])), (ma0, .inl (E.2.1, 15, .inl (aN Nw))), (ma7, .inl (E.2.1, 10, .inl (aN S)))] none [(mo, .inr (7, [.ref ma0, .ref ma1, .ref ma2, .int (nI ns), .ref ma4, .ref ma5, .int (nI mlen), .ref ma7, .int (bI false), .ref ma9, .ref ma10, .ref ma11, .ref ma12, .int (nI mm), .int (nI pl), .ref ma15, .int (nI wm), .long hh])), (ma0, .inl (E.2.1, 15, .inl (aN Nw))), (ma7, .inl (E.2.1, 10, .inl (aN (fineC ln n lo))))] := by
  refine Fn_ofL (own := RX7) (by decide) rfl rfl [(0, .ref mo), (1, .int (oI lo))] rfl ?_
  intro p e s m below meth c A C hr hnm
  have h14 : n ≤ 14 := hok.n
  obtain ⟨J, hf, hb, he⟩ := fine_other (st := mgb) (ln := ln) (n := n) (lo := lo) gst_m hok.l
  refine G_iconst C dX7_laysFine_0 (v := nI 0) rfl 1 rfl ?_
  refine G_istore_n C dX7_laysFine_1 (by decide) [(2, .int (nI 0)), (0, .ref mo), (1, .int (oI lo))] rfl 2 rfl ?_
  refine G_eq (ws' := [(mo, .inr (7, [.ref ma0, .ref ma1, .ref ma2, .int (nI ns), .ref ma4, .ref ma5, .int (nI mlen), .ref ma7, .int (bI gw), .ref ma9, .ref ma10, .ref ma11, .ref ma12, .int (nI mm), .int (nI pl), .ref ma15, .int (nI wm), .long hh])), (ma0, .inl (E.2.1, 15, .inl (aN Nw))), (ma7, .inl (E.2.1, 10, .inl (aN (flG (fun _ => 0) S 0))))]) (by rw [flG_0]) rfl rfl ?_
  refine G_while (X := Nat) (Wf := fun x => [(mo, .inr (7, [.ref ma0, .ref ma1, .ref ma2, .int (nI ns), .ref ma4, .ref ma5, .int (nI mlen), .ref ma7, .int (bI gw), .ref ma9, .ref ma10, .ref ma11, .ref ma12, .int (nI mm), .int (nI pl), .ref ma15, .int (nI wm), .long hh])), (ma0, .inl (E.2.1, 15, .inl (aN Nw))), (ma7, .inl (E.2.1, 10, .inl (aN (flG (fun _ => 0) S x))))]) (Lf := fun x => [(2, .int (nI x)), (0, .ref mo), (1, .int (oI lo))]) (Sf := fun _ => []) (fun x => x ≤ 10) (fun x => 10 - x) (fun x hx9 ihx => ?_) 0 (by omega)
  refine G_iload_n C dX7_laysFine_2 rfl 3 rfl ?_
  refine G_bipush C dX7_laysFine_3 (v := nI 10) (by decide) 5 rfl ?_
  refine G_icmp_ge C dX7_laysFine_5 21 rfl 8 rfl (nI_leI (by omega) (by omega)) (fun h_1 => ?_) (fun h_1 => ?_)
  · refine G_cong 2 (aN (fun _ => 0)) rfl (fun j hj => by simp only [aN]; rw [flG_in _ _ (by omega)]) [(mo, .inr (7, [.ref ma0, .ref ma1, .ref ma2, .int (nI ns), .ref ma4, .ref ma5, .int (nI mlen), .ref ma7, .int (bI gw), .ref ma9, .ref ma10, .ref ma11, .ref ma12, .int (nI mm), .int (nI pl), .ref ma15, .int (nI wm), .long hh])), (ma0, .inl (E.2.1, 15, .inl (aN Nw))), (ma7, .inl (E.2.1, 10, .inl (aN (fun _ => 0))))] rfl ?_
    refine G_sel [1, 2] [(0, .ref mo), (1, .int (oI lo))] rfl ?_
    refine G_aload_n C dX7_laysFine_21 rfl 22 rfl ?_
    refine G_iconst C dX7_laysFine_22 (v := nI 1) rfl 23 rfl ?_
    refine G_putf C dX7_laysFine_23 wF_X7 wf_X7_65 (f := 8) (by decide) (ci := 7) rfl tyX7_ok nmX7 rfl 0 rfl (by decide) (by decide) (Nat.le_of_ble_eq_true rfl) [(mo, .inr (7, [.ref ma0, .ref ma1, .ref ma2, .int (nI ns), .ref ma4, .ref ma5, .int (nI mlen), .ref ma7, .int (nI 1), .ref ma9, .ref ma10, .ref ma11, .ref ma12, .int (nI mm), .int (nI pl), .ref ma15, .int (nI wm), .long hh])), (ma0, .inl (E.2.1, 15, .inl (aN Nw))), (ma7, .inl (E.2.1, 10, .inl (aN (fun _ => 0))))] rfl 26 rfl ?_
    refine G_eq (ws' := [(mo, .inr (7, [.ref ma0, .ref ma1, .ref ma2, .int (nI ns), .ref ma4, .ref ma5, .int (nI mlen), .ref ma7, .int (bI ((gi mgb ln n lo 0).2)), .ref ma9, .ref ma10, .ref ma11, .ref ma12, .int (nI mm), .int (nI pl), .ref ma15, .int (nI wm), .long hh])), (ma0, .inl (E.2.1, 15, .inl (aN Nw))), (ma7, .inl (E.2.1, 10, .inl (aN ((gi mgb ln n lo 0).1))))]) rfl rfl rfl ?_
    refine G_while (X := Nat) (Wf := fun j => [(mo, .inr (7, [.ref ma0, .ref ma1, .ref ma2, .int (nI ns), .ref ma4, .ref ma5, .int (nI mlen), .ref ma7, .int (bI ((gi mgb ln n lo j).2)), .ref ma9, .ref ma10, .ref ma11, .ref ma12, .int (nI mm), .int (nI pl), .ref ma15, .int (nI wm), .long hh])), (ma0, .inl (E.2.1, 15, .inl (aN Nw))), (ma7, .inl (E.2.1, 10, .inl (aN ((gi mgb ln n lo j).1))))]) (Lf := fun j => [(0, .ref mo), (1, .int (oI lo))]) (Sf := fun _ => []) (fun j => j ≤ J) (fun j => J - j) (fun j hj ihj => ?_) 0 (by omega)
    refine G_aload_n C dX7_laysFine_26 rfl 27 rfl ?_
    refine G_getf C dX7_laysFine_27 wF_X7 wf_X7_65 (f := 8) (by decide) (ci := 7) rfl 0 rfl rfl 30 rfl ?_
    refine G_if_eq C dX7_laysFine_30 69 rfl 33 rfl (bI_0 _) (fun h_2 => ?_) (fun h_2 => ?_)
    · have hjJ : j = J := by rcases Nat.lt_or_ge j J with h9 | h9; exact absurd (hb j h9) (by rw [h_2]; simp); omega
      refine G_eq (ws' := [(mo, .inr (7, [.ref ma0, .ref ma1, .ref ma2, .int (nI ns), .ref ma4, .ref ma5, .int (nI mlen), .ref ma7, .int (bI false), .ref ma9, .ref ma10, .ref ma11, .ref ma12, .int (nI mm), .int (nI pl), .ref ma15, .int (nI wm), .long hh])), (ma0, .inl (E.2.1, 15, .inl (aN Nw))), (ma7, .inl (E.2.1, 10, .inl (aN ((gi mgb ln n lo j).1))))]) (by rw [h_2]) rfl rfl ?_
      refine G_cong 2 (aN (fineC ln n lo)) rfl (fun k hk => by simp only [aN]; rw [hjJ, he k (by omega)]) [(mo, .inr (7, [.ref ma0, .ref ma1, .ref ma2, .int (nI ns), .ref ma4, .ref ma5, .int (nI mlen), .ref ma7, .int (bI false), .ref ma9, .ref ma10, .ref ma11, .ref ma12, .int (nI mm), .int (nI pl), .ref ma15, .int (nI wm), .long hh])), (ma0, .inl (E.2.1, 15, .inl (aN Nw))), (ma7, .inl (E.2.1, 10, .inl (aN (fineC ln n lo))))] rfl ?_
      exact G_vret C hr dX7_laysFine_69 () trivial rfl rfl
    · refine G_aload_n C dX7_laysFine_33 rfl 34 rfl ?_
      refine G_iconst C dX7_laysFine_34 (v := nI 0) rfl 35 rfl ?_
      refine G_putf C dX7_laysFine_35 wF_X7 wf_X7_65 (f := 8) (by decide) (ci := 7) rfl tyX7_ok nmX7 rfl 0 rfl (by decide) (by decide) (Nat.le_of_ble_eq_true rfl) [(mo, .inr (7, [.ref ma0, .ref ma1, .ref ma2, .int (nI ns), .ref ma4, .ref ma5, .int (nI mlen), .ref ma7, .int (nI 0), .ref ma9, .ref ma10, .ref ma11, .ref ma12, .int (nI mm), .int (nI pl), .ref ma15, .int (nI wm), .long hh])), (ma0, .inl (E.2.1, 15, .inl (aN Nw))), (ma7, .inl (E.2.1, 10, .inl (aN ((gi mgb ln n lo j).1))))] rfl 38 rfl ?_
      refine G_iconst C dX7_laysFine_38 (v := nI 0) rfl 39 rfl ?_
      refine G_istore_n C dX7_laysFine_39 (by decide) [(2, .int (nI 0)), (0, .ref mo), (1, .int (oI lo))] rfl 40 rfl ?_
      refine G_eq (ws' := [(mo, .inr (7, [.ref ma0, .ref ma1, .ref ma2, .int (nI ns), .ref ma4, .ref ma5, .int (nI mlen), .ref ma7, .int (bI ((gp mgb ln lo ((gi mgb ln n lo j).1, false) 0).2)), .ref ma9, .ref ma10, .ref ma11, .ref ma12, .int (nI mm), .int (nI pl), .ref ma15, .int (nI wm), .long hh])), (ma0, .inl (E.2.1, 15, .inl (aN Nw))), (ma7, .inl (E.2.1, 10, .inl (aN ((gp mgb ln lo ((gi mgb ln n lo j).1, false) 0).1))))]) rfl rfl rfl ?_
      refine G_while (X := Nat) (Wf := fun i => [(mo, .inr (7, [.ref ma0, .ref ma1, .ref ma2, .int (nI ns), .ref ma4, .ref ma5, .int (nI mlen), .ref ma7, .int (bI ((gp mgb ln lo ((gi mgb ln n lo j).1, false) i).2)), .ref ma9, .ref ma10, .ref ma11, .ref ma12, .int (nI mm), .int (nI pl), .ref ma15, .int (nI wm), .long hh])), (ma0, .inl (E.2.1, 15, .inl (aN Nw))), (ma7, .inl (E.2.1, 10, .inl (aN ((gp mgb ln lo ((gi mgb ln n lo j).1, false) i).1))))]) (Lf := fun i => [(2, .int (nI i)), (0, .ref mo), (1, .int (oI lo))]) (Sf := fun _ => []) (fun i => i ≤ n) (fun i => n - i) (fun i hi ih => ?_) 0 (by omega)
      refine G_iload_n C dX7_laysFine_40 rfl 41 rfl ?_
      refine G_aload_n C dX7_laysFine_41 rfl 42 rfl ?_
      refine G_getf C dX7_laysFine_42 wF_X7 wf_X7_7 (f := 0) (by decide) (ci := 7) rfl 0 rfl rfl 45 rfl ?_
      refine G_iconst C dX7_laysFine_45 (v := nI 0) rfl 46 rfl ?_
      refine G_ialdN C dX7_laysFine_46 1 rfl rfl (by omega) 47 rfl ?_
      refine G_top (v' := .int (nI n)) (by rw [hok.z]) ?_
      refine G_icmp_ge C dX7_laysFine_47 66 rfl 50 rfl (nI_leI (by omega) (by omega)) (fun h_3 => ?_) (fun h_3 => ?_)
      · refine G_goto C dX7_laysFine_66 26 rfl ?_
        refine G_sel [1, 2] [(0, .ref mo), (1, .int (oI lo))] rfl ?_
        refine G_eq (ws' := [(mo, .inr (7, [.ref ma0, .ref ma1, .ref ma2, .int (nI ns), .ref ma4, .ref ma5, .int (nI mlen), .ref ma7, .int (bI ((gi mgb ln n lo (j + 1)).2)), .ref ma9, .ref ma10, .ref ma11, .ref ma12, .int (nI mm), .int (nI pl), .ref ma15, .int (nI wm), .long hh])), (ma0, .inl (E.2.1, 15, .inl (aN Nw))), (ma7, .inl (E.2.1, 10, .inl (aN ((gi mgb ln n lo (j + 1)).1))))]) (by rw [show i = n by omega]; rfl) rfl rfl ?_
        have hjl : j < J := by rcases Nat.lt_or_ge j J with h9 | h9; exact h9; exact absurd (show (gi mgb ln n lo j).2 = false by rw [show j = J by omega]; exact hf) h_2
        exact ihj (j + 1) (by omega) (by omega)
      · refine G_iload_n C dX7_laysFine_50 rfl 51 rfl ?_
        refine G_iload_n C dX7_laysFine_51 rfl 52 rfl ?_
        refine G_icmp_eq C dX7_laysFine_52 60 rfl 55 rfl (oI_eq (t := some i) (u := lo) (fun _ h => (by cases h; omega)) hlo) (fun h_4 => ?_) (fun h_4 => ?_)
        · refine G_iinc C dX7_laysFine_60 0 rfl (nI_1 _) (by decide) [(2, .int (nI (i + 1))), (0, .ref mo), (1, .int (oI lo))] rfl 63 rfl ?_
          refine G_goto C dX7_laysFine_63 40 rfl ?_
          refine G_eq (ws' := [(mo, .inr (7, [.ref ma0, .ref ma1, .ref ma2, .int (nI ns), .ref ma4, .ref ma5, .int (nI mlen), .ref ma7, .int (bI ((gp mgb ln lo ((gi mgb ln n lo j).1, false) (i + 1)).2)), .ref ma9, .ref ma10, .ref ma11, .ref ma12, .int (nI mm), .int (nI pl), .ref ma15, .int (nI wm), .long hh])), (ma0, .inl (E.2.1, 15, .inl (aN Nw))), (ma7, .inl (E.2.1, 10, .inl (aN ((gp mgb ln lo ((gi mgb ln n lo j).1, false) (i + 1)).1))))]) (by simp only [gp]; rw [if_pos h_4]) rfl rfl ?_
          exact ih (i + 1) (by omega) (by omega)
        · refine G_aload_n C dX7_laysFine_55 rfl 56 rfl ?_
          refine G_iload_n C dX7_laysFine_56 rfl 57 rfl ?_
          refine G_cV C dX7_laysFine_57 (c_X7_growsBy l E mo ma0 ma1 ma2 ma4 ma5 ma7 ma9 ma10 ma11 ma12 ma15 ns mlen mm pl wm ((gp mgb ln lo ((gi mgb ln n lo j).1, false) i).2) hh Nw ((gp mgb ln lo ((gi mgb ln n lo j).1, false) i).1) i (ln i) (by omega) (hok.c (by omega)) (hok.v (by omega)) (gp_sok gst_m ((gi mgb ln n lo j).1, false) (gi_sok gst_m hok.l j) i (fun k hk => hok.v (by omega))).1) wm_X7_86 wi_X7_growsBy wsel_X7_growsBy wn_X7 wc_X7_growsBy rfl rfl ⟨by decide, by decide, rfl⟩ rfl (Nat.le_of_ble_eq_true rfl) 7 rfl rfl 0 rfl [0, 1, 2] [] (wr := []) rfl rfl rfl rfl rfl [0, 1, 2] rfl [(mo, .inr (7, [.ref ma0, .ref ma1, .ref ma2, .int (nI ns), .ref ma4, .ref ma5, .int (nI mlen), .ref ma7, .int (bI ((mgb (ln i) (((gp mgb ln lo ((gi mgb ln n lo j).1, false) i).1), ((gp mgb ln lo ((gi mgb ln n lo j).1, false) i).2))).2)), .ref ma9, .ref ma10, .ref ma11, .ref ma12, .int (nI mm), .int (nI pl), .ref ma15, .int (nI wm), .long hh])), (ma0, .inl (E.2.1, 15, .inl (aN Nw))), (ma7, .inl (E.2.1, 10, .inl (aN ((mgb (ln i) (((gp mgb ln lo ((gi mgb ln n lo j).1, false) i).1), ((gp mgb ln lo ((gi mgb ln n lo j).1, false) i).2))).1))))] rfl rfl [] rfl 60 rfl ?_
          refine G_iinc C dX7_laysFine_60 0 rfl (nI_1 _) (by decide) [(2, .int (nI (i + 1))), (0, .ref mo), (1, .int (oI lo))] rfl 63 rfl ?_
          refine G_goto C dX7_laysFine_63 40 rfl ?_
          refine G_eq (ws' := [(mo, .inr (7, [.ref ma0, .ref ma1, .ref ma2, .int (nI ns), .ref ma4, .ref ma5, .int (nI mlen), .ref ma7, .int (bI ((gp mgb ln lo ((gi mgb ln n lo j).1, false) (i + 1)).2)), .ref ma9, .ref ma10, .ref ma11, .ref ma12, .int (nI mm), .int (nI pl), .ref ma15, .int (nI wm), .long hh])), (ma0, .inl (E.2.1, 15, .inl (aN Nw))), (ma7, .inl (E.2.1, 10, .inl (aN ((gp mgb ln lo ((gi mgb ln n lo j).1, false) (i + 1)).1))))]) (by simp only [gp]; rw [if_neg h_4]) rfl rfl ?_
          exact ih (i + 1) (by omega) (by omega)
  · refine G_aload_n C dX7_laysFine_8 rfl 9 rfl ?_
    refine G_getf C dX7_laysFine_9 wF_X7 wf_X7_25 (f := 7) (by decide) (ci := 7) rfl 0 rfl rfl 12 rfl ?_
    refine G_iload_n C dX7_laysFine_12 rfl 13 rfl ?_
    refine G_iconst C dX7_laysFine_13 (v := nI 0) rfl 14 rfl ?_
    refine G_iastN C dX7_laysFine_14 2 rfl rfl (x := 0) (by omega) [(mo, .inr (7, [.ref ma0, .ref ma1, .ref ma2, .int (nI ns), .ref ma4, .ref ma5, .int (nI mlen), .ref ma7, .int (bI gw), .ref ma9, .ref ma10, .ref ma11, .ref ma12, .int (nI mm), .int (nI pl), .ref ma15, .int (nI wm), .long hh])), (ma0, .inl (E.2.1, 15, .inl (aN Nw))), (ma7, .inl (E.2.1, 10, .inl (aN (va_up (flG (fun _ => 0) S x) x 0))))] rfl 15 rfl ?_
    refine G_iinc C dX7_laysFine_15 0 rfl (nI_1 _) (by decide) [(2, .int (nI (x + 1))), (0, .ref mo), (1, .int (oI lo))] rfl 18 rfl ?_
    refine G_goto C dX7_laysFine_18 2 rfl ?_
    refine G_eq (ws' := [(mo, .inr (7, [.ref ma0, .ref ma1, .ref ma2, .int (nI ns), .ref ma4, .ref ma5, .int (nI mlen), .ref ma7, .int (bI gw), .ref ma9, .ref ma10, .ref ma11, .ref ma12, .int (nI mm), .int (nI pl), .ref ma15, .int (nI wm), .long hh])), (ma0, .inl (E.2.1, 15, .inl (aN Nw))), (ma7, .inl (E.2.1, 10, .inl (aN (flG (fun _ => 0) S (x + 1)))))]) (by rw [flG_s (fun _ => 0) S x]) rfl rfl ?_
    exact ihx (x + 1) (by omega) (by omega)
