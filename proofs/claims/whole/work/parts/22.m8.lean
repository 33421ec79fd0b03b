set_option maxHeartbeats 4000000 in
set_option maxRecDepth 100000 in
theorem c_X6_refuseBad (l : Launch) (E : gE) (jo o so to fo co ro bd nb fl : Nat)  : FD l E yX6_refuseBad cX6_refuseBad 1 (some .int) { frames := 0, cells := 0, slots := 0, locals := 0 } [.ref jo] [(jo, .inr (6, [.ref o, .ref so, .ref to, .ref fo, .ref co, .ref ro, .int (nI bd), .int (nI nb), .int (nI fl)]))] (some (.int (-2 : Int32))) [(jo, .inr (6, [.ref o, .ref so, .ref to, .ref fo, .ref co, .ref ro, .int (nI (bd + 1)), .int (nI nb), .int (nI fl)]))] := by
  refine Fn_ofL (own := RX6) (by decide) rfl rfl [(0, .ref jo)] rfl ?_
  intro p e s m below meth c A C hr hnm
  refine G_aload_n C dX6_refuseBad_0 rfl 1 rfl ?_
  refine G_dup C dX6_refuseBad_1 rfl 2 rfl ?_
  refine G_getf C dX6_refuseBad_2 wF_X6 wf_X6_185 (f := 6) (by decide) (ci := 6) rfl 0 rfl rfl 5 rfl ?_
  refine G_iconst C dX6_refuseBad_5 (v := nI 1) rfl 6 rfl ?_
  refine G_iadd C dX6_refuseBad_6 (v := nI (bd + 1)) (nI_add _ _) 7 rfl ?_
  refine G_putf C dX6_refuseBad_7 wF_X6 wf_X6_185 (f := 6) (by decide) (ci := 6) rfl tyX6_ok nmX6 rfl 0 rfl rfl rfl (Nat.le_of_ble_eq_true rfl) [(jo, .inr (6, [.ref o, .ref so, .ref to, .ref fo, .ref co, .ref ro, .int (nI (bd + 1)), .int (nI nb), .int (nI fl)]))] rfl 10 rfl ?_
  refine G_bipush C dX6_refuseBad_10 (v := (-2 : Int32)) (by decide) 12 rfl ?_
  exact G_iret C hr dX6_refuseBad_12 rfl () trivial rfl rfl

set_option maxHeartbeats 4000000 in
set_option maxRecDepth 100000 in
theorem c_X6_refuseNo (l : Launch) (E : gE) (jo o so to fo co ro bd nb fl : Nat)  : FD l E yX6_refuseNo cX6_refuseNo 1 (some .int) { frames := 0, cells := 0, slots := 0, locals := 0 } [.ref jo] [(jo, .inr (6, [.ref o, .ref so, .ref to, .ref fo, .ref co, .ref ro, .int (nI bd), .int (nI nb), .int (nI fl)]))] (some (.int (-3 : Int32))) [(jo, .inr (6, [.ref o, .ref so, .ref to, .ref fo, .ref co, .ref ro, .int (nI bd), .int (nI (nb + 1)), .int (nI fl)]))] := by
  refine Fn_ofL (own := RX6) (by decide) rfl rfl [(0, .ref jo)] rfl ?_
  intro p e s m below meth c A C hr hnm
  refine G_aload_n C dX6_refuseNo_0 rfl 1 rfl ?_
  refine G_dup C dX6_refuseNo_1 rfl 2 rfl ?_
  refine G_getf C dX6_refuseNo_2 wF_X6 wf_X6_189 (f := 7) (by decide) (ci := 6) rfl 0 rfl rfl 5 rfl ?_
  refine G_iconst C dX6_refuseNo_5 (v := nI 1) rfl 6 rfl ?_
  refine G_iadd C dX6_refuseNo_6 (v := nI (nb + 1)) (nI_add _ _) 7 rfl ?_
  refine G_putf C dX6_refuseNo_7 wF_X6 wf_X6_189 (f := 7) (by decide) (ci := 6) rfl tyX6_ok nmX6 rfl 0 rfl rfl rfl (Nat.le_of_ble_eq_true rfl) [(jo, .inr (6, [.ref o, .ref so, .ref to, .ref fo, .ref co, .ref ro, .int (nI bd), .int (nI (nb + 1)), .int (nI fl)]))] rfl 10 rfl ?_
  refine G_bipush C dX6_refuseNo_10 (v := (-3 : Int32)) (by decide) 12 rfl ?_
  exact G_iret C hr dX6_refuseNo_12 rfl () trivial rfl rfl

set_option maxHeartbeats 4000000 in
set_option maxRecDepth 100000 in
theorem c_X6_refuseFull (l : Launch) (E : gE) (jo o so to fo co ro bd nb fl : Nat)  : FD l E yX6_refuseFull cX6_refuseFull 1 (some .int) { frames := 0, cells := 0, slots := 0, locals := 0 } [.ref jo] [(jo, .inr (6, [.ref o, .ref so, .ref to, .ref fo, .ref co, .ref ro, .int (nI bd), .int (nI nb), .int (nI fl)]))] (some (.int (-4 : Int32))) [(jo, .inr (6, [.ref o, .ref so, .ref to, .ref fo, .ref co, .ref ro, .int (nI bd), .int (nI nb), .int (nI (fl + 1))]))] := by
  refine Fn_ofL (own := RX6) (by decide) rfl rfl [(0, .ref jo)] rfl ?_
  intro p e s m below meth c A C hr hnm
  refine G_aload_n C dX6_refuseFull_0 rfl 1 rfl ?_
  refine G_dup C dX6_refuseFull_1 rfl 2 rfl ?_
  refine G_getf C dX6_refuseFull_2 wF_X6 wf_X6_192 (f := 8) (by decide) (ci := 6) rfl 0 rfl rfl 5 rfl ?_
  refine G_iconst C dX6_refuseFull_5 (v := nI 1) rfl 6 rfl ?_
  refine G_iadd C dX6_refuseFull_6 (v := nI (fl + 1)) (nI_add _ _) 7 rfl ?_
  refine G_putf C dX6_refuseFull_7 wF_X6 wf_X6_192 (f := 8) (by decide) (ci := 6) rfl tyX6_ok nmX6 rfl 0 rfl rfl rfl (Nat.le_of_ble_eq_true rfl) [(jo, .inr (6, [.ref o, .ref so, .ref to, .ref fo, .ref co, .ref ro, .int (nI bd), .int (nI nb), .int (nI (fl + 1))]))] rfl 10 rfl ?_
  refine G_bipush C dX6_refuseFull_10 (v := (-4 : Int32)) (by decide) 12 rfl ?_
  exact G_iret C hr dX6_refuseFull_12 rfl () trivial rfl rfl

set_option maxHeartbeats 4000000 in
set_option maxRecDepth 100000 in
theorem c_X6_belowI (l : Launch) (E : gE) (v : Int32) (b : Nat) (hb : b < 2 ^ 31) : FD l E yX6_below cX6_below 2 (some .boolean) { frames := 0, cells := 0, slots := 0, locals := 0 } [.int v, .int (nI b)] [] (some (.int (bI (inb v b)))) [] := by
  refine Fn_ofL (own := RX6) (by decide) rfl rfl [(0, .int v), (1, .int (nI b))] rfl ?_
  intro p e s m below meth c A C hr hnm
  refine G_iload_n C dX6_below_0 rfl 1 rfl ?_
  refine G_if_lt C dX6_below_1 13 rfl 4 rfl (i_lt0 _) (fun h_1 => ?_) (fun h_1 => ?_)
  · refine G_iconst C dX6_below_13 (v := nI 0) rfl 14 rfl ?_
    exact G_iret C hr dX6_below_14 (by decide) () trivial (bI_r0 (by omega)) rfl
  · refine G_iload_n C dX6_below_4 rfl 5 rfl ?_
    refine G_iload_n C dX6_below_5 rfl 6 rfl ?_
    refine G_icmp_ge C dX6_below_6 13 rfl 9 rfl (i_Nle _ (by omega)) (fun h_2 => ?_) (fun h_2 => ?_)
    · refine G_iconst C dX6_below_13 (v := nI 0) rfl 14 rfl ?_
      exact G_iret C hr dX6_below_14 (by decide) () trivial (bI_r0 (by omega)) rfl
    · refine G_iconst C dX6_below_9 (v := nI 1) rfl 10 rfl ?_
      refine G_goto C dX6_below_10 14 rfl ?_
      exact G_iret C hr dX6_below_14 (by decide) () trivial (bI_r1 (by omega)) rfl

set_option maxHeartbeats 4000000 in
set_option maxRecDepth 100000 in
theorem c_X6_isLine (l : Launch) (E : gE) (jo o so to fo co ro bd nb fl : Nat) (a n : Nat) (Cd : Nat → Nat) (v : Int32) (hn : n ≤ 14) : FD l E yX6_isLine cX6_isLine 2 (some .boolean) { frames := 1, cells := 0, slots := 0, locals := 21 } [.ref jo, .int v] [(jo, .inr (6, [.ref o, .ref so, .ref to, .ref fo, .ref co, .ref ro, .int (nI bd), .int (nI nb), .int (nI fl)])), (o, .inr (2, [.ref a, .int (nI n)])), (a, .inl (E.2.1, 14, .inl (aN Cd)))] (some (.int (bI (inb v n)))) [(jo, .inr (6, [.ref o, .ref so, .ref to, .ref fo, .ref co, .ref ro, .int (nI bd), .int (nI nb), .int (nI fl)])), (o, .inr (2, [.ref a, .int (nI n)])), (a, .inl (E.2.1, 14, .inl (aN Cd)))] := by
  refine Fn_ofL (own := RX6) (by decide) rfl rfl [(0, .ref jo), (1, .int v)] rfl ?_
  intro p e s m below meth c A C hr hnm
  refine G_iload_n C dX6_isLine_0 rfl 1 rfl ?_
  refine G_aload_n C dX6_isLine_1 rfl 2 rfl ?_
  refine G_getf C dX6_isLine_2 wF_X6 wf_X6_10 (f := 0) (by decide) (ci := 6) rfl 0 rfl rfl 5 rfl ?_
  refine G_cV C dX6_isLine_5 (c_X2_size l E o a n Cd ) wm_X6_63 wi_X2_size wsel_X2_size wn_X2 wc_X2_size rfl rfl ⟨by decide, by decide, rfl⟩ rfl (Nat.le_of_ble_eq_true rfl) 2 rfl rfl 0 rfl [1, 2] [0] (wr := [(jo, .inr (6, [.ref o, .ref so, .ref to, .ref fo, .ref co, .ref ro, .int (nI bd), .int (nI nb), .int (nI fl)]))]) rfl rfl rfl rfl rfl [0, 1, 2] rfl [(jo, .inr (6, [.ref o, .ref so, .ref to, .ref fo, .ref co, .ref ro, .int (nI bd), .int (nI nb), .int (nI fl)])), (o, .inr (2, [.ref a, .int (nI n)])), (a, .inl (E.2.1, 14, .inl (aN Cd)))] rfl rfl [.int (nI n), .int v] rfl 8 rfl ?_
  refine G_cS C dX6_isLine_8 (c_X6_belowI l E v n (by omega)) wm_X6_51 wt_X6_below wn_X6 wc_X6_below rfl rfl ⟨by decide, by decide, rfl⟩ rfl (Nat.le_of_ble_eq_true rfl) [] [0, 1, 2] (wr := [(jo, .inr (6, [.ref o, .ref so, .ref to, .ref fo, .ref co, .ref ro, .int (nI bd), .int (nI nb), .int (nI fl)])), (o, .inr (2, [.ref a, .int (nI n)])), (a, .inl (E.2.1, 14, .inl (aN Cd)))]) rfl rfl rfl rfl rfl [0, 1, 2] rfl [(jo, .inr (6, [.ref o, .ref so, .ref to, .ref fo, .ref co, .ref ro, .int (nI bd), .int (nI nb), .int (nI fl)])), (o, .inr (2, [.ref a, .int (nI n)])), (a, .inl (E.2.1, 14, .inl (aN Cd)))] rfl rfl [.int (bI (inb v n))] rfl 11 rfl ?_
  exact G_iret C hr dX6_isLine_11 (bI_nar _) () trivial rfl rfl

set_option maxHeartbeats 4000000 in
set_option maxRecDepth 100000 in
theorem c_X6_tally (l : Launch) (E : gE) (jo o so to fo co ro bd nb fl : Nat) (a n : Nat) (Cd : Nat → Nat) (sk sn : Nat) (tb o3 len sr cx cy : Nat) (wh : Nat) (hw : wh < 6) : FD l E yX6_tally cX6_tally 2 (some .int) { frames := 1, cells := 0, slots := 0, locals := 20 } [.ref jo, .int (nI wh)] [(jo, .inr (6, [.ref o, .ref so, .ref to, .ref fo, .ref co, .ref ro, .int (nI bd), .int (nI nb), .int (nI fl)])), (o, .inr (2, [.ref a, .int (nI n)])), (a, .inl (E.2.1, 14, .inl (aN Cd))), (so, .inr (4, [.ref sk, .int (nI sn)])), (to, .inr (5, [.ref tb, .ref o3, .int (nI len), .int (nI sr), .int (fld cx), .int (fld cy)]))] (some (.int (nI (tly wh bd nb fl len n sn)))) [(jo, .inr (6, [.ref o, .ref so, .ref to, .ref fo, .ref co, .ref ro, .int (nI bd), .int (nI nb), .int (nI fl)])), (o, .inr (2, [.ref a, .int (nI n)])), (a, .inl (E.2.1, 14, .inl (aN Cd))), (so, .inr (4, [.ref sk, .int (nI sn)])), (to, .inr (5, [.ref tb, .ref o3, .int (nI len), .int (nI sr), .int (fld cx), .int (fld cy)]))] := by
  refine Fn_ofL (own := RX6) (by decide) rfl rfl [(0, .ref jo), (1, .int (nI wh))] rfl ?_
  intro p e s m below meth c A C hr hnm
  refine G_iload_n C dX6_tally_0 rfl 1 rfl ?_
  rcases (show wh = 0 ∨ wh = 1 ∨ wh = 2 ∨ wh = 3 ∨ wh = 4 ∨ wh = 5 by omega) with hs_1 | hs_1 | hs_1 | hs_1 | hs_1 | hs_1
  · refine G_top (v' := .int (nI 0)) (by rw [hs_1]) ?_
    refine G_tabIn C dX6_tally_1 (35) (by decide) (by decide) rfl 36 rfl ?_
    refine G_aload_n C dX6_tally_36 rfl 37 rfl ?_
    refine G_getf C dX6_tally_37 wF_X6 wf_X6_185 (f := 6) (by decide) (ci := 6) rfl 0 rfl rfl 40 rfl ?_
    exact G_iret C hr dX6_tally_40 rfl () trivial (by simp [tly, hs_1]) rfl
  · refine G_top (v' := .int (nI 1)) (by rw [hs_1]) ?_
    refine G_tabIn C dX6_tally_1 (40) (by decide) (by decide) rfl 41 rfl ?_
    refine G_aload_n C dX6_tally_41 rfl 42 rfl ?_
    refine G_getf C dX6_tally_42 wF_X6 wf_X6_189 (f := 7) (by decide) (ci := 6) rfl 0 rfl rfl 45 rfl ?_
    exact G_iret C hr dX6_tally_45 rfl () trivial (by simp [tly, hs_1]) rfl
  · refine G_top (v' := .int (nI 2)) (by rw [hs_1]) ?_
    refine G_tabIn C dX6_tally_1 (45) (by decide) (by decide) rfl 46 rfl ?_
    refine G_aload_n C dX6_tally_46 rfl 47 rfl ?_
    refine G_getf C dX6_tally_47 wF_X6 wf_X6_192 (f := 8) (by decide) (ci := 6) rfl 0 rfl rfl 50 rfl ?_
    exact G_iret C hr dX6_tally_50 rfl () trivial (by simp [tly, hs_1]) rfl
  · refine G_top (v' := .int (nI 3)) (by rw [hs_1]) ?_
    refine G_tabIn C dX6_tally_1 (50) (by decide) (by decide) rfl 51 rfl ?_
    refine G_aload_n C dX6_tally_51 rfl 52 rfl ?_
    refine G_getf C dX6_tally_52 wF_X6 wf_X6_26 (f := 2) (by decide) (ci := 6) rfl 0 rfl rfl 55 rfl ?_
    refine G_cV C dX6_tally_55 (c_X5_length l E to tb o3 len sr cx cy ) wm_X6_139 wi_X5_length wsel_X5_length wn_X5 wc_X5_length rfl rfl ⟨by decide, by decide, rfl⟩ rfl (Nat.le_of_ble_eq_true rfl) 5 rfl rfl 0 rfl [4] [0, 1, 2, 3] (wr := [(jo, .inr (6, [.ref o, .ref so, .ref to, .ref fo, .ref co, .ref ro, .int (nI bd), .int (nI nb), .int (nI fl)])), (o, .inr (2, [.ref a, .int (nI n)])), (a, .inl (E.2.1, 14, .inl (aN Cd))), (so, .inr (4, [.ref sk, .int (nI sn)]))]) rfl rfl rfl rfl rfl [0, 1, 2, 3, 4] rfl [(jo, .inr (6, [.ref o, .ref so, .ref to, .ref fo, .ref co, .ref ro, .int (nI bd), .int (nI nb), .int (nI fl)])), (o, .inr (2, [.ref a, .int (nI n)])), (a, .inl (E.2.1, 14, .inl (aN Cd))), (so, .inr (4, [.ref sk, .int (nI sn)])), (to, .inr (5, [.ref tb, .ref o3, .int (nI len), .int (nI sr), .int (fld cx), .int (fld cy)]))] rfl rfl [.int (nI len)] rfl 58 rfl ?_
    exact G_iret C hr dX6_tally_58 rfl () trivial (by simp [tly, hs_1]) rfl
  · refine G_top (v' := .int (nI 4)) (by rw [hs_1]) ?_
    refine G_tabIn C dX6_tally_1 (58) (by decide) (by decide) rfl 59 rfl ?_
    refine G_aload_n C dX6_tally_59 rfl 60 rfl ?_
    refine G_getf C dX6_tally_60 wF_X6 wf_X6_10 (f := 0) (by decide) (ci := 6) rfl 0 rfl rfl 63 rfl ?_
    refine G_cV C dX6_tally_63 (c_X2_size l E o a n Cd ) wm_X6_63 wi_X2_size wsel_X2_size wn_X2 wc_X2_size rfl rfl ⟨by decide, by decide, rfl⟩ rfl (Nat.le_of_ble_eq_true rfl) 2 rfl rfl 0 rfl [1, 2] [0, 3, 4] (wr := [(jo, .inr (6, [.ref o, .ref so, .ref to, .ref fo, .ref co, .ref ro, .int (nI bd), .int (nI nb), .int (nI fl)])), (so, .inr (4, [.ref sk, .int (nI sn)])), (to, .inr (5, [.ref tb, .ref o3, .int (nI len), .int (nI sr), .int (fld cx), .int (fld cy)]))]) rfl rfl rfl rfl rfl [0, 3, 4, 1, 2] rfl [(jo, .inr (6, [.ref o, .ref so, .ref to, .ref fo, .ref co, .ref ro, .int (nI bd), .int (nI nb), .int (nI fl)])), (o, .inr (2, [.ref a, .int (nI n)])), (a, .inl (E.2.1, 14, .inl (aN Cd))), (so, .inr (4, [.ref sk, .int (nI sn)])), (to, .inr (5, [.ref tb, .ref o3, .int (nI len), .int (nI sr), .int (fld cx), .int (fld cy)]))] rfl rfl [.int (nI n)] rfl 66 rfl ?_
    exact G_iret C hr dX6_tally_66 rfl () trivial (by simp [tly, hs_1]) rfl
  · refine G_top (v' := .int (nI 5)) (by rw [hs_1]) ?_
    refine G_tabOut C dX6_tally_1 (by decide) 67 rfl ?_
    refine G_aload_n C dX6_tally_67 rfl 68 rfl ?_
    refine G_getf C dX6_tally_68 wF_X6 wf_X6_19 (f := 1) (by decide) (ci := 6) rfl 0 rfl rfl 71 rfl ?_
    refine G_cV C dX6_tally_71 (c_X4_size l E so sk sn ) wm_X6_163 wi_X4_size wsel_X4_size wn_X4 wc_X4_size rfl rfl ⟨by decide, by decide, rfl⟩ rfl (Nat.le_of_ble_eq_true rfl) 4 rfl rfl 0 rfl [3] [0, 1, 2, 4] (wr := [(jo, .inr (6, [.ref o, .ref so, .ref to, .ref fo, .ref co, .ref ro, .int (nI bd), .int (nI nb), .int (nI fl)])), (o, .inr (2, [.ref a, .int (nI n)])), (a, .inl (E.2.1, 14, .inl (aN Cd))), (to, .inr (5, [.ref tb, .ref o3, .int (nI len), .int (nI sr), .int (fld cx), .int (fld cy)]))]) rfl rfl rfl rfl rfl [0, 1, 2, 4, 3] rfl [(jo, .inr (6, [.ref o, .ref so, .ref to, .ref fo, .ref co, .ref ro, .int (nI bd), .int (nI nb), .int (nI fl)])), (o, .inr (2, [.ref a, .int (nI n)])), (a, .inl (E.2.1, 14, .inl (aN Cd))), (so, .inr (4, [.ref sk, .int (nI sn)])), (to, .inr (5, [.ref tb, .ref o3, .int (nI len), .int (nI sr), .int (fld cx), .int (fld cy)]))] rfl rfl [.int (nI sn)] rfl 74 rfl ?_
    exact G_iret C hr dX6_tally_74 rfl () trivial (by simp [tly, hs_1]) rfl

set_option maxHeartbeats 4000000 in
set_option maxRecDepth 100000 in
theorem c_X6_writesOf (l : Launch) (E : gE) (jo o so to fo co ro bd nb fl : Nat) (a n : Nat) (Cd : Nat → Nat) (fa : Nat) (S : Nat → Nat) (i v : Nat) (hi : i < 14) (hc : Cd i = ce v) (hv : v < 400) : FD l E yX6_writesOf cX6_writesOf 3 (some .int) { frames := 1, cells := 0, slots := 0, locals := 21 } [.ref jo, .int (nI i)] [(jo, .inr (6, [.ref o, .ref so, .ref to, .ref fo, .ref co, .ref ro, .int (nI bd), .int (nI nb), .int (nI fl)])), (o, .inr (2, [.ref a, .int (nI n)])), (a, .inl (E.2.1, 14, .inl (aN Cd))), (fo, .inr (1, [.ref fa])), (fa, .inl (E.2.1, 10, .inl (aN S)))] (some (.int (nI (wrs v S)))) [(jo, .inr (6, [.ref o, .ref so, .ref to, .ref fo, .ref co, .ref ro, .int (nI bd), .int (nI nb), .int (nI fl)])), (o, .inr (2, [.ref a, .int (nI n)])), (a, .inl (E.2.1, 14, .inl (aN Cd))), (fo, .inr (1, [.ref fa])), (fa, .inl (E.2.1, 10, .inl (aN S)))] := by
  refine Fn_ofL (own := RX6) (by decide) rfl rfl [(0, .ref jo), (1, .int (nI i))] rfl ?_
  intro p e s m below meth c A C hr hnm
  refine G_aload_n C dX6_writesOf_0 rfl 1 rfl ?_
  refine G_getf C dX6_writesOf_1 wF_X6 wf_X6_10 (f := 0) (by decide) (ci := 6) rfl 0 rfl rfl 4 rfl ?_
  refine G_iload_n C dX6_writesOf_4 rfl 5 rfl ?_
  refine G_cV C dX6_writesOf_5 (c_X2_leftAt l E o a n Cd i v (by first | assumption | omega) (by first | assumption | omega) (by first | assumption | omega)) wm_X6_198 wi_X2_leftAt wsel_X2_leftAt wn_X2 wc_X2_leftAt rfl rfl ⟨by decide, by decide, rfl⟩ rfl (Nat.le_of_ble_eq_true rfl) 2 rfl rfl 0 rfl [1, 2] [0, 3, 4] (wr := [(jo, .inr (6, [.ref o, .ref so, .ref to, .ref fo, .ref co, .ref ro, .int (nI bd), .int (nI nb), .int (nI fl)])), (fo, .inr (1, [.ref fa])), (fa, .inl (E.2.1, 10, .inl (aN S)))]) rfl rfl rfl rfl rfl [0, 3, 4, 1, 2] rfl [(jo, .inr (6, [.ref o, .ref so, .ref to, .ref fo, .ref co, .ref ro, .int (nI bd), .int (nI nb), .int (nI fl)])), (o, .inr (2, [.ref a, .int (nI n)])), (a, .inl (E.2.1, 14, .inl (aN Cd))), (fo, .inr (1, [.ref fa])), (fa, .inl (E.2.1, 10, .inl (aN S)))] rfl rfl [.int (nI (v / 10 % 10))] rfl 8 rfl ?_
  refine G_istore_n C dX6_writesOf_8 (by decide) [(2, .int (nI (v / 10 % 10))), (0, .ref jo), (1, .int (nI i))] rfl 9 rfl ?_
  refine G_aload_n C dX6_writesOf_9 rfl 10 rfl ?_
  refine G_getf C dX6_writesOf_10 wF_X6 wf_X6_10 (f := 0) (by decide) (ci := 6) rfl 0 rfl rfl 13 rfl ?_
  refine G_iload_n C dX6_writesOf_13 rfl 14 rfl ?_
  refine G_cV C dX6_writesOf_14 (c_X2_sortAt l E o a n Cd i v (by first | assumption | omega) (by first | assumption | omega) (by first | assumption | omega)) wm_X6_195 wi_X2_sortAt wsel_X2_sortAt wn_X2 wc_X2_sortAt rfl rfl ⟨by decide, by decide, rfl⟩ rfl (Nat.le_of_ble_eq_true rfl) 2 rfl rfl 0 rfl [1, 2] [0, 3, 4] (wr := [(jo, .inr (6, [.ref o, .ref so, .ref to, .ref fo, .ref co, .ref ro, .int (nI bd), .int (nI nb), .int (nI fl)])), (fo, .inr (1, [.ref fa])), (fa, .inl (E.2.1, 10, .inl (aN S)))]) rfl rfl rfl rfl rfl [0, 3, 4, 1, 2] rfl [(jo, .inr (6, [.ref o, .ref so, .ref to, .ref fo, .ref co, .ref ro, .int (nI bd), .int (nI nb), .int (nI fl)])), (o, .inr (2, [.ref a, .int (nI n)])), (a, .inl (E.2.1, 14, .inl (aN Cd))), (fo, .inr (1, [.ref fa])), (fa, .inl (E.2.1, 10, .inl (aN S)))] rfl rfl [.int (nI (v / 100))] rfl 17 rfl ?_
  refine G_iconst C dX6_writesOf_17 (v := nI 3) rfl 18 rfl ?_
  refine G_icmp_ne C dX6_writesOf_18 32 rfl 21 rfl (nI_eq (by omega) (by omega)) (fun h_1 => ?_) (fun h_1 => ?_)
  · refine G_iload_n C dX6_writesOf_32 rfl 33 rfl ?_
    refine G_cS C dX6_writesOf_33 (c_X6_bit l E (v / 10 % 10) (by first | assumption | omega)) wm_X6_182 wt_X6_bit wn_X6 wc_X6_bit rfl rfl ⟨by decide, by decide, rfl⟩ rfl (Nat.le_of_ble_eq_true rfl) [] [0, 1, 2, 3, 4] (wr := [(jo, .inr (6, [.ref o, .ref so, .ref to, .ref fo, .ref co, .ref ro, .int (nI bd), .int (nI nb), .int (nI fl)])), (o, .inr (2, [.ref a, .int (nI n)])), (a, .inl (E.2.1, 14, .inl (aN Cd))), (fo, .inr (1, [.ref fa])), (fa, .inl (E.2.1, 10, .inl (aN S)))]) rfl rfl rfl rfl rfl [0, 1, 2, 3, 4] rfl [(jo, .inr (6, [.ref o, .ref so, .ref to, .ref fo, .ref co, .ref ro, .int (nI bd), .int (nI nb), .int (nI fl)])), (o, .inr (2, [.ref a, .int (nI n)])), (a, .inl (E.2.1, 14, .inl (aN Cd))), (fo, .inr (1, [.ref fa])), (fa, .inl (E.2.1, 10, .inl (aN S)))] rfl rfl [.int (nI (2 ^ (v / 10 % 10)))] rfl 36 rfl ?_
    exact G_iret C hr dX6_writesOf_36 rfl () trivial (by simp [wrs, h_1]) rfl
  · refine G_aload_n C dX6_writesOf_21 rfl 22 rfl ?_
    refine G_getf C dX6_writesOf_22 wF_X6 wf_X6_33 (f := 3) (by decide) (ci := 6) rfl 0 rfl rfl 25 rfl ?_
    refine G_iload_n C dX6_writesOf_25 rfl 26 rfl ?_
    refine G_cV C dX6_writesOf_26 (c_X1_setOf l E fo fa S (v / 10 % 10) (by first | assumption | omega)) wm_X6_103 wi_X1_setOf wsel_X1_setOf wn_X1 wc_X1_setOf rfl rfl ⟨by decide, by decide, rfl⟩ rfl (Nat.le_of_ble_eq_true rfl) 1 rfl rfl 0 rfl [3, 4] [0, 1, 2] (wr := [(jo, .inr (6, [.ref o, .ref so, .ref to, .ref fo, .ref co, .ref ro, .int (nI bd), .int (nI nb), .int (nI fl)])), (o, .inr (2, [.ref a, .int (nI n)])), (a, .inl (E.2.1, 14, .inl (aN Cd)))]) rfl rfl rfl rfl rfl [0, 1, 2, 3, 4] rfl [(jo, .inr (6, [.ref o, .ref so, .ref to, .ref fo, .ref co, .ref ro, .int (nI bd), .int (nI nb), .int (nI fl)])), (o, .inr (2, [.ref a, .int (nI n)])), (a, .inl (E.2.1, 14, .inl (aN Cd))), (fo, .inr (1, [.ref fa])), (fa, .inl (E.2.1, 10, .inl (aN S)))] rfl rfl [.int (nI (S (v / 10 % 10)))] rfl 29 rfl ?_
    refine G_goto C dX6_writesOf_29 36 rfl ?_
    exact G_iret C hr dX6_writesOf_36 rfl () trivial (by simp [wrs, h_1]) rfl

set_option maxHeartbeats 4000000 in
set_option maxRecDepth 100000 in
theorem c_X6_readsOf (l : Launch) (E : gE) (jo o so to fo co ro bd nb fl : Nat) (a n : Nat) (Cd : Nat → Nat) (fa : Nat) (S : Nat → Nat) (i v : Nat) (hi : i < 14) (hc : Cd i = ce v) (hv : v < 400) : FD l E yX6_readsOf cX6_readsOf 4 (some .int) { frames := 1, cells := 0, slots := 0, locals := 21 } [.ref jo, .int (nI i)] [(jo, .inr (6, [.ref o, .ref so, .ref to, .ref fo, .ref co, .ref ro, .int (nI bd), .int (nI nb), .int (nI fl)])), (o, .inr (2, [.ref a, .int (nI n)])), (a, .inl (E.2.1, 14, .inl (aN Cd))), (fo, .inr (1, [.ref fa])), (fa, .inl (E.2.1, 10, .inl (aN S)))] (some (.int (nI (rds v S)))) [(jo, .inr (6, [.ref o, .ref so, .ref to, .ref fo, .ref co, .ref ro, .int (nI bd), .int (nI nb), .int (nI fl)])), (o, .inr (2, [.ref a, .int (nI n)])), (a, .inl (E.2.1, 14, .inl (aN Cd))), (fo, .inr (1, [.ref fa])), (fa, .inl (E.2.1, 10, .inl (aN S)))] := by
  refine Fn_ofL (own := RX6) (by decide) rfl rfl [(0, .ref jo), (1, .int (nI i))] rfl ?_
  intro p e s m below meth c A C hr hnm
  refine G_aload_n C dX6_readsOf_0 rfl 1 rfl ?_
  refine G_getf C dX6_readsOf_1 wF_X6 wf_X6_10 (f := 0) (by decide) (ci := 6) rfl 0 rfl rfl 4 rfl ?_
  refine G_iload_n C dX6_readsOf_4 rfl 5 rfl ?_
  refine G_cV C dX6_readsOf_5 (c_X2_leftAt l E o a n Cd i v (by first | assumption | omega) (by first | assumption | omega) (by first | assumption | omega)) wm_X6_198 wi_X2_leftAt wsel_X2_leftAt wn_X2 wc_X2_leftAt rfl rfl ⟨by decide, by decide, rfl⟩ rfl (Nat.le_of_ble_eq_true rfl) 2 rfl rfl 0 rfl [1, 2] [0, 3, 4] (wr := [(jo, .inr (6, [.ref o, .ref so, .ref to, .ref fo, .ref co, .ref ro, .int (nI bd), .int (nI nb), .int (nI fl)])), (fo, .inr (1, [.ref fa])), (fa, .inl (E.2.1, 10, .inl (aN S)))]) rfl rfl rfl rfl rfl [0, 3, 4, 1, 2] rfl [(jo, .inr (6, [.ref o, .ref so, .ref to, .ref fo, .ref co, .ref ro, .int (nI bd), .int (nI nb), .int (nI fl)])), (o, .inr (2, [.ref a, .int (nI n)])), (a, .inl (E.2.1, 14, .inl (aN Cd))), (fo, .inr (1, [.ref fa])), (fa, .inl (E.2.1, 10, .inl (aN S)))] rfl rfl [.int (nI (v / 10 % 10))] rfl 8 rfl ?_
  refine G_istore_n C dX6_readsOf_8 (by decide) [(2, .int (nI (v / 10 % 10))), (0, .ref jo), (1, .int (nI i))] rfl 9 rfl ?_
  refine G_aload_n C dX6_readsOf_9 rfl 10 rfl ?_
  refine G_getf C dX6_readsOf_10 wF_X6 wf_X6_10 (f := 0) (by decide) (ci := 6) rfl 0 rfl rfl 13 rfl ?_
  refine G_iload_n C dX6_readsOf_13 rfl 14 rfl ?_
  refine G_cV C dX6_readsOf_14 (c_X2_rightAt l E o a n Cd i v (by first | assumption | omega) (by first | assumption | omega) (by first | assumption | omega)) wm_X6_201 wi_X2_rightAt wsel_X2_rightAt wn_X2 wc_X2_rightAt rfl rfl ⟨by decide, by decide, rfl⟩ rfl (Nat.le_of_ble_eq_true rfl) 2 rfl rfl 0 rfl [1, 2] [0, 3, 4] (wr := [(jo, .inr (6, [.ref o, .ref so, .ref to, .ref fo, .ref co, .ref ro, .int (nI bd), .int (nI nb), .int (nI fl)])), (fo, .inr (1, [.ref fa])), (fa, .inl (E.2.1, 10, .inl (aN S)))]) rfl rfl rfl rfl rfl [0, 3, 4, 1, 2] rfl [(jo, .inr (6, [.ref o, .ref so, .ref to, .ref fo, .ref co, .ref ro, .int (nI bd), .int (nI nb), .int (nI fl)])), (o, .inr (2, [.ref a, .int (nI n)])), (a, .inl (E.2.1, 14, .inl (aN Cd))), (fo, .inr (1, [.ref fa])), (fa, .inl (E.2.1, 10, .inl (aN S)))] rfl rfl [.int (nI (v % 10))] rfl 17 rfl ?_
  refine G_istore_n C dX6_readsOf_17 (by decide) [(3, .int (nI (v % 10))), (2, .int (nI (v / 10 % 10))), (0, .ref jo), (1, .int (nI i))] rfl 18 rfl ?_
  refine G_aload_n C dX6_readsOf_18 rfl 19 rfl ?_
  refine G_getf C dX6_readsOf_19 wF_X6 wf_X6_10 (f := 0) (by decide) (ci := 6) rfl 0 rfl rfl 22 rfl ?_
  refine G_iload_n C dX6_readsOf_22 rfl 23 rfl ?_
  refine G_cV C dX6_readsOf_23 (c_X2_sortAt l E o a n Cd i v (by first | assumption | omega) (by first | assumption | omega) (by first | assumption | omega)) wm_X6_195 wi_X2_sortAt wsel_X2_sortAt wn_X2 wc_X2_sortAt rfl rfl ⟨by decide, by decide, rfl⟩ rfl (Nat.le_of_ble_eq_true rfl) 2 rfl rfl 0 rfl [1, 2] [0, 3, 4] (wr := [(jo, .inr (6, [.ref o, .ref so, .ref to, .ref fo, .ref co, .ref ro, .int (nI bd), .int (nI nb), .int (nI fl)])), (fo, .inr (1, [.ref fa])), (fa, .inl (E.2.1, 10, .inl (aN S)))]) rfl rfl rfl rfl rfl [0, 3, 4, 1, 2] rfl [(jo, .inr (6, [.ref o, .ref so, .ref to, .ref fo, .ref co, .ref ro, .int (nI bd), .int (nI nb), .int (nI fl)])), (o, .inr (2, [.ref a, .int (nI n)])), (a, .inl (E.2.1, 14, .inl (aN Cd))), (fo, .inr (1, [.ref fa])), (fa, .inl (E.2.1, 10, .inl (aN S)))] rfl rfl [.int (nI (v / 100))] rfl 26 rfl ?_
  rcases (show v / 100 = 0 ∨ v / 100 = 1 ∨ v / 100 = 2 ∨ v / 100 = 3 by omega) with hs_1 | hs_1 | hs_1 | hs_1
  · refine G_top (v' := .int (nI 0)) (by rw [hs_1]) ?_
    refine G_tabIn C dX6_readsOf_26 (26) (by decide) (by decide) rfl 52 rfl ?_
    refine G_iconst C dX6_readsOf_52 (v := nI 0) rfl 53 rfl ?_
    exact G_iret C hr dX6_readsOf_53 rfl () trivial (by simp [rds, hs_1]) rfl
  · refine G_top (v' := .int (nI 1)) (by rw [hs_1]) ?_
    refine G_tabIn C dX6_readsOf_26 (28) (by decide) (by decide) rfl 54 rfl ?_
    refine G_iload_n C dX6_readsOf_54 rfl 55 rfl ?_
    refine G_cS C dX6_readsOf_55 (c_X6_bit l E (v % 10) (by first | assumption | omega)) wm_X6_182 wt_X6_bit wn_X6 wc_X6_bit rfl rfl ⟨by decide, by decide, rfl⟩ rfl (Nat.le_of_ble_eq_true rfl) [] [0, 1, 2, 3, 4] (wr := [(jo, .inr (6, [.ref o, .ref so, .ref to, .ref fo, .ref co, .ref ro, .int (nI bd), .int (nI nb), .int (nI fl)])), (o, .inr (2, [.ref a, .int (nI n)])), (a, .inl (E.2.1, 14, .inl (aN Cd))), (fo, .inr (1, [.ref fa])), (fa, .inl (E.2.1, 10, .inl (aN S)))]) rfl rfl rfl rfl rfl [0, 1, 2, 3, 4] rfl [(jo, .inr (6, [.ref o, .ref so, .ref to, .ref fo, .ref co, .ref ro, .int (nI bd), .int (nI nb), .int (nI fl)])), (o, .inr (2, [.ref a, .int (nI n)])), (a, .inl (E.2.1, 14, .inl (aN Cd))), (fo, .inr (1, [.ref fa])), (fa, .inl (E.2.1, 10, .inl (aN S)))] rfl rfl [.int (nI (2 ^ (v % 10)))] rfl 58 rfl ?_
    exact G_iret C hr dX6_readsOf_58 rfl () trivial (by simp [rds, hs_1]) rfl
  · refine G_top (v' := .int (nI 2)) (by rw [hs_1]) ?_
    refine G_tabIn C dX6_readsOf_26 (33) (by decide) (by decide) rfl 59 rfl ?_
    refine G_iload_n C dX6_readsOf_59 rfl 60 rfl ?_
    refine G_cS C dX6_readsOf_60 (c_X6_bit l E (v % 10) (by first | assumption | omega)) wm_X6_182 wt_X6_bit wn_X6 wc_X6_bit rfl rfl ⟨by decide, by decide, rfl⟩ rfl (Nat.le_of_ble_eq_true rfl) [] [0, 1, 2, 3, 4] (wr := [(jo, .inr (6, [.ref o, .ref so, .ref to, .ref fo, .ref co, .ref ro, .int (nI bd), .int (nI nb), .int (nI fl)])), (o, .inr (2, [.ref a, .int (nI n)])), (a, .inl (E.2.1, 14, .inl (aN Cd))), (fo, .inr (1, [.ref fa])), (fa, .inl (E.2.1, 10, .inl (aN S)))]) rfl rfl rfl rfl rfl [0, 1, 2, 3, 4] rfl [(jo, .inr (6, [.ref o, .ref so, .ref to, .ref fo, .ref co, .ref ro, .int (nI bd), .int (nI nb), .int (nI fl)])), (o, .inr (2, [.ref a, .int (nI n)])), (a, .inl (E.2.1, 14, .inl (aN Cd))), (fo, .inr (1, [.ref fa])), (fa, .inl (E.2.1, 10, .inl (aN S)))] rfl rfl [.int (nI (2 ^ (v % 10)))] rfl 63 rfl ?_
    refine G_aload_n C dX6_readsOf_63 rfl 64 rfl ?_
    refine G_getf C dX6_readsOf_64 wF_X6 wf_X6_33 (f := 3) (by decide) (ci := 6) rfl 0 rfl rfl 67 rfl ?_
    refine G_iload_n C dX6_readsOf_67 rfl 68 rfl ?_
    refine G_cV C dX6_readsOf_68 (c_X1_setOf l E fo fa S (v % 10) (by first | assumption | omega)) wm_X6_103 wi_X1_setOf wsel_X1_setOf wn_X1 wc_X1_setOf rfl rfl ⟨by decide, by decide, rfl⟩ rfl (Nat.le_of_ble_eq_true rfl) 1 rfl rfl 0 rfl [3, 4] [0, 1, 2] (wr := [(jo, .inr (6, [.ref o, .ref so, .ref to, .ref fo, .ref co, .ref ro, .int (nI bd), .int (nI nb), .int (nI fl)])), (o, .inr (2, [.ref a, .int (nI n)])), (a, .inl (E.2.1, 14, .inl (aN Cd)))]) rfl rfl rfl rfl rfl [0, 1, 2, 3, 4] rfl [(jo, .inr (6, [.ref o, .ref so, .ref to, .ref fo, .ref co, .ref ro, .int (nI bd), .int (nI nb), .int (nI fl)])), (o, .inr (2, [.ref a, .int (nI n)])), (a, .inl (E.2.1, 14, .inl (aN Cd))), (fo, .inr (1, [.ref fa])), (fa, .inl (E.2.1, 10, .inl (aN S)))] rfl rfl [.int (nI (S (v % 10))), .int (nI (2 ^ (v % 10)))] rfl 71 rfl ?_
    refine G_ior C dX6_readsOf_71 (v := nI ((2 ^ (v % 10)) ||| (S (v % 10)))) (fa_or _ _) 72 rfl ?_
    exact G_iret C hr dX6_readsOf_72 rfl () trivial (by simp [rds, hs_1]) rfl
  · refine G_top (v' := .int (nI 3)) (by rw [hs_1]) ?_
    refine G_tabOut C dX6_readsOf_26 (by decide) 73 rfl ?_
    refine G_iload_n C dX6_readsOf_73 rfl 74 rfl ?_
    refine G_cS C dX6_readsOf_74 (c_X6_bit l E (v / 10 % 10) (by first | assumption | omega)) wm_X6_182 wt_X6_bit wn_X6 wc_X6_bit rfl rfl ⟨by decide, by decide, rfl⟩ rfl (Nat.le_of_ble_eq_true rfl) [] [0, 1, 2, 3, 4] (wr := [(jo, .inr (6, [.ref o, .ref so, .ref to, .ref fo, .ref co, .ref ro, .int (nI bd), .int (nI nb), .int (nI fl)])), (o, .inr (2, [.ref a, .int (nI n)])), (a, .inl (E.2.1, 14, .inl (aN Cd))), (fo, .inr (1, [.ref fa])), (fa, .inl (E.2.1, 10, .inl (aN S)))]) rfl rfl rfl rfl rfl [0, 1, 2, 3, 4] rfl [(jo, .inr (6, [.ref o, .ref so, .ref to, .ref fo, .ref co, .ref ro, .int (nI bd), .int (nI nb), .int (nI fl)])), (o, .inr (2, [.ref a, .int (nI n)])), (a, .inl (E.2.1, 14, .inl (aN Cd))), (fo, .inr (1, [.ref fa])), (fa, .inl (E.2.1, 10, .inl (aN S)))] rfl rfl [.int (nI (2 ^ (v / 10 % 10)))] rfl 77 rfl ?_
    refine G_iload_n C dX6_readsOf_77 rfl 78 rfl ?_
    refine G_cS C dX6_readsOf_78 (c_X6_bit l E (v % 10) (by first | assumption | omega)) wm_X6_182 wt_X6_bit wn_X6 wc_X6_bit rfl rfl ⟨by decide, by decide, rfl⟩ rfl (Nat.le_of_ble_eq_true rfl) [] [0, 1, 2, 3, 4] (wr := [(jo, .inr (6, [.ref o, .ref so, .ref to, .ref fo, .ref co, .ref ro, .int (nI bd), .int (nI nb), .int (nI fl)])), (o, .inr (2, [.ref a, .int (nI n)])), (a, .inl (E.2.1, 14, .inl (aN Cd))), (fo, .inr (1, [.ref fa])), (fa, .inl (E.2.1, 10, .inl (aN S)))]) rfl rfl rfl rfl rfl [0, 1, 2, 3, 4] rfl [(jo, .inr (6, [.ref o, .ref so, .ref to, .ref fo, .ref co, .ref ro, .int (nI bd), .int (nI nb), .int (nI fl)])), (o, .inr (2, [.ref a, .int (nI n)])), (a, .inl (E.2.1, 14, .inl (aN Cd))), (fo, .inr (1, [.ref fa])), (fa, .inl (E.2.1, 10, .inl (aN S)))] rfl rfl [.int (nI (2 ^ (v % 10))), .int (nI (2 ^ (v / 10 % 10)))] rfl 81 rfl ?_
    refine G_ior C dX6_readsOf_81 (v := nI ((2 ^ (v / 10 % 10)) ||| (2 ^ (v % 10)))) (fa_or _ _) 82 rfl ?_
    exact G_iret C hr dX6_readsOf_82 rfl () trivial (by simp [rds, hs_1]) rfl

set_option maxHeartbeats 4000000 in
set_option maxRecDepth 100000 in
theorem c_X6_lineDetail (l : Launch) (E : gE) (jo o so to fo co ro bd nb fl : Nat) (a n : Nat) (Cd : Nat → Nat) (fa : Nat) (S : Nat → Nat) (i v wh : Nat) (hi : i < 14) (hc : Cd i = ce v) (hv : v < 400) (hw : wh < 5) : FD l E yX6_lineDetail cX6_lineDetail 3 (some .int) { frames := 2, cells := 0, slots := 0, locals := 44 } [.ref jo, .int (nI i), .int (nI wh)] [(jo, .inr (6, [.ref o, .ref so, .ref to, .ref fo, .ref co, .ref ro, .int (nI bd), .int (nI nb), .int (nI fl)])), (o, .inr (2, [.ref a, .int (nI n)])), (a, .inl (E.2.1, 14, .inl (aN Cd))), (fo, .inr (1, [.ref fa])), (fa, .inl (E.2.1, 10, .inl (aN S)))] (some (.int (nI (ofD v S wh)))) [(jo, .inr (6, [.ref o, .ref so, .ref to, .ref fo, .ref co, .ref ro, .int (nI bd), .int (nI nb), .int (nI fl)])), (o, .inr (2, [.ref a, .int (nI n)])), (a, .inl (E.2.1, 14, .inl (aN Cd))), (fo, .inr (1, [.ref fa])), (fa, .inl (E.2.1, 10, .inl (aN S)))] := by
  refine Fn_ofL (own := RX6) (by decide) rfl rfl [(0, .ref jo), (1, .int (nI i)), (2, .int (nI wh))] rfl ?_
  intro p e s m below meth c A C hr hnm
  refine G_iload_n C dX6_lineDetail_0 rfl 1 rfl ?_
  rcases (show wh = 0 ∨ wh = 1 ∨ wh = 2 ∨ wh = 3 ∨ wh = 4 by omega) with hs_1 | hs_1 | hs_1 | hs_1 | hs_1
  · refine G_top (v' := .int (nI 0)) (by rw [hs_1]) ?_
    refine G_tabIn C dX6_lineDetail_1 (31) (by decide) (by decide) rfl 32 rfl ?_
    refine G_aload_n C dX6_lineDetail_32 rfl 33 rfl ?_
    refine G_getf C dX6_lineDetail_33 wF_X6 wf_X6_10 (f := 0) (by decide) (ci := 6) rfl 0 rfl rfl 36 rfl ?_
    refine G_iload_n C dX6_lineDetail_36 rfl 37 rfl ?_
    refine G_cV C dX6_lineDetail_37 (c_X2_sortAt l E o a n Cd i v (by first | assumption | omega) (by first | assumption | omega) (by first | assumption | omega)) wm_X6_195 wi_X2_sortAt wsel_X2_sortAt wn_X2 wc_X2_sortAt rfl rfl ⟨by decide, by decide, rfl⟩ rfl (Nat.le_of_ble_eq_true rfl) 2 rfl rfl 0 rfl [1, 2] [0, 3, 4] (wr := [(jo, .inr (6, [.ref o, .ref so, .ref to, .ref fo, .ref co, .ref ro, .int (nI bd), .int (nI nb), .int (nI fl)])), (fo, .inr (1, [.ref fa])), (fa, .inl (E.2.1, 10, .inl (aN S)))]) rfl rfl rfl rfl rfl [0, 3, 4, 1, 2] rfl [(jo, .inr (6, [.ref o, .ref so, .ref to, .ref fo, .ref co, .ref ro, .int (nI bd), .int (nI nb), .int (nI fl)])), (o, .inr (2, [.ref a, .int (nI n)])), (a, .inl (E.2.1, 14, .inl (aN Cd))), (fo, .inr (1, [.ref fa])), (fa, .inl (E.2.1, 10, .inl (aN S)))] rfl rfl [.int (nI (v / 100))] rfl 40 rfl ?_
    exact G_iret C hr dX6_lineDetail_40 rfl () trivial (by simp [ofD, hs_1]) rfl
  · refine G_top (v' := .int (nI 1)) (by rw [hs_1]) ?_
    refine G_tabIn C dX6_lineDetail_1 (40) (by decide) (by decide) rfl 41 rfl ?_
    refine G_aload_n C dX6_lineDetail_41 rfl 42 rfl ?_
    refine G_getf C dX6_lineDetail_42 wF_X6 wf_X6_10 (f := 0) (by decide) (ci := 6) rfl 0 rfl rfl 45 rfl ?_
    refine G_iload_n C dX6_lineDetail_45 rfl 46 rfl ?_
    refine G_cV C dX6_lineDetail_46 (c_X2_leftAt l E o a n Cd i v (by first | assumption | omega) (by first | assumption | omega) (by first | assumption | omega)) wm_X6_198 wi_X2_leftAt wsel_X2_leftAt wn_X2 wc_X2_leftAt rfl rfl ⟨by decide, by decide, rfl⟩ rfl (Nat.le_of_ble_eq_true rfl) 2 rfl rfl 0 rfl [1, 2] [0, 3, 4] (wr := [(jo, .inr (6, [.ref o, .ref so, .ref to, .ref fo, .ref co, .ref ro, .int (nI bd), .int (nI nb), .int (nI fl)])), (fo, .inr (1, [.ref fa])), (fa, .inl (E.2.1, 10, .inl (aN S)))]) rfl rfl rfl rfl rfl [0, 3, 4, 1, 2] rfl [(jo, .inr (6, [.ref o, .ref so, .ref to, .ref fo, .ref co, .ref ro, .int (nI bd), .int (nI nb), .int (nI fl)])), (o, .inr (2, [.ref a, .int (nI n)])), (a, .inl (E.2.1, 14, .inl (aN Cd))), (fo, .inr (1, [.ref fa])), (fa, .inl (E.2.1, 10, .inl (aN S)))] rfl rfl [.int (nI (v / 10 % 10))] rfl 49 rfl ?_
    exact G_iret C hr dX6_lineDetail_49 rfl () trivial (by simp [ofD, hs_1]) rfl
  · refine G_top (v' := .int (nI 2)) (by rw [hs_1]) ?_
    refine G_tabIn C dX6_lineDetail_1 (49) (by decide) (by decide) rfl 50 rfl ?_
    refine G_aload_n C dX6_lineDetail_50 rfl 51 rfl ?_
    refine G_getf C dX6_lineDetail_51 wF_X6 wf_X6_10 (f := 0) (by decide) (ci := 6) rfl 0 rfl rfl 54 rfl ?_
    refine G_iload_n C dX6_lineDetail_54 rfl 55 rfl ?_
    refine G_cV C dX6_lineDetail_55 (c_X2_rightAt l E o a n Cd i v (by first | assumption | omega) (by first | assumption | omega) (by first | assumption | omega)) wm_X6_201 wi_X2_rightAt wsel_X2_rightAt wn_X2 wc_X2_rightAt rfl rfl ⟨by decide, by decide, rfl⟩ rfl (Nat.le_of_ble_eq_true rfl) 2 rfl rfl 0 rfl [1, 2] [0, 3, 4] (wr := [(jo, .inr (6, [.ref o, .ref so, .ref to, .ref fo, .ref co, .ref ro, .int (nI bd), .int (nI nb), .int (nI fl)])), (fo, .inr (1, [.ref fa])), (fa, .inl (E.2.1, 10, .inl (aN S)))]) rfl rfl rfl rfl rfl [0, 3, 4, 1, 2] rfl [(jo, .inr (6, [.ref o, .ref so, .ref to, .ref fo, .ref co, .ref ro, .int (nI bd), .int (nI nb), .int (nI fl)])), (o, .inr (2, [.ref a, .int (nI n)])), (a, .inl (E.2.1, 14, .inl (aN Cd))), (fo, .inr (1, [.ref fa])), (fa, .inl (E.2.1, 10, .inl (aN S)))] rfl rfl [.int (nI (v % 10))] rfl 58 rfl ?_
    exact G_iret C hr dX6_lineDetail_58 rfl () trivial (by simp [ofD, hs_1]) rfl
  · refine G_top (v' := .int (nI 3)) (by rw [hs_1]) ?_
    refine G_tabIn C dX6_lineDetail_1 (58) (by decide) (by decide) rfl 59 rfl ?_
    refine G_aload_n C dX6_lineDetail_59 rfl 60 rfl ?_
    refine G_iload_n C dX6_lineDetail_60 rfl 61 rfl ?_
    refine G_cV C dX6_lineDetail_61 (c_X6_writesOf l E jo o so to fo co ro bd nb fl a n Cd fa S i v (by first | assumption | omega) (by first | assumption | omega) (by first | assumption | omega)) wm_X6_204 wi_X6_writesOf wsel_X6_writesOf wn_X6 wc_X6_writesOf rfl rfl ⟨by decide, by decide, rfl⟩ rfl (Nat.le_of_ble_eq_true rfl) 6 rfl rfl 0 rfl [0, 1, 2, 3, 4] [] (wr := []) rfl rfl rfl rfl rfl [0, 1, 2, 3, 4] rfl [(jo, .inr (6, [.ref o, .ref so, .ref to, .ref fo, .ref co, .ref ro, .int (nI bd), .int (nI nb), .int (nI fl)])), (o, .inr (2, [.ref a, .int (nI n)])), (a, .inl (E.2.1, 14, .inl (aN Cd))), (fo, .inr (1, [.ref fa])), (fa, .inl (E.2.1, 10, .inl (aN S)))] rfl rfl [.int (nI (wrs v S))] rfl 64 rfl ?_
    exact G_iret C hr dX6_lineDetail_64 rfl () trivial (by simp [ofD, hs_1]) rfl
  · refine G_top (v' := .int (nI 4)) (by rw [hs_1]) ?_
    refine G_tabOut C dX6_lineDetail_1 (by decide) 65 rfl ?_
    refine G_aload_n C dX6_lineDetail_65 rfl 66 rfl ?_
    refine G_iload_n C dX6_lineDetail_66 rfl 67 rfl ?_
    refine G_cV C dX6_lineDetail_67 (c_X6_readsOf l E jo o so to fo co ro bd nb fl a n Cd fa S i v (by first | assumption | omega) (by first | assumption | omega) (by first | assumption | omega)) wm_X6_207 wi_X6_readsOf wsel_X6_readsOf wn_X6 wc_X6_readsOf rfl rfl ⟨by decide, by decide, rfl⟩ rfl (Nat.le_of_ble_eq_true rfl) 6 rfl rfl 0 rfl [0, 1, 2, 3, 4] [] (wr := []) rfl rfl rfl rfl rfl [0, 1, 2, 3, 4] rfl [(jo, .inr (6, [.ref o, .ref so, .ref to, .ref fo, .ref co, .ref ro, .int (nI bd), .int (nI nb), .int (nI fl)])), (o, .inr (2, [.ref a, .int (nI n)])), (a, .inl (E.2.1, 14, .inl (aN Cd))), (fo, .inr (1, [.ref fa])), (fa, .inl (E.2.1, 10, .inl (aN S)))] rfl rfl [.int (nI (rds v S))] rfl 70 rfl ?_
    exact G_iret C hr dX6_lineDetail_70 rfl () trivial (by simp [ofD, hs_1]) rfl

set_option maxHeartbeats 4000000 in
set_option maxRecDepth 100000 in
theorem c_X6_disturbs (l : Launch) (E : gE) (jo o so to fo co ro bd nb fl : Nat) (a n : Nat) (Cd : Nat → Nat) (fa : Nat) (S : Nat → Nat) (i v j u : Nat) (hi : i < 14) (hc : Cd i = ce v) (hv : v < 400) (hj : j < 14) (hcj : Cd j = ce u) (hu : u < 400) (hS : sok S) : FD l E yX6_disturbs cX6_disturbs 3 (some .boolean) { frames := 2, cells := 0, slots := 0, locals := 44 } [.ref jo, .int (nI i), .int (nI j)] [(jo, .inr (6, [.ref o, .ref so, .ref to, .ref fo, .ref co, .ref ro, .int (nI bd), .int (nI nb), .int (nI fl)])), (o, .inr (2, [.ref a, .int (nI n)])), (a, .inl (E.2.1, 14, .inl (aN Cd))), (fo, .inr (1, [.ref fa])), (fa, .inl (E.2.1, 10, .inl (aN S)))] (some (.int (bI (dis v u S)))) [(jo, .inr (6, [.ref o, .ref so, .ref to, .ref fo, .ref co, .ref ro, .int (nI bd), .int (nI nb), .int (nI fl)])), (o, .inr (2, [.ref a, .int (nI n)])), (a, .inl (E.2.1, 14, .inl (aN Cd))), (fo, .inr (1, [.ref fa])), (fa, .inl (E.2.1, 10, .inl (aN S)))] := by
  refine Fn_ofL (own := RX6) (by decide) rfl rfl [(0, .ref jo), (1, .int (nI i)), (2, .int (nI j))] rfl ?_
  intro p e s m below meth c A C hr hnm
  refine G_aload_n C dX6_disturbs_0 rfl 1 rfl ?_
  refine G_iload_n C dX6_disturbs_1 rfl 2 rfl ?_
  refine G_cV C dX6_disturbs_2 (c_X6_writesOf l E jo o so to fo co ro bd nb fl a n Cd fa S i v (by first | assumption | omega) (by first | assumption | omega) (by first | assumption | omega)) wm_X6_204 wi_X6_writesOf wsel_X6_writesOf wn_X6 wc_X6_writesOf rfl rfl ⟨by decide, by decide, rfl⟩ rfl (Nat.le_of_ble_eq_true rfl) 6 rfl rfl 0 rfl [0, 1, 2, 3, 4] [] (wr := []) rfl rfl rfl rfl rfl [0, 1, 2, 3, 4] rfl [(jo, .inr (6, [.ref o, .ref so, .ref to, .ref fo, .ref co, .ref ro, .int (nI bd), .int (nI nb), .int (nI fl)])), (o, .inr (2, [.ref a, .int (nI n)])), (a, .inl (E.2.1, 14, .inl (aN Cd))), (fo, .inr (1, [.ref fa])), (fa, .inl (E.2.1, 10, .inl (aN S)))] rfl rfl [.int (nI (wrs v S))] rfl 5 rfl ?_
  refine G_aload_n C dX6_disturbs_5 rfl 6 rfl ?_
  refine G_iload_n C dX6_disturbs_6 rfl 7 rfl ?_
  refine G_cV C dX6_disturbs_7 (c_X6_writesOf l E jo o so to fo co ro bd nb fl a n Cd fa S j u hj hcj hu) wm_X6_204 wi_X6_writesOf wsel_X6_writesOf wn_X6 wc_X6_writesOf rfl rfl ⟨by decide, by decide, rfl⟩ rfl (Nat.le_of_ble_eq_true rfl) 6 rfl rfl 0 rfl [0, 1, 2, 3, 4] [] (wr := []) rfl rfl rfl rfl rfl [0, 1, 2, 3, 4] rfl [(jo, .inr (6, [.ref o, .ref so, .ref to, .ref fo, .ref co, .ref ro, .int (nI bd), .int (nI nb), .int (nI fl)])), (o, .inr (2, [.ref a, .int (nI n)])), (a, .inl (E.2.1, 14, .inl (aN Cd))), (fo, .inr (1, [.ref fa])), (fa, .inl (E.2.1, 10, .inl (aN S)))] rfl rfl [.int (nI (wrs u S)), .int (nI (wrs v S))] rfl 10 rfl ?_
  refine G_aload_n C dX6_disturbs_10 rfl 11 rfl ?_
  refine G_iload_n C dX6_disturbs_11 rfl 12 rfl ?_
  refine G_cV C dX6_disturbs_12 (c_X6_readsOf l E jo o so to fo co ro bd nb fl a n Cd fa S j u hj hcj hu) wm_X6_207 wi_X6_readsOf wsel_X6_readsOf wn_X6 wc_X6_readsOf rfl rfl ⟨by decide, by decide, rfl⟩ rfl (Nat.le_of_ble_eq_true rfl) 6 rfl rfl 0 rfl [0, 1, 2, 3, 4] [] (wr := []) rfl rfl rfl rfl rfl [0, 1, 2, 3, 4] rfl [(jo, .inr (6, [.ref o, .ref so, .ref to, .ref fo, .ref co, .ref ro, .int (nI bd), .int (nI nb), .int (nI fl)])), (o, .inr (2, [.ref a, .int (nI n)])), (a, .inl (E.2.1, 14, .inl (aN Cd))), (fo, .inr (1, [.ref fa])), (fa, .inl (E.2.1, 10, .inl (aN S)))] rfl rfl [.int (nI (rds u S)), .int (nI (wrs u S)), .int (nI (wrs v S))] rfl 15 rfl ?_
  refine G_ior C dX6_disturbs_15 (v := nI ((wrs u S) ||| (rds u S))) (fa_or _ _) 16 rfl ?_
  refine G_iand C dX6_disturbs_16 (v := nI ((wrs v S) &&& ((wrs u S) ||| (rds u S)))) (fa_and _ _) 17 rfl ?_
  refine G_if_eq C dX6_disturbs_17 24 rfl 20 rfl (n_eq0 (Nat.lt_of_le_of_lt Nat.and_le_left (Nat.lt_trans (wrs_lt hS) (by decide)))) (fun h_1 => ?_) (fun h_1 => ?_)
  · refine G_iconst C dX6_disturbs_24 (v := nI 0) rfl 25 rfl ?_
    exact G_iret C hr dX6_disturbs_25 (by decide) () trivial (bI_rf (by simp [dis, h_1])) rfl
  · refine G_iconst C dX6_disturbs_20 (v := nI 1) rfl 21 rfl ?_
    refine G_goto C dX6_disturbs_21 25 rfl ?_
    exact G_iret C hr dX6_disturbs_25 (by decide) () trivial (bI_rt (by simp [dis, h_1])) rfl

set_option maxHeartbeats 4000000 in
set_option maxRecDepth 100000 in
theorem c_X6_groupDetail (l : Launch) (E : gE) (jo o so to fo co ro bd nb fl : Nat) (cg ct : Nat) (Gp : Nat → Nat) (Tt : Nat → Option Nat) (x wh : Nat) (hG : gok Gp) (hT : tok Tt) (hx : x < 10) (hw : wh < 3) : FD l E yX6_groupDetail cX6_groupDetail 3 (some .int) { frames := 2, cells := 0, slots := 0, locals := 43 } [.ref jo, .int (nI x), .int (nI wh)] [(jo, .inr (6, [.ref o, .ref so, .ref to, .ref fo, .ref co, .ref ro, .int (nI bd), .int (nI nb), .int (nI fl)])), (co, .inr (0, [.ref cg, .ref ct])), (cg, .inl (E.2.1, 10, .inl (aN Gp))), (ct, .inl (E.2.1, 10, .inl (aO Tt)))] (some (.int (oI (gdt Gp Tt x wh)))) [(jo, .inr (6, [.ref o, .ref so, .ref to, .ref fo, .ref co, .ref ro, .int (nI bd), .int (nI nb), .int (nI fl)])), (co, .inr (0, [.ref cg, .ref ct])), (cg, .inl (E.2.1, 10, .inl (aN Gp))), (ct, .inl (E.2.1, 10, .inl (aO Tt)))] := by
  refine Fn_ofL (own := RX6) (by decide) rfl rfl [(0, .ref jo), (1, .int (nI x)), (2, .int (nI wh))] rfl ?_
  intro p e s m below meth c A C hr hnm
  refine G_iload_n C dX6_groupDetail_0 rfl 1 rfl ?_
  rcases (show wh = 0 ∨ wh = 1 ∨ wh = 2 by omega) with hs_1 | hs_1 | hs_1
  · refine G_top (v' := .int (nI 0)) (by rw [hs_1]) ?_
    refine G_lookup C dX6_groupDetail_1 (27) (by decide) (by decide) 28 rfl ?_
    refine G_aload_n C dX6_groupDetail_28 rfl 29 rfl ?_
    refine G_getf C dX6_groupDetail_29 wF_X6 wf_X6_40 (f := 4) (by decide) (ci := 6) rfl 0 rfl rfl 32 rfl ?_
    refine G_aload_n C dX6_groupDetail_32 rfl 33 rfl ?_
    refine G_getf C dX6_groupDetail_33 wF_X6 wf_X6_40 (f := 4) (by decide) (ci := 6) rfl 0 rfl rfl 36 rfl ?_
    refine G_iload_n C dX6_groupDetail_36 rfl 37 rfl ?_
    refine G_cV C dX6_groupDetail_37 (c_X0_groupOf l E co cg ct Gp Tt x (by first | assumption | omega)) wm_X6_210 wi_X0_groupOf wsel_X0_groupOf wn_X0 wc_X0_groupOf rfl rfl ⟨by decide, by decide, rfl⟩ rfl (Nat.le_of_ble_eq_true rfl) 0 rfl rfl 0 rfl [1, 2, 3] [0] (wr := [(jo, .inr (6, [.ref o, .ref so, .ref to, .ref fo, .ref co, .ref ro, .int (nI bd), .int (nI nb), .int (nI fl)]))]) rfl rfl rfl rfl rfl [0, 1, 2, 3] rfl [(jo, .inr (6, [.ref o, .ref so, .ref to, .ref fo, .ref co, .ref ro, .int (nI bd), .int (nI nb), .int (nI fl)])), (co, .inr (0, [.ref cg, .ref ct])), (cg, .inl (E.2.1, 10, .inl (aN Gp))), (ct, .inl (E.2.1, 10, .inl (aO Tt)))] rfl rfl [.int (nI (Gp x)), .ref co] rfl 40 rfl ?_
    refine G_cV C dX6_groupDetail_40 (c_X0_membersOf l E co cg ct Gp Tt (some (Gp x)) (by first | assumption | omega) (ook_s (hG _ hx))) wm_X6_213 wi_X0_membersOf wsel_X0_membersOf wn_X0 wc_X0_membersOf rfl rfl ⟨by decide, by decide, rfl⟩ rfl (Nat.le_of_ble_eq_true rfl) 0 rfl rfl 0 rfl [1, 2, 3] [0] (wr := [(jo, .inr (6, [.ref o, .ref so, .ref to, .ref fo, .ref co, .ref ro, .int (nI bd), .int (nI nb), .int (nI fl)]))]) rfl rfl rfl rfl rfl [0, 1, 2, 3] rfl [(jo, .inr (6, [.ref o, .ref so, .ref to, .ref fo, .ref co, .ref ro, .int (nI bd), .int (nI nb), .int (nI fl)])), (co, .inr (0, [.ref cg, .ref ct])), (cg, .inl (E.2.1, 10, .inl (aN Gp))), (ct, .inl (E.2.1, 10, .inl (aO Tt)))] rfl rfl [.int (nI (mem Gp (some (Gp x)) 10))] rfl 43 rfl ?_
    exact G_iret C hr dX6_groupDetail_43 rfl () trivial (by simp only [gdt, hs_1]; rfl) rfl
  · refine G_top (v' := .int (nI 1)) (by rw [hs_1]) ?_
    refine G_lookup C dX6_groupDetail_1 (43) (by decide) (by decide) 44 rfl ?_
    refine G_aload_n C dX6_groupDetail_44 rfl 45 rfl ?_
    refine G_getf C dX6_groupDetail_45 wF_X6 wf_X6_40 (f := 4) (by decide) (ci := 6) rfl 0 rfl rfl 48 rfl ?_
    refine G_iload_n C dX6_groupDetail_48 rfl 49 rfl ?_
    refine G_cV C dX6_groupDetail_49 (c_X0_groupOf l E co cg ct Gp Tt x (by first | assumption | omega)) wm_X6_210 wi_X0_groupOf wsel_X0_groupOf wn_X0 wc_X0_groupOf rfl rfl ⟨by decide, by decide, rfl⟩ rfl (Nat.le_of_ble_eq_true rfl) 0 rfl rfl 0 rfl [1, 2, 3] [0] (wr := [(jo, .inr (6, [.ref o, .ref so, .ref to, .ref fo, .ref co, .ref ro, .int (nI bd), .int (nI nb), .int (nI fl)]))]) rfl rfl rfl rfl rfl [0, 1, 2, 3] rfl [(jo, .inr (6, [.ref o, .ref so, .ref to, .ref fo, .ref co, .ref ro, .int (nI bd), .int (nI nb), .int (nI fl)])), (co, .inr (0, [.ref cg, .ref ct])), (cg, .inl (E.2.1, 10, .inl (aN Gp))), (ct, .inl (E.2.1, 10, .inl (aO Tt)))] rfl rfl [.int (nI (Gp x))] rfl 52 rfl ?_
    exact G_iret C hr dX6_groupDetail_52 rfl () trivial (by simp only [gdt, hs_1]; rfl) rfl
  · refine G_top (v' := .int (nI 2)) (by rw [hs_1]) ?_
    refine G_lookup C dX6_groupDetail_1 (52) (by decide) (by decide) 53 rfl ?_
    refine G_aload_n C dX6_groupDetail_53 rfl 54 rfl ?_
    refine G_getf C dX6_groupDetail_54 wF_X6 wf_X6_40 (f := 4) (by decide) (ci := 6) rfl 0 rfl rfl 57 rfl ?_
    refine G_aload_n C dX6_groupDetail_57 rfl 58 rfl ?_
    refine G_getf C dX6_groupDetail_58 wF_X6 wf_X6_40 (f := 4) (by decide) (ci := 6) rfl 0 rfl rfl 61 rfl ?_
    refine G_iload_n C dX6_groupDetail_61 rfl 62 rfl ?_
    refine G_cV C dX6_groupDetail_62 (c_X0_groupOf l E co cg ct Gp Tt x (by first | assumption | omega)) wm_X6_210 wi_X0_groupOf wsel_X0_groupOf wn_X0 wc_X0_groupOf rfl rfl ⟨by decide, by decide, rfl⟩ rfl (Nat.le_of_ble_eq_true rfl) 0 rfl rfl 0 rfl [1, 2, 3] [0] (wr := [(jo, .inr (6, [.ref o, .ref so, .ref to, .ref fo, .ref co, .ref ro, .int (nI bd), .int (nI nb), .int (nI fl)]))]) rfl rfl rfl rfl rfl [0, 1, 2, 3] rfl [(jo, .inr (6, [.ref o, .ref so, .ref to, .ref fo, .ref co, .ref ro, .int (nI bd), .int (nI nb), .int (nI fl)])), (co, .inr (0, [.ref cg, .ref ct])), (cg, .inl (E.2.1, 10, .inl (aN Gp))), (ct, .inl (E.2.1, 10, .inl (aO Tt)))] rfl rfl [.int (nI (Gp x)), .ref co] rfl 65 rfl ?_
    refine G_cV C dX6_groupDetail_65 (c_X0_targetOf l E co cg ct Gp Tt (some (Gp x)) (ook_s (hG _ hx))) wm_X6_216 wi_X0_targetOf wsel_X0_targetOf wn_X0 wc_X0_targetOf rfl rfl ⟨by decide, by decide, rfl⟩ rfl (Nat.le_of_ble_eq_true rfl) 0 rfl rfl 0 rfl [1, 2, 3] [0] (wr := [(jo, .inr (6, [.ref o, .ref so, .ref to, .ref fo, .ref co, .ref ro, .int (nI bd), .int (nI nb), .int (nI fl)]))]) rfl rfl rfl rfl rfl [0, 1, 2, 3] rfl [(jo, .inr (6, [.ref o, .ref so, .ref to, .ref fo, .ref co, .ref ro, .int (nI bd), .int (nI nb), .int (nI fl)])), (co, .inr (0, [.ref cg, .ref ct])), (cg, .inl (E.2.1, 10, .inl (aN Gp))), (ct, .inl (E.2.1, 10, .inl (aO Tt)))] rfl rfl [.int (oI ((some (Gp x)).bind Tt))] rfl 68 rfl ?_
    exact G_iret C hr dX6_groupDetail_68 rfl () trivial (by simp only [gdt, hs_1]; rfl) rfl

set_option maxHeartbeats 4000000 in
set_option maxRecDepth 100000 in
theorem c_X6_counted (l : Launch) (E : gE) (jo o so to fo co ro bd nb fl : Nat) (fa : Nat) (S : Nat → Nat) (cg ct : Nat) (Gp : Nat → Nat) (Tt : Nat → Option Nat) (wh : Nat) (hS : sok S) (hG : gok Gp) (hT : tok Tt) (hw : wh < 5) : FD l E yX6_counted cX6_counted 2 (some .int) { frames := 4, cells := 0, slots := 0, locals := 86 } [.ref jo, .int (nI wh)] [(jo, .inr (6, [.ref o, .ref so, .ref to, .ref fo, .ref co, .ref ro, .int (nI bd), .int (nI nb), .int (nI fl)])), (fo, .inr (1, [.ref fa])), (fa, .inl (E.2.1, 10, .inl (aN S))), (co, .inr (0, [.ref cg, .ref ct])), (cg, .inl (E.2.1, 10, .inl (aN Gp))), (ct, .inl (E.2.1, 10, .inl (aO Tt)))] (some (.int (nI (cnd S Gp Tt wh)))) [(jo, .inr (6, [.ref o, .ref so, .ref to, .ref fo, .ref co, .ref ro, .int (nI bd), .int (nI nb), .int (nI fl)])), (fo, .inr (1, [.ref fa])), (fa, .inl (E.2.1, 10, .inl (aN S))), (co, .inr (0, [.ref cg, .ref ct])), (cg, .inl (E.2.1, 10, .inl (aN Gp))), (ct, .inl (E.2.1, 10, .inl (aO Tt)))] := by
  refine Fn_ofL (own := RX6) (by decide) rfl rfl [(0, .ref jo), (1, .int (nI wh))] rfl ?_
  intro p e s m below meth c A C hr hnm
  refine G_iload_n C dX6_counted_0 rfl 1 rfl ?_
  rcases (show wh = 0 ∨ wh = 1 ∨ wh = 2 ∨ wh = 3 ∨ wh = 4 by omega) with hs_1 | hs_1 | hs_1 | hs_1 | hs_1
  · refine G_top (v' := .int (nI 0)) (by rw [hs_1]) ?_
    refine G_tabIn C dX6_counted_1 (31) (by decide) (by decide) rfl 32 rfl ?_
    refine G_aload_n C dX6_counted_32 rfl 33 rfl ?_
    refine G_getf C dX6_counted_33 wF_X6 wf_X6_40 (f := 4) (by decide) (ci := 6) rfl 0 rfl rfl 36 rfl ?_
    refine G_cV C dX6_counted_36 (c_X0_groupCount l E co cg ct Gp Tt (by first | assumption | omega) (by first | assumption | omega)) wm_X6_219 wi_X0_groupCount wsel_X0_groupCount wn_X0 wc_X0_groupCount rfl rfl ⟨by decide, by decide, rfl⟩ rfl (Nat.le_of_ble_eq_true rfl) 0 rfl rfl 0 rfl [3, 4, 5] [0, 1, 2] (wr := [(jo, .inr (6, [.ref o, .ref so, .ref to, .ref fo, .ref co, .ref ro, .int (nI bd), .int (nI nb), .int (nI fl)])), (fo, .inr (1, [.ref fa])), (fa, .inl (E.2.1, 10, .inl (aN S)))]) rfl rfl rfl rfl rfl [0, 1, 2, 3, 4, 5] rfl [(jo, .inr (6, [.ref o, .ref so, .ref to, .ref fo, .ref co, .ref ro, .int (nI bd), .int (nI nb), .int (nI fl)])), (fo, .inr (1, [.ref fa])), (fa, .inl (E.2.1, 10, .inl (aN S))), (co, .inr (0, [.ref cg, .ref ct])), (cg, .inl (E.2.1, 10, .inl (aN Gp))), (ct, .inl (E.2.1, 10, .inl (aO Tt)))] rfl rfl [.int (nI (gcn Gp 10))] rfl 39 rfl ?_
    exact G_iret C hr dX6_counted_39 rfl () trivial (by simp [cnd, hs_1]) rfl
  · refine G_top (v' := .int (nI 1)) (by rw [hs_1]) ?_
    refine G_tabIn C dX6_counted_1 (39) (by decide) (by decide) rfl 40 rfl ?_
    refine G_aload_n C dX6_counted_40 rfl 41 rfl ?_
    refine G_getf C dX6_counted_41 wF_X6 wf_X6_40 (f := 4) (by decide) (ci := 6) rfl 0 rfl rfl 44 rfl ?_
    refine G_cV C dX6_counted_44 (c_X0_pointingCount l E co cg ct Gp Tt (by first | assumption | omega) (by first | assumption | omega)) wm_X6_222 wi_X0_pointingCount wsel_X0_pointingCount wn_X0 wc_X0_pointingCount rfl rfl ⟨by decide, by decide, rfl⟩ rfl (Nat.le_of_ble_eq_true rfl) 0 rfl rfl 0 rfl [3, 4, 5] [0, 1, 2] (wr := [(jo, .inr (6, [.ref o, .ref so, .ref to, .ref fo, .ref co, .ref ro, .int (nI bd), .int (nI nb), .int (nI fl)])), (fo, .inr (1, [.ref fa])), (fa, .inl (E.2.1, 10, .inl (aN S)))]) rfl rfl rfl rfl rfl [0, 1, 2, 3, 4, 5] rfl [(jo, .inr (6, [.ref o, .ref so, .ref to, .ref fo, .ref co, .ref ro, .int (nI bd), .int (nI nb), .int (nI fl)])), (fo, .inr (1, [.ref fa])), (fa, .inl (E.2.1, 10, .inl (aN S))), (co, .inr (0, [.ref cg, .ref ct])), (cg, .inl (E.2.1, 10, .inl (aN Gp))), (ct, .inl (E.2.1, 10, .inl (aO Tt)))] rfl rfl [.int (nI (pnc Tt 10))] rfl 47 rfl ?_
    exact G_iret C hr dX6_counted_47 rfl () trivial (by simp [cnd, hs_1]) rfl
  · refine G_top (v' := .int (nI 2)) (by rw [hs_1]) ?_
    refine G_tabIn C dX6_counted_1 (47) (by decide) (by decide) rfl 48 rfl ?_
    refine G_aload_n C dX6_counted_48 rfl 49 rfl ?_
    refine G_getf C dX6_counted_49 wF_X6 wf_X6_40 (f := 4) (by decide) (ci := 6) rfl 0 rfl rfl 52 rfl ?_
    refine G_cV C dX6_counted_52 (c_X0_selfPointingCount l E co cg ct Gp Tt (by first | assumption | omega) (by first | assumption | omega)) wm_X6_225 wi_X0_selfPointingCount wsel_X0_selfPointingCount wn_X0 wc_X0_selfPointingCount rfl rfl ⟨by decide, by decide, rfl⟩ rfl (Nat.le_of_ble_eq_true rfl) 0 rfl rfl 0 rfl [3, 4, 5] [0, 1, 2] (wr := [(jo, .inr (6, [.ref o, .ref so, .ref to, .ref fo, .ref co, .ref ro, .int (nI bd), .int (nI nb), .int (nI fl)])), (fo, .inr (1, [.ref fa])), (fa, .inl (E.2.1, 10, .inl (aN S)))]) rfl rfl rfl rfl rfl [0, 1, 2, 3, 4, 5] rfl [(jo, .inr (6, [.ref o, .ref so, .ref to, .ref fo, .ref co, .ref ro, .int (nI bd), .int (nI nb), .int (nI fl)])), (fo, .inr (1, [.ref fa])), (fa, .inl (E.2.1, 10, .inl (aN S))), (co, .inr (0, [.ref cg, .ref ct])), (cg, .inl (E.2.1, 10, .inl (aN Gp))), (ct, .inl (E.2.1, 10, .inl (aO Tt)))] rfl rfl [.int (nI (snc Tt 10))] rfl 55 rfl ?_
    exact G_iret C hr dX6_counted_55 rfl () trivial (by simp [cnd, hs_1]) rfl
  · refine G_top (v' := .int (nI 3)) (by rw [hs_1]) ?_
    refine G_tabIn C dX6_counted_1 (55) (by decide) (by decide) rfl 56 rfl ?_
    refine G_aload_n C dX6_counted_56 rfl 57 rfl ?_
    refine G_getf C dX6_counted_57 wF_X6 wf_X6_33 (f := 3) (by decide) (ci := 6) rfl 0 rfl rfl 60 rfl ?_
    refine G_cV C dX6_counted_60 (c_X1_total l E fo fa S (by first | assumption | omega)) wm_X6_228 wi_X1_total wsel_X1_total wn_X1 wc_X1_total rfl rfl ⟨by decide, by decide, rfl⟩ rfl (Nat.le_of_ble_eq_true rfl) 1 rfl rfl 0 rfl [1, 2] [0, 3, 4, 5] (wr := [(jo, .inr (6, [.ref o, .ref so, .ref to, .ref fo, .ref co, .ref ro, .int (nI bd), .int (nI nb), .int (nI fl)])), (co, .inr (0, [.ref cg, .ref ct])), (cg, .inl (E.2.1, 10, .inl (aN Gp))), (ct, .inl (E.2.1, 10, .inl (aO Tt)))]) rfl rfl rfl rfl rfl [0, 4, 5, 1, 2, 3] rfl [(jo, .inr (6, [.ref o, .ref so, .ref to, .ref fo, .ref co, .ref ro, .int (nI bd), .int (nI nb), .int (nI fl)])), (fo, .inr (1, [.ref fa])), (fa, .inl (E.2.1, 10, .inl (aN S))), (co, .inr (0, [.ref cg, .ref ct])), (cg, .inl (E.2.1, 10, .inl (aN Gp))), (ct, .inl (E.2.1, 10, .inl (aO Tt)))] rfl rfl [.int (nI (ftot S 10))] rfl 63 rfl ?_
    exact G_iret C hr dX6_counted_63 rfl () trivial (by simp [cnd, hs_1]) rfl
  · refine G_top (v' := .int (nI 4)) (by rw [hs_1]) ?_
    refine G_tabOut C dX6_counted_1 (by decide) 64 rfl ?_
    refine G_aload_n C dX6_counted_64 rfl 65 rfl ?_
    refine G_getf C dX6_counted_65 wF_X6 wf_X6_40 (f := 4) (by decide) (ci := 6) rfl 0 rfl rfl 68 rfl ?_
    refine G_cV C dX6_counted_68 (c_X0_total l E co cg ct Gp Tt (by first | assumption | omega) (by first | assumption | omega)) wm_X6_231 wi_X0_total wsel_X0_total wn_X0 wc_X0_total rfl rfl ⟨by decide, by decide, rfl⟩ rfl (Nat.le_of_ble_eq_true rfl) 0 rfl rfl 0 rfl [3, 4, 5] [0, 1, 2] (wr := [(jo, .inr (6, [.ref o, .ref so, .ref to, .ref fo, .ref co, .ref ro, .int (nI bd), .int (nI nb), .int (nI fl)])), (fo, .inr (1, [.ref fa])), (fa, .inl (E.2.1, 10, .inl (aN S)))]) rfl rfl rfl rfl rfl [0, 1, 2, 3, 4, 5] rfl [(jo, .inr (6, [.ref o, .ref so, .ref to, .ref fo, .ref co, .ref ro, .int (nI bd), .int (nI nb), .int (nI fl)])), (fo, .inr (1, [.ref fa])), (fa, .inl (E.2.1, 10, .inl (aN S))), (co, .inr (0, [.ref cg, .ref ct])), (cg, .inl (E.2.1, 10, .inl (aN Gp))), (ct, .inl (E.2.1, 10, .inl (aO Tt)))] rfl rfl [.int (nI (ctot Gp Tt 10))] rfl 71 rfl ?_
    exact G_iret C hr dX6_counted_71 rfl () trivial (by simp [cnd, hs_1]) rfl

set_option maxHeartbeats 4000000 in
set_option maxRecDepth 100000 in
theorem c_X6_mpt0 (l : Launch) (E : gE) (jo o so to fo co ro bd nb fl : Nat) (a n : Nat) (Cd : Nat → Nat) (fa : Nat) (S : Nat → Nat) (cg ct : Nat) (Gp : Nat → Nat) (Tt : Nat → Option Nat) (ln : Nat → Nat) (x : Nat) (lo : Option Nat) (hok : lok n ln Cd) (hx : x < 10) (hlo : ∀ g, lo = some g → g < 2 ^ 31) : FD l E yX6_mayPointTo cX6_mayPointTo 4 (some .int) { frames := 5, cells := 0, slots := 0, locals := 121 } [.ref jo, .int (nI x), .int (nI 0), .int (oI lo)] [(jo, .inr (6, [.ref o, .ref so, .ref to, .ref fo, .ref co, .ref ro, .int (nI bd), .int (nI nb), .int (nI fl)])), (o, .inr (2, [.ref a, .int (nI n)])), (a, .inl (E.2.1, 14, .inl (aN Cd))), (fo, .inr (1, [.ref fa])), (fa, .inl (E.2.1, 10, .inl (aN S))), (co, .inr (0, [.ref cg, .ref ct])), (cg, .inl (E.2.1, 10, .inl (aN Gp))), (ct, .inl (E.2.1, 10, .inl (aO Tt)))] (some (.int (nI (fineC ln n lo x)))) [(jo, .inr (6, [.ref o, .ref so, .ref to, .ref fo, .ref co, .ref ro, .int (nI bd), .int (nI nb), .int (nI fl)])), (o, .inr (2, [.ref a, .int (nI n)])), (a, .inl (E.2.1, 14, .inl (aN Cd))), (fo, .inr (1, [.ref fa])), (fa, .inl (E.2.1, 10, .inl (aN (fineC ln n lo)))), (co, .inr (0, [.ref cg, .ref ct])), (cg, .inl (E.2.1, 10, .inl (aN Gp))), (ct, .inl (E.2.1, 10, .inl (aO Tt)))] := by
  refine Fn_ofL (own := RX6) (by decide) rfl rfl [(0, .ref jo), (1, .int (nI x)), (2, .int (nI 0)), (3, .int (oI lo))] rfl ?_
  intro p e s m below meth c A C hr hnm
  refine G_iload_n C dX6_mayPointTo_0 rfl 1 rfl ?_
  refine G_if_ne_f C dX6_mayPointTo_1 25 rfl 4 rfl (by decide) ?_
  refine G_aload_n C dX6_mayPointTo_4 rfl 5 rfl ?_
  refine G_getf C dX6_mayPointTo_5 wF_X6 wf_X6_33 (f := 3) (by decide) (ci := 6) rfl 0 rfl rfl 8 rfl ?_
  refine G_aload_n C dX6_mayPointTo_8 rfl 9 rfl ?_
  refine G_getf C dX6_mayPointTo_9 wF_X6 wf_X6_10 (f := 0) (by decide) (ci := 6) rfl 0 rfl rfl 12 rfl ?_
  refine G_iload_n C dX6_mayPointTo_12 rfl 13 rfl ?_
  refine G_cV C dX6_mayPointTo_13 (c_X1_solve l E fo fa S o a n Cd ln lo (by first | assumption | omega) (by first | assumption | omega)) wm_X6_88 wi_X1_solve wsel_X1_solve wn_X1 wc_X1_solve rfl rfl ⟨by decide, by decide, rfl⟩ rfl (Nat.le_of_ble_eq_true rfl) 1 rfl rfl 0 rfl [3, 4, 1, 2] [0, 5, 6, 7] (wr := [(jo, .inr (6, [.ref o, .ref so, .ref to, .ref fo, .ref co, .ref ro, .int (nI bd), .int (nI nb), .int (nI fl)])), (co, .inr (0, [.ref cg, .ref ct])), (cg, .inl (E.2.1, 10, .inl (aN Gp))), (ct, .inl (E.2.1, 10, .inl (aO Tt)))]) rfl rfl rfl rfl rfl [0, 6, 7, 4, 5, 1, 2, 3] rfl [(jo, .inr (6, [.ref o, .ref so, .ref to, .ref fo, .ref co, .ref ro, .int (nI bd), .int (nI nb), .int (nI fl)])), (o, .inr (2, [.ref a, .int (nI n)])), (a, .inl (E.2.1, 14, .inl (aN Cd))), (fo, .inr (1, [.ref fa])), (fa, .inl (E.2.1, 10, .inl (aN (fineC ln n lo)))), (co, .inr (0, [.ref cg, .ref ct])), (cg, .inl (E.2.1, 10, .inl (aN Gp))), (ct, .inl (E.2.1, 10, .inl (aO Tt)))] rfl rfl [] rfl 16 rfl ?_
  refine G_aload_n C dX6_mayPointTo_16 rfl 17 rfl ?_
  refine G_getf C dX6_mayPointTo_17 wF_X6 wf_X6_33 (f := 3) (by decide) (ci := 6) rfl 0 rfl rfl 20 rfl ?_
  refine G_iload_n C dX6_mayPointTo_20 rfl 21 rfl ?_
  refine G_cV C dX6_mayPointTo_21 (c_X1_setOf l E fo fa (fineC ln n lo) x (by first | assumption | omega)) wm_X6_103 wi_X1_setOf wsel_X1_setOf wn_X1 wc_X1_setOf rfl rfl ⟨by decide, by decide, rfl⟩ rfl (Nat.le_of_ble_eq_true rfl) 1 rfl rfl 0 rfl [3, 4] [0, 1, 2, 5, 6, 7] (wr := [(jo, .inr (6, [.ref o, .ref so, .ref to, .ref fo, .ref co, .ref ro, .int (nI bd), .int (nI nb), .int (nI fl)])), (o, .inr (2, [.ref a, .int (nI n)])), (a, .inl (E.2.1, 14, .inl (aN Cd))), (co, .inr (0, [.ref cg, .ref ct])), (cg, .inl (E.2.1, 10, .inl (aN Gp))), (ct, .inl (E.2.1, 10, .inl (aO Tt)))]) rfl rfl rfl rfl rfl [0, 1, 2, 6, 7, 3, 4, 5] rfl [(jo, .inr (6, [.ref o, .ref so, .ref to, .ref fo, .ref co, .ref ro, .int (nI bd), .int (nI nb), .int (nI fl)])), (o, .inr (2, [.ref a, .int (nI n)])), (a, .inl (E.2.1, 14, .inl (aN Cd))), (fo, .inr (1, [.ref fa])), (fa, .inl (E.2.1, 10, .inl (aN (fineC ln n lo)))), (co, .inr (0, [.ref cg, .ref ct])), (cg, .inl (E.2.1, 10, .inl (aN Gp))), (ct, .inl (E.2.1, 10, .inl (aO Tt)))] rfl rfl [.int (nI ((fineC ln n lo) x))] rfl 24 rfl ?_
  exact G_iret C hr dX6_mayPointTo_24 rfl () trivial rfl rfl

set_option maxHeartbeats 4000000 in
set_option maxRecDepth 100000 in
theorem c_X6_mpt1 (l : Launch) (E : gE) (jo o so to fo co ro bd nb fl : Nat) (a n : Nat) (Cd : Nat → Nat) (fa : Nat) (S : Nat → Nat) (cg ct : Nat) (Gp : Nat → Nat) (Tt : Nat → Option Nat) (ln : Nat → Nat) (x : Nat) (lo : Option Nat) (hok : lok n ln Cd) (hx : x < 10) (hlo : ∀ g, lo = some g → g < 2 ^ 31) : FD l E yX6_mayPointTo cX6_mayPointTo 4 (some .int) { frames := 5, cells := 0, slots := 0, locals := 121 } [.ref jo, .int (nI x), .int (nI 1), .int (oI lo)] [(jo, .inr (6, [.ref o, .ref so, .ref to, .ref fo, .ref co, .ref ro, .int (nI bd), .int (nI nb), .int (nI fl)])), (o, .inr (2, [.ref a, .int (nI n)])), (a, .inl (E.2.1, 14, .inl (aN Cd))), (fo, .inr (1, [.ref fa])), (fa, .inl (E.2.1, 10, .inl (aN S))), (co, .inr (0, [.ref cg, .ref ct])), (cg, .inl (E.2.1, 10, .inl (aN Gp))), (ct, .inl (E.2.1, 10, .inl (aO Tt)))] (some (.int (nI (cse (coarG ln n lo) (coarT ln n lo) x)))) [(jo, .inr (6, [.ref o, .ref so, .ref to, .ref fo, .ref co, .ref ro, .int (nI bd), .int (nI nb), .int (nI fl)])), (o, .inr (2, [.ref a, .int (nI n)])), (a, .inl (E.2.1, 14, .inl (aN Cd))), (fo, .inr (1, [.ref fa])), (fa, .inl (E.2.1, 10, .inl (aN S))), (co, .inr (0, [.ref cg, .ref ct])), (cg, .inl (E.2.1, 10, .inl (aN (coarG ln n lo)))), (ct, .inl (E.2.1, 10, .inl (aO (coarT ln n lo))))] := by
  refine Fn_ofL (own := RX6) (by decide) rfl rfl [(0, .ref jo), (1, .int (nI x)), (2, .int (nI 1)), (3, .int (oI lo))] rfl ?_
  intro p e s m below meth c A C hr hnm
  refine G_iload_n C dX6_mayPointTo_0 rfl 1 rfl ?_
  refine G_if_ne_t C dX6_mayPointTo_1 25 rfl (by decide) ?_
  refine G_aload_n C dX6_mayPointTo_25 rfl 26 rfl ?_
  refine G_getf C dX6_mayPointTo_26 wF_X6 wf_X6_40 (f := 4) (by decide) (ci := 6) rfl 0 rfl rfl 29 rfl ?_
  refine G_aload_n C dX6_mayPointTo_29 rfl 30 rfl ?_
  refine G_getf C dX6_mayPointTo_30 wF_X6 wf_X6_10 (f := 0) (by decide) (ci := 6) rfl 0 rfl rfl 33 rfl ?_
  refine G_iload_n C dX6_mayPointTo_33 rfl 34 rfl ?_
  refine G_cV C dX6_mayPointTo_34 (c_X0_solve l E co cg ct Gp Tt o a n Cd ln lo (by first | assumption | omega) (by first | assumption | omega)) wm_X6_107 wi_X0_solve wsel_X0_solve wn_X0 wc_X0_solve rfl rfl ⟨by decide, by decide, rfl⟩ rfl (Nat.le_of_ble_eq_true rfl) 0 rfl rfl 0 rfl [5, 6, 7, 1, 2] [0, 3, 4] (wr := [(jo, .inr (6, [.ref o, .ref so, .ref to, .ref fo, .ref co, .ref ro, .int (nI bd), .int (nI nb), .int (nI fl)])), (fo, .inr (1, [.ref fa])), (fa, .inl (E.2.1, 10, .inl (aN S)))]) rfl rfl rfl rfl rfl [0, 6, 7, 1, 2, 3, 4, 5] rfl [(jo, .inr (6, [.ref o, .ref so, .ref to, .ref fo, .ref co, .ref ro, .int (nI bd), .int (nI nb), .int (nI fl)])), (o, .inr (2, [.ref a, .int (nI n)])), (a, .inl (E.2.1, 14, .inl (aN Cd))), (fo, .inr (1, [.ref fa])), (fa, .inl (E.2.1, 10, .inl (aN S))), (co, .inr (0, [.ref cg, .ref ct])), (cg, .inl (E.2.1, 10, .inl (aN (coarG ln n lo)))), (ct, .inl (E.2.1, 10, .inl (aO (coarT ln n lo))))] rfl rfl [] rfl 37 rfl ?_
  refine G_aload_n C dX6_mayPointTo_37 rfl 38 rfl ?_
  refine G_getf C dX6_mayPointTo_38 wF_X6 wf_X6_40 (f := 4) (by decide) (ci := 6) rfl 0 rfl rfl 41 rfl ?_
  refine G_iload_n C dX6_mayPointTo_41 rfl 42 rfl ?_
  refine G_cV C dX6_mayPointTo_42 (c_X0_setOf l E co cg ct (coarG ln n lo) (coarT ln n lo) x (cok_cit 21).1 (cok_cit 21).2 (by first | assumption | omega)) wm_X6_108 wi_X0_setOf wsel_X0_setOf wn_X0 wc_X0_setOf rfl rfl ⟨by decide, by decide, rfl⟩ rfl (Nat.le_of_ble_eq_true rfl) 0 rfl rfl 0 rfl [5, 6, 7] [0, 1, 2, 3, 4] (wr := [(jo, .inr (6, [.ref o, .ref so, .ref to, .ref fo, .ref co, .ref ro, .int (nI bd), .int (nI nb), .int (nI fl)])), (o, .inr (2, [.ref a, .int (nI n)])), (a, .inl (E.2.1, 14, .inl (aN Cd))), (fo, .inr (1, [.ref fa])), (fa, .inl (E.2.1, 10, .inl (aN S)))]) rfl rfl rfl rfl rfl [0, 1, 2, 3, 4, 5, 6, 7] rfl [(jo, .inr (6, [.ref o, .ref so, .ref to, .ref fo, .ref co, .ref ro, .int (nI bd), .int (nI nb), .int (nI fl)])), (o, .inr (2, [.ref a, .int (nI n)])), (a, .inl (E.2.1, 14, .inl (aN Cd))), (fo, .inr (1, [.ref fa])), (fa, .inl (E.2.1, 10, .inl (aN S))), (co, .inr (0, [.ref cg, .ref ct])), (cg, .inl (E.2.1, 10, .inl (aN (coarG ln n lo)))), (ct, .inl (E.2.1, 10, .inl (aO (coarT ln n lo))))] rfl rfl [.int (nI (mem (coarG ln n lo) ((coarT ln n lo) ((coarG ln n lo) x)) 10))] rfl 45 rfl ?_
  exact G_iret C hr dX6_mayPointTo_45 rfl () trivial rfl rfl

set_option maxHeartbeats 4000000 in
set_option maxRecDepth 100000 in
theorem c_X6_mixed (l : Launch) (E : gE) (h : Int64) (v : Int32)  : FD l E yX6_mixed cX6_mixed 3 (some .long) { frames := 0, cells := 0, slots := 0, locals := 0 } [.long h, .int v] [] (some (.long (mx h v))) [] := by
  refine Fn_ofL (own := RX6) (by decide) rfl rfl [(0, .long h), (2, .int v)] rfl ?_
  intro p e s m below meth c A C hr hnm
  refine G_ldc2 C dX6_mixed_0 wk_X6_232 3 rfl ?_
  refine G_lload_n C dX6_mixed_3 rfl 4 rfl ?_
  refine G_lmul C dX6_mixed_4 rfl 5 rfl ?_
  refine G_iload_n C dX6_mixed_5 rfl 6 rfl ?_
  refine G_i2l C dX6_mixed_6 rfl 7 rfl ?_
  refine G_ladd C dX6_mixed_7 rfl 8 rfl ?_
  exact G_lret C hr dX6_mixed_8 () trivial rfl rfl

set_option maxHeartbeats 4000000 in
set_option maxRecDepth 100000 in
theorem c_X6_mixedName (l : Launch) (E : gE) (jo o so to fo co ro bd nb fl : Nat) (fa : Nat) (S : Nat → Nat) (cg ct : Nat) (Gp : Nat → Nat) (Tt : Nat → Option Nat) (re rv : Nat) (En : Nat → Option Nat) (Ev : Nat → Nat) (ms : Nat) (h : Int64) (x : Nat) (hG : gok Gp) (hT : tok Tt) (hx : x < 10) : FD l E yX6_mixedName cX6_mixedName 6 (some .long) { frames := 3, cells := 0, slots := 0, locals := 65 } [.ref jo, .long h, .int (nI x)] [(jo, .inr (6, [.ref o, .ref so, .ref to, .ref fo, .ref co, .ref ro, .int (nI bd), .int (nI nb), .int (nI fl)])), (fo, .inr (1, [.ref fa])), (fa, .inl (E.2.1, 10, .inl (aN S))), (co, .inr (0, [.ref cg, .ref ct])), (cg, .inl (E.2.1, 10, .inl (aN Gp))), (ct, .inl (E.2.1, 10, .inl (aO Tt))), (ro, .inr (3, [.ref re, .ref rv, .int (nI ms)])), (re, .inl (E.2.1, 10, .inl (aO En))), (rv, .inl (E.2.1, 10, .inl (aN Ev)))] (some (.long (mxn S Gp Tt En Ev h x))) [(jo, .inr (6, [.ref o, .ref so, .ref to, .ref fo, .ref co, .ref ro, .int (nI bd), .int (nI nb), .int (nI fl)])), (fo, .inr (1, [.ref fa])), (fa, .inl (E.2.1, 10, .inl (aN S))), (co, .inr (0, [.ref cg, .ref ct])), (cg, .inl (E.2.1, 10, .inl (aN Gp))), (ct, .inl (E.2.1, 10, .inl (aO Tt))), (ro, .inr (3, [.ref re, .ref rv, .int (nI ms)])), (re, .inl (E.2.1, 10, .inl (aO En))), (rv, .inl (E.2.1, 10, .inl (aN Ev)))] := by
  refine Fn_ofL (own := RX6) (by decide) rfl rfl [(0, .ref jo), (1, .long h), (3, .int (nI x))] rfl ?_
  intro p e s m below meth c A C hr hnm
  refine G_lload_n C dX6_mixedName_0 rfl 1 rfl ?_
  refine G_aload_n C dX6_mixedName_1 rfl 2 rfl ?_
  refine G_getf C dX6_mixedName_2 wF_X6 wf_X6_33 (f := 3) (by decide) (ci := 6) rfl 0 rfl rfl 5 rfl ?_
  refine G_iload_n C dX6_mixedName_5 rfl 6 rfl ?_
  refine G_cV C dX6_mixedName_6 (c_X1_setOf l E fo fa S x (by first | assumption | omega)) wm_X6_103 wi_X1_setOf wsel_X1_setOf wn_X1 wc_X1_setOf rfl rfl ⟨by decide, by decide, rfl⟩ rfl (Nat.le_of_ble_eq_true rfl) 1 rfl rfl 0 rfl [1, 2] [0, 3, 4, 5, 6, 7, 8] (wr := [(jo, .inr (6, [.ref o, .ref so, .ref to, .ref fo, .ref co, .ref ro, .int (nI bd), .int (nI nb), .int (nI fl)])), (co, .inr (0, [.ref cg, .ref ct])), (cg, .inl (E.2.1, 10, .inl (aN Gp))), (ct, .inl (E.2.1, 10, .inl (aO Tt))), (ro, .inr (3, [.ref re, .ref rv, .int (nI ms)])), (re, .inl (E.2.1, 10, .inl (aO En))), (rv, .inl (E.2.1, 10, .inl (aN Ev)))]) rfl rfl rfl rfl rfl [0, 7, 8, 1, 2, 3, 4, 5, 6] rfl [(jo, .inr (6, [.ref o, .ref so, .ref to, .ref fo, .ref co, .ref ro, .int (nI bd), .int (nI nb), .int (nI fl)])), (fo, .inr (1, [.ref fa])), (fa, .inl (E.2.1, 10, .inl (aN S))), (co, .inr (0, [.ref cg, .ref ct])), (cg, .inl (E.2.1, 10, .inl (aN Gp))), (ct, .inl (E.2.1, 10, .inl (aO Tt))), (ro, .inr (3, [.ref re, .ref rv, .int (nI ms)])), (re, .inl (E.2.1, 10, .inl (aO En))), (rv, .inl (E.2.1, 10, .inl (aN Ev)))] rfl rfl [.int (nI (S x)), .long h] rfl 9 rfl ?_
  refine G_cS C dX6_mixedName_9 (c_X6_mixed l E h (nI (S x)) ) wm_X6_175 wt_X6_mixed wn_X6 wc_X6_mixed rfl rfl ⟨by decide, by decide, rfl⟩ rfl (Nat.le_of_ble_eq_true rfl) [] [0, 1, 2, 3, 4, 5, 6, 7, 8] (wr := [(jo, .inr (6, [.ref o, .ref so, .ref to, .ref fo, .ref co, .ref ro, .int (nI bd), .int (nI nb), .int (nI fl)])), (fo, .inr (1, [.ref fa])), (fa, .inl (E.2.1, 10, .inl (aN S))), (co, .inr (0, [.ref cg, .ref ct])), (cg, .inl (E.2.1, 10, .inl (aN Gp))), (ct, .inl (E.2.1, 10, .inl (aO Tt))), (ro, .inr (3, [.ref re, .ref rv, .int (nI ms)])), (re, .inl (E.2.1, 10, .inl (aO En))), (rv, .inl (E.2.1, 10, .inl (aN Ev)))]) rfl rfl rfl rfl rfl [0, 1, 2, 3, 4, 5, 6, 7, 8] rfl [(jo, .inr (6, [.ref o, .ref so, .ref to, .ref fo, .ref co, .ref ro, .int (nI bd), .int (nI nb), .int (nI fl)])), (fo, .inr (1, [.ref fa])), (fa, .inl (E.2.1, 10, .inl (aN S))), (co, .inr (0, [.ref cg, .ref ct])), (cg, .inl (E.2.1, 10, .inl (aN Gp))), (ct, .inl (E.2.1, 10, .inl (aO Tt))), (ro, .inr (3, [.ref re, .ref rv, .int (nI ms)])), (re, .inl (E.2.1, 10, .inl (aO En))), (rv, .inl (E.2.1, 10, .inl (aN Ev)))] rfl rfl [.long (mx h (nI (S x)))] rfl 12 rfl ?_
  refine G_lstore C dX6_mixedName_12 (by decide) [(4, .long (mx h (nI (S x)))), (0, .ref jo), (1, .long h), (3, .int (nI x))] rfl 14 rfl ?_
  refine G_lload C dX6_mixedName_14 rfl 16 rfl ?_
  refine G_aload_n C dX6_mixedName_16 rfl 17 rfl ?_
  refine G_getf C dX6_mixedName_17 wF_X6 wf_X6_40 (f := 4) (by decide) (ci := 6) rfl 0 rfl rfl 20 rfl ?_
  refine G_iload_n C dX6_mixedName_20 rfl 21 rfl ?_
  refine G_cV C dX6_mixedName_21 (c_X0_setOf l E co cg ct Gp Tt x (by first | assumption | omega) (by first | assumption | omega) (by first | assumption | omega)) wm_X6_108 wi_X0_setOf wsel_X0_setOf wn_X0 wc_X0_setOf rfl rfl ⟨by decide, by decide, rfl⟩ rfl (Nat.le_of_ble_eq_true rfl) 0 rfl rfl 0 rfl [3, 4, 5] [0, 1, 2, 6, 7, 8] (wr := [(jo, .inr (6, [.ref o, .ref so, .ref to, .ref fo, .ref co, .ref ro, .int (nI bd), .int (nI nb), .int (nI fl)])), (fo, .inr (1, [.ref fa])), (fa, .inl (E.2.1, 10, .inl (aN S))), (ro, .inr (3, [.ref re, .ref rv, .int (nI ms)])), (re, .inl (E.2.1, 10, .inl (aO En))), (rv, .inl (E.2.1, 10, .inl (aN Ev)))]) rfl rfl rfl rfl rfl [0, 1, 2, 6, 7, 8, 3, 4, 5] rfl [(jo, .inr (6, [.ref o, .ref so, .ref to, .ref fo, .ref co, .ref ro, .int (nI bd), .int (nI nb), .int (nI fl)])), (fo, .inr (1, [.ref fa])), (fa, .inl (E.2.1, 10, .inl (aN S))), (co, .inr (0, [.ref cg, .ref ct])), (cg, .inl (E.2.1, 10, .inl (aN Gp))), (ct, .inl (E.2.1, 10, .inl (aO Tt))), (ro, .inr (3, [.ref re, .ref rv, .int (nI ms)])), (re, .inl (E.2.1, 10, .inl (aO En))), (rv, .inl (E.2.1, 10, .inl (aN Ev)))] rfl rfl [.int (nI (mem Gp (Tt (Gp x)) 10)), .long (mx h (nI (S x)))] rfl 24 rfl ?_
  refine G_cS C dX6_mixedName_24 (c_X6_mixed l E (mx h (nI (S x))) (nI (mem Gp (Tt (Gp x)) 10)) ) wm_X6_175 wt_X6_mixed wn_X6 wc_X6_mixed rfl rfl ⟨by decide, by decide, rfl⟩ rfl (Nat.le_of_ble_eq_true rfl) [] [0, 1, 2, 3, 4, 5, 6, 7, 8] (wr := [(jo, .inr (6, [.ref o, .ref so, .ref to, .ref fo, .ref co, .ref ro, .int (nI bd), .int (nI nb), .int (nI fl)])), (fo, .inr (1, [.ref fa])), (fa, .inl (E.2.1, 10, .inl (aN S))), (co, .inr (0, [.ref cg, .ref ct])), (cg, .inl (E.2.1, 10, .inl (aN Gp))), (ct, .inl (E.2.1, 10, .inl (aO Tt))), (ro, .inr (3, [.ref re, .ref rv, .int (nI ms)])), (re, .inl (E.2.1, 10, .inl (aO En))), (rv, .inl (E.2.1, 10, .inl (aN Ev)))]) rfl rfl rfl rfl rfl [0, 1, 2, 3, 4, 5, 6, 7, 8] rfl [(jo, .inr (6, [.ref o, .ref so, .ref to, .ref fo, .ref co, .ref ro, .int (nI bd), .int (nI nb), .int (nI fl)])), (fo, .inr (1, [.ref fa])), (fa, .inl (E.2.1, 10, .inl (aN S))), (co, .inr (0, [.ref cg, .ref ct])), (cg, .inl (E.2.1, 10, .inl (aN Gp))), (ct, .inl (E.2.1, 10, .inl (aO Tt))), (ro, .inr (3, [.ref re, .ref rv, .int (nI ms)])), (re, .inl (E.2.1, 10, .inl (aO En))), (rv, .inl (E.2.1, 10, .inl (aN Ev)))] rfl rfl [.long (mx (mx h (nI (S x))) (nI (mem Gp (Tt (Gp x)) 10)))] rfl 27 rfl ?_
  refine G_lstore C dX6_mixedName_27 (by decide) [(4, .long (mx (mx h (nI (S x))) (nI (mem Gp (Tt (Gp x)) 10)))), (0, .ref jo), (1, .long h), (3, .int (nI x))] rfl 29 rfl ?_
  refine G_lload C dX6_mixedName_29 rfl 31 rfl ?_
  refine G_aload_n C dX6_mixedName_31 rfl 32 rfl ?_
  refine G_iload_n C dX6_mixedName_32 rfl 33 rfl ?_
  refine G_iconst C dX6_mixedName_33 (v := nI 1) rfl 34 rfl ?_
  refine G_cV C dX6_mixedName_34 (c_X6_groupDetail l E jo o so to fo co ro bd nb fl cg ct Gp Tt x 1 (by first | assumption | omega) (by first | assumption | omega) (by first | assumption | omega) (by first | assumption | omega)) wm_X6_109 wi_X6_groupDetail wsel_X6_groupDetail wn_X6 wc_X6_groupDetail rfl rfl ⟨by decide, by decide, rfl⟩ rfl (Nat.le_of_ble_eq_true rfl) 6 rfl rfl 0 rfl [0, 3, 4, 5] [1, 2, 6, 7, 8] (wr := [(fo, .inr (1, [.ref fa])), (fa, .inl (E.2.1, 10, .inl (aN S))), (ro, .inr (3, [.ref re, .ref rv, .int (nI ms)])), (re, .inl (E.2.1, 10, .inl (aO En))), (rv, .inl (E.2.1, 10, .inl (aN Ev)))]) rfl rfl rfl rfl rfl [5, 0, 1, 6, 7, 8, 2, 3, 4] rfl [(jo, .inr (6, [.ref o, .ref so, .ref to, .ref fo, .ref co, .ref ro, .int (nI bd), .int (nI nb), .int (nI fl)])), (fo, .inr (1, [.ref fa])), (fa, .inl (E.2.1, 10, .inl (aN S))), (co, .inr (0, [.ref cg, .ref ct])), (cg, .inl (E.2.1, 10, .inl (aN Gp))), (ct, .inl (E.2.1, 10, .inl (aO Tt))), (ro, .inr (3, [.ref re, .ref rv, .int (nI ms)])), (re, .inl (E.2.1, 10, .inl (aO En))), (rv, .inl (E.2.1, 10, .inl (aN Ev)))] rfl rfl [.int (oI (gdt Gp Tt x 1)), .long (mx (mx h (nI (S x))) (nI (mem Gp (Tt (Gp x)) 10)))] rfl 37 rfl ?_
  refine G_cS C dX6_mixedName_37 (c_X6_mixed l E (mx (mx h (nI (S x))) (nI (mem Gp (Tt (Gp x)) 10))) (oI (gdt Gp Tt x 1)) ) wm_X6_175 wt_X6_mixed wn_X6 wc_X6_mixed rfl rfl ⟨by decide, by decide, rfl⟩ rfl (Nat.le_of_ble_eq_true rfl) [] [0, 1, 2, 3, 4, 5, 6, 7, 8] (wr := [(jo, .inr (6, [.ref o, .ref so, .ref to, .ref fo, .ref co, .ref ro, .int (nI bd), .int (nI nb), .int (nI fl)])), (fo, .inr (1, [.ref fa])), (fa, .inl (E.2.1, 10, .inl (aN S))), (co, .inr (0, [.ref cg, .ref ct])), (cg, .inl (E.2.1, 10, .inl (aN Gp))), (ct, .inl (E.2.1, 10, .inl (aO Tt))), (ro, .inr (3, [.ref re, .ref rv, .int (nI ms)])), (re, .inl (E.2.1, 10, .inl (aO En))), (rv, .inl (E.2.1, 10, .inl (aN Ev)))]) rfl rfl rfl rfl rfl [0, 1, 2, 3, 4, 5, 6, 7, 8] rfl [(jo, .inr (6, [.ref o, .ref so, .ref to, .ref fo, .ref co, .ref ro, .int (nI bd), .int (nI nb), .int (nI fl)])), (fo, .inr (1, [.ref fa])), (fa, .inl (E.2.1, 10, .inl (aN S))), (co, .inr (0, [.ref cg, .ref ct])), (cg, .inl (E.2.1, 10, .inl (aN Gp))), (ct, .inl (E.2.1, 10, .inl (aO Tt))), (ro, .inr (3, [.ref re, .ref rv, .int (nI ms)])), (re, .inl (E.2.1, 10, .inl (aO En))), (rv, .inl (E.2.1, 10, .inl (aN Ev)))] rfl rfl [.long (mx (mx (mx h (nI (S x))) (nI (mem Gp (Tt (Gp x)) 10))) (oI (gdt Gp Tt x 1)))] rfl 40 rfl ?_
  refine G_lstore C dX6_mixedName_40 (by decide) [(4, .long (mx (mx (mx h (nI (S x))) (nI (mem Gp (Tt (Gp x)) 10))) (oI (gdt Gp Tt x 1)))), (0, .ref jo), (1, .long h), (3, .int (nI x))] rfl 42 rfl ?_
  refine G_lload C dX6_mixedName_42 rfl 44 rfl ?_
  refine G_aload_n C dX6_mixedName_44 rfl 45 rfl ?_
  refine G_iload_n C dX6_mixedName_45 rfl 46 rfl ?_
  refine G_iconst C dX6_mixedName_46 (v := nI 2) rfl 47 rfl ?_
  refine G_cV C dX6_mixedName_47 (c_X6_groupDetail l E jo o so to fo co ro bd nb fl cg ct Gp Tt x 2 (by first | assumption | omega) (by first | assumption | omega) (by first | assumption | omega) (by first | assumption | omega)) wm_X6_109 wi_X6_groupDetail wsel_X6_groupDetail wn_X6 wc_X6_groupDetail rfl rfl ⟨by decide, by decide, rfl⟩ rfl (Nat.le_of_ble_eq_true rfl) 6 rfl rfl 0 rfl [0, 3, 4, 5] [1, 2, 6, 7, 8] (wr := [(fo, .inr (1, [.ref fa])), (fa, .inl (E.2.1, 10, .inl (aN S))), (ro, .inr (3, [.ref re, .ref rv, .int (nI ms)])), (re, .inl (E.2.1, 10, .inl (aO En))), (rv, .inl (E.2.1, 10, .inl (aN Ev)))]) rfl rfl rfl rfl rfl [5, 0, 1, 6, 7, 8, 2, 3, 4] rfl [(jo, .inr (6, [.ref o, .ref so, .ref to, .ref fo, .ref co, .ref ro, .int (nI bd), .int (nI nb), .int (nI fl)])), (fo, .inr (1, [.ref fa])), (fa, .inl (E.2.1, 10, .inl (aN S))), (co, .inr (0, [.ref cg, .ref ct])), (cg, .inl (E.2.1, 10, .inl (aN Gp))), (ct, .inl (E.2.1, 10, .inl (aO Tt))), (ro, .inr (3, [.ref re, .ref rv, .int (nI ms)])), (re, .inl (E.2.1, 10, .inl (aO En))), (rv, .inl (E.2.1, 10, .inl (aN Ev)))] rfl rfl [.int (oI (gdt Gp Tt x 2)), .long (mx (mx (mx h (nI (S x))) (nI (mem Gp (Tt (Gp x)) 10))) (oI (gdt Gp Tt x 1)))] rfl 50 rfl ?_
  refine G_cS C dX6_mixedName_50 (c_X6_mixed l E (mx (mx (mx h (nI (S x))) (nI (mem Gp (Tt (Gp x)) 10))) (oI (gdt Gp Tt x 1))) (oI (gdt Gp Tt x 2)) ) wm_X6_175 wt_X6_mixed wn_X6 wc_X6_mixed rfl rfl ⟨by decide, by decide, rfl⟩ rfl (Nat.le_of_ble_eq_true rfl) [] [0, 1, 2, 3, 4, 5, 6, 7, 8] (wr := [(jo, .inr (6, [.ref o, .ref so, .ref to, .ref fo, .ref co, .ref ro, .int (nI bd), .int (nI nb), .int (nI fl)])), (fo, .inr (1, [.ref fa])), (fa, .inl (E.2.1, 10, .inl (aN S))), (co, .inr (0, [.ref cg, .ref ct])), (cg, .inl (E.2.1, 10, .inl (aN Gp))), (ct, .inl (E.2.1, 10, .inl (aO Tt))), (ro, .inr (3, [.ref re, .ref rv, .int (nI ms)])), (re, .inl (E.2.1, 10, .inl (aO En))), (rv, .inl (E.2.1, 10, .inl (aN Ev)))]) rfl rfl rfl rfl rfl [0, 1, 2, 3, 4, 5, 6, 7, 8] rfl [(jo, .inr (6, [.ref o, .ref so, .ref to, .ref fo, .ref co, .ref ro, .int (nI bd), .int (nI nb), .int (nI fl)])), (fo, .inr (1, [.ref fa])), (fa, .inl (E.2.1, 10, .inl (aN S))), (co, .inr (0, [.ref cg, .ref ct])), (cg, .inl (E.2.1, 10, .inl (aN Gp))), (ct, .inl (E.2.1, 10, .inl (aO Tt))), (ro, .inr (3, [.ref re, .ref rv, .int (nI ms)])), (re, .inl (E.2.1, 10, .inl (aO En))), (rv, .inl (E.2.1, 10, .inl (aN Ev)))] rfl rfl [.long (mx (mx (mx (mx h (nI (S x))) (nI (mem Gp (Tt (Gp x)) 10))) (oI (gdt Gp Tt x 1))) (oI (gdt Gp Tt x 2)))] rfl 53 rfl ?_
  refine G_lstore C dX6_mixedName_53 (by decide) [(4, .long (mx (mx (mx (mx h (nI (S x))) (nI (mem Gp (Tt (Gp x)) 10))) (oI (gdt Gp Tt x 1))) (oI (gdt Gp Tt x 2)))), (0, .ref jo), (1, .long h), (3, .int (nI x))] rfl 55 rfl ?_
  refine G_lload C dX6_mixedName_55 rfl 57 rfl ?_
  refine G_aload_n C dX6_mixedName_57 rfl 58 rfl ?_
  refine G_getf C dX6_mixedName_58 wF_X6 wf_X6_47 (f := 5) (by decide) (ci := 6) rfl 0 rfl rfl 61 rfl ?_
  refine G_iload_n C dX6_mixedName_61 rfl 62 rfl ?_
  refine G_cV C dX6_mixedName_62 (c_X3_endOf l E ro re rv En Ev ms x (by first | assumption | omega)) wm_X6_130 wi_X3_endOf wsel_X3_endOf wn_X3 wc_X3_endOf rfl rfl ⟨by decide, by decide, rfl⟩ rfl (Nat.le_of_ble_eq_true rfl) 3 rfl rfl 0 rfl [6, 7, 8] [0, 1, 2, 3, 4, 5] (wr := [(jo, .inr (6, [.ref o, .ref so, .ref to, .ref fo, .ref co, .ref ro, .int (nI bd), .int (nI nb), .int (nI fl)])), (fo, .inr (1, [.ref fa])), (fa, .inl (E.2.1, 10, .inl (aN S))), (co, .inr (0, [.ref cg, .ref ct])), (cg, .inl (E.2.1, 10, .inl (aN Gp))), (ct, .inl (E.2.1, 10, .inl (aO Tt)))]) rfl rfl rfl rfl rfl [0, 1, 2, 3, 4, 5, 6, 7, 8] rfl [(jo, .inr (6, [.ref o, .ref so, .ref to, .ref fo, .ref co, .ref ro, .int (nI bd), .int (nI nb), .int (nI fl)])), (fo, .inr (1, [.ref fa])), (fa, .inl (E.2.1, 10, .inl (aN S))), (co, .inr (0, [.ref cg, .ref ct])), (cg, .inl (E.2.1, 10, .inl (aN Gp))), (ct, .inl (E.2.1, 10, .inl (aO Tt))), (ro, .inr (3, [.ref re, .ref rv, .int (nI ms)])), (re, .inl (E.2.1, 10, .inl (aO En))), (rv, .inl (E.2.1, 10, .inl (aN Ev)))] rfl rfl [.int (oI (En x)), .long (mx (mx (mx (mx h (nI (S x))) (nI (mem Gp (Tt (Gp x)) 10))) (oI (gdt Gp Tt x 1))) (oI (gdt Gp Tt x 2)))] rfl 65 rfl ?_
  refine G_cS C dX6_mixedName_65 (c_X6_mixed l E (mx (mx (mx (mx h (nI (S x))) (nI (mem Gp (Tt (Gp x)) 10))) (oI (gdt Gp Tt x 1))) (oI (gdt Gp Tt x 2))) (oI (En x)) ) wm_X6_175 wt_X6_mixed wn_X6 wc_X6_mixed rfl rfl ⟨by decide, by decide, rfl⟩ rfl (Nat.le_of_ble_eq_true rfl) [] [0, 1, 2, 3, 4, 5, 6, 7, 8] (wr := [(jo, .inr (6, [.ref o, .ref so, .ref to, .ref fo, .ref co, .ref ro, .int (nI bd), .int (nI nb), .int (nI fl)])), (fo, .inr (1, [.ref fa])), (fa, .inl (E.2.1, 10, .inl (aN S))), (co, .inr (0, [.ref cg, .ref ct])), (cg, .inl (E.2.1, 10, .inl (aN Gp))), (ct, .inl (E.2.1, 10, .inl (aO Tt))), (ro, .inr (3, [.ref re, .ref rv, .int (nI ms)])), (re, .inl (E.2.1, 10, .inl (aO En))), (rv, .inl (E.2.1, 10, .inl (aN Ev)))]) rfl rfl rfl rfl rfl [0, 1, 2, 3, 4, 5, 6, 7, 8] rfl [(jo, .inr (6, [.ref o, .ref so, .ref to, .ref fo, .ref co, .ref ro, .int (nI bd), .int (nI nb), .int (nI fl)])), (fo, .inr (1, [.ref fa])), (fa, .inl (E.2.1, 10, .inl (aN S))), (co, .inr (0, [.ref cg, .ref ct])), (cg, .inl (E.2.1, 10, .inl (aN Gp))), (ct, .inl (E.2.1, 10, .inl (aO Tt))), (ro, .inr (3, [.ref re, .ref rv, .int (nI ms)])), (re, .inl (E.2.1, 10, .inl (aO En))), (rv, .inl (E.2.1, 10, .inl (aN Ev)))] rfl rfl [.long (mx (mx (mx (mx (mx h (nI (S x))) (nI (mem Gp (Tt (Gp x)) 10))) (oI (gdt Gp Tt x 1))) (oI (gdt Gp Tt x 2))) (oI (En x)))] rfl 68 rfl ?_
  refine G_lstore C dX6_mixedName_68 (by decide) [(4, .long (mx (mx (mx (mx (mx h (nI (S x))) (nI (mem Gp (Tt (Gp x)) 10))) (oI (gdt Gp Tt x 1))) (oI (gdt Gp Tt x 2))) (oI (En x)))), (0, .ref jo), (1, .long h), (3, .int (nI x))] rfl 70 rfl ?_
  refine G_lload C dX6_mixedName_70 rfl 72 rfl ?_
  refine G_aload_n C dX6_mixedName_72 rfl 73 rfl ?_
  refine G_getf C dX6_mixedName_73 wF_X6 wf_X6_47 (f := 5) (by decide) (ci := 6) rfl 0 rfl rfl 76 rfl ?_
  refine G_iload_n C dX6_mixedName_76 rfl 77 rfl ?_
  refine G_cV C dX6_mixedName_77 (c_X3_everOf l E ro re rv En Ev ms x (by first | assumption | omega)) wm_X6_133 wi_X3_everOf wsel_X3_everOf wn_X3 wc_X3_everOf rfl rfl ⟨by decide, by decide, rfl⟩ rfl (Nat.le_of_ble_eq_true rfl) 3 rfl rfl 0 rfl [6, 7, 8] [0, 1, 2, 3, 4, 5] (wr := [(jo, .inr (6, [.ref o, .ref so, .ref to, .ref fo, .ref co, .ref ro, .int (nI bd), .int (nI nb), .int (nI fl)])), (fo, .inr (1, [.ref fa])), (fa, .inl (E.2.1, 10, .inl (aN S))), (co, .inr (0, [.ref cg, .ref ct])), (cg, .inl (E.2.1, 10, .inl (aN Gp))), (ct, .inl (E.2.1, 10, .inl (aO Tt)))]) rfl rfl rfl rfl rfl [0, 1, 2, 3, 4, 5, 6, 7, 8] rfl [(jo, .inr (6, [.ref o, .ref so, .ref to, .ref fo, .ref co, .ref ro, .int (nI bd), .int (nI nb), .int (nI fl)])), (fo, .inr (1, [.ref fa])), (fa, .inl (E.2.1, 10, .inl (aN S))), (co, .inr (0, [.ref cg, .ref ct])), (cg, .inl (E.2.1, 10, .inl (aN Gp))), (ct, .inl (E.2.1, 10, .inl (aO Tt))), (ro, .inr (3, [.ref re, .ref rv, .int (nI ms)])), (re, .inl (E.2.1, 10, .inl (aO En))), (rv, .inl (E.2.1, 10, .inl (aN Ev)))] rfl rfl [.int (nI (Ev x)), .long (mx (mx (mx (mx (mx h (nI (S x))) (nI (mem Gp (Tt (Gp x)) 10))) (oI (gdt Gp Tt x 1))) (oI (gdt Gp Tt x 2))) (oI (En x)))] rfl 80 rfl ?_
  refine G_cS C dX6_mixedName_80 (c_X6_mixed l E (mx (mx (mx (mx (mx h (nI (S x))) (nI (mem Gp (Tt (Gp x)) 10))) (oI (gdt Gp Tt x 1))) (oI (gdt Gp Tt x 2))) (oI (En x))) (nI (Ev x)) ) wm_X6_175 wt_X6_mixed wn_X6 wc_X6_mixed rfl rfl ⟨by decide, by decide, rfl⟩ rfl (Nat.le_of_ble_eq_true rfl) [] [0, 1, 2, 3, 4, 5, 6, 7, 8] (wr := [(jo, .inr (6, [.ref o, .ref so, .ref to, .ref fo, .ref co, .ref ro, .int (nI bd), .int (nI nb), .int (nI fl)])), (fo, .inr (1, [.ref fa])), (fa, .inl (E.2.1, 10, .inl (aN S))), (co, .inr (0, [.ref cg, .ref ct])), (cg, .inl (E.2.1, 10, .inl (aN Gp))), (ct, .inl (E.2.1, 10, .inl (aO Tt))), (ro, .inr (3, [.ref re, .ref rv, .int (nI ms)])), (re, .inl (E.2.1, 10, .inl (aO En))), (rv, .inl (E.2.1, 10, .inl (aN Ev)))]) rfl rfl rfl rfl rfl [0, 1, 2, 3, 4, 5, 6, 7, 8] rfl [(jo, .inr (6, [.ref o, .ref so, .ref to, .ref fo, .ref co, .ref ro, .int (nI bd), .int (nI nb), .int (nI fl)])), (fo, .inr (1, [.ref fa])), (fa, .inl (E.2.1, 10, .inl (aN S))), (co, .inr (0, [.ref cg, .ref ct])), (cg, .inl (E.2.1, 10, .inl (aN Gp))), (ct, .inl (E.2.1, 10, .inl (aO Tt))), (ro, .inr (3, [.ref re, .ref rv, .int (nI ms)])), (re, .inl (E.2.1, 10, .inl (aO En))), (rv, .inl (E.2.1, 10, .inl (aN Ev)))] rfl rfl [.long (mx (mx (mx (mx (mx (mx h (nI (S x))) (nI (mem Gp (Tt (Gp x)) 10))) (oI (gdt Gp Tt x 1))) (oI (gdt Gp Tt x 2))) (oI (En x))) (nI (Ev x)))] rfl 83 rfl ?_
  exact G_lret C hr dX6_mixedName_83 () trivial rfl rfl
