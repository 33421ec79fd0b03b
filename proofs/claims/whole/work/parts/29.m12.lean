set_option maxHeartbeats 4000000 in
set_option maxRecDepth 100000 in
theorem c_X7_has (l : Launch) (E : gE) (st k : Nat) (hs : st < 1024) (hk : k < 10) : FD l E yX7_has cX7_has 2 (some .boolean) { frames := 0, cells := 0, slots := 0, locals := 0 } [.int (nI st), .int (nI k)] [] (some (.int (bI (st.testBit k)))) [] := by
  refine Fn_ofL (own := RX7) (by decide) rfl rfl [(0, .int (nI st)), (1, .int (nI k))] rfl ?_
  intro p e s m below meth c A C hr hnm
  refine G_iload_n C dX7_has_0 rfl 1 rfl ?_
  refine G_iload_n C dX7_has_1 rfl 2 rfl ?_
  refine G_ishr C dX7_has_2 (v := nI (st / 2 ^ k)) (shr_k (by omega) (by omega)) 3 rfl ?_
  refine G_iconst C dX7_has_3 (v := nI 1) rfl 4 rfl ?_
  refine G_iand C dX7_has_4 (v := nI ((st / 2 ^ k) % 2)) (and_1 (div_lt hs)) 5 rfl ?_
  refine G_iconst C dX7_has_5 (v := nI 1) rfl 6 rfl ?_
  refine G_icmp_ne C dX7_has_6 13 rfl 9 rfl (show nI (st / 2 ^ k % 2) = nI 1 ↔ st.testBit k = true by rw [nI_eq (by omega) (by omega)]; exact tb_iff st k) (fun h_1 => ?_) (fun h_1 => ?_)
  · refine G_iconst C dX7_has_13 (v := nI 0) rfl 14 rfl ?_
    exact G_iret C hr dX7_has_14 (by decide) () trivial (bI_rf (by simpa using h_1)) rfl
  · refine G_iconst C dX7_has_9 (v := nI 1) rfl 10 rfl ?_
    refine G_goto C dX7_has_10 14 rfl ?_
    exact G_iret C hr dX7_has_14 (by decide) () trivial (bI_rt h_1) rfl

set_option maxHeartbeats 4000000 in
set_option maxRecDepth 100000 in
theorem c_X7_ones (l : Launch) (E : gE) (st : Nat) (hs : st < 1024) : FD l E yX7_ones cX7_ones 3 (some .int) { frames := 0, cells := 0, slots := 0, locals := 0 } [.int (nI st)] [] (some (.int (nI (pcn st)))) [] := by
  refine Fn_ofL (own := RX7) (by decide) rfl rfl [(0, .int (nI st))] rfl ?_
  intro p e s m below meth c A C hr hnm
  refine G_iconst C dX7_ones_0 (v := nI 0) rfl 1 rfl ?_
  refine G_istore_n C dX7_ones_1 (by decide) [(1, .int (nI 0)), (0, .int (nI st))] rfl 2 rfl ?_
  refine G_iconst C dX7_ones_2 (v := nI 0) rfl 3 rfl ?_
  refine G_istore_n C dX7_ones_3 (by decide) [(2, .int (nI 0)), (1, .int (nI 0)), (0, .int (nI st))] rfl 4 rfl ?_
  refine G_sel [1, 0, 2] [(1, .int (nI 0)), (2, .int (nI 0)), (0, .int (nI st))] rfl ?_
  refine G_while (X := Nat) (Wf := fun k => []) (Lf := fun k => [(1, .int (nI (pcu st k))), (2, .int (nI k)), (0, .int (nI st))]) (Sf := fun _ => []) (fun k => k ≤ 10) (fun k => 10 - k) (fun k hi ih => ?_) 0 (by omega)
  refine G_iload_n C dX7_ones_4 rfl 5 rfl ?_
  refine G_bipush C dX7_ones_5 (v := nI 10) (by decide) 7 rfl ?_
  refine G_icmp_ge C dX7_ones_7 24 rfl 10 rfl (nI_leI (by omega) (by omega)) (fun h_1 => ?_) (fun h_1 => ?_)
  · refine G_iload_n C dX7_ones_24 rfl 25 rfl ?_
    exact G_iret C hr dX7_ones_25 rfl () trivial (by rw [show k = 10 by omega]; rfl) rfl
  · refine G_iload_n C dX7_ones_10 rfl 11 rfl ?_
    refine G_iload_n C dX7_ones_11 rfl 12 rfl ?_
    refine G_iload_n C dX7_ones_12 rfl 13 rfl ?_
    refine G_ishr C dX7_ones_13 (v := nI (st / 2 ^ k)) (shr_k (by omega) (by omega)) 14 rfl ?_
    refine G_iconst C dX7_ones_14 (v := nI 1) rfl 15 rfl ?_
    refine G_iand C dX7_ones_15 (v := nI ((st / 2 ^ k) % 2)) (and_1 (div_lt hs)) 16 rfl ?_
    refine G_iadd C dX7_ones_16 (v := nI (pcu st k + ((st / 2 ^ k) % 2))) (nI_add _ _) 17 rfl ?_
    refine G_istore_n C dX7_ones_17 (by decide) [(1, .int (nI (pcu st k + ((st / 2 ^ k) % 2)))), (2, .int (nI k)), (0, .int (nI st))] rfl 18 rfl ?_
    refine G_iinc C dX7_ones_18 1 rfl (nI_1 _) (by decide) [(2, .int (nI (k + 1))), (1, .int (nI (pcu st k + ((st / 2 ^ k) % 2)))), (0, .int (nI st))] rfl 21 rfl ?_
    refine G_goto C dX7_ones_21 4 rfl ?_
    refine G_sel [1, 0, 2] [(1, .int (nI (pcu st k + ((st / 2 ^ k) % 2)))), (2, .int (nI (k + 1))), (0, .int (nI st))] rfl ?_
    exact ih (k + 1) (by omega) (by omega)

set_option maxHeartbeats 4000000 in
set_option maxRecDepth 100000 in
theorem c_X7_counts0 (l : Launch) (E : gE) (mo ma0 ma1 ma2 ma4 ma5 ma7 ma9 ma10 ma11 ma12 ma15 ns mlen mm pl wm : Nat) (gw : Bool) (hh : Int64) (Rf : Nat → Nat)  : FD l E yX7_counts cX7_counts 2 (some .int) { frames := 0, cells := 0, slots := 0, locals := 0 } [.ref mo, .int (-2 : Int32)] [(mo, .inr (7, [.ref ma0, .ref ma1, .ref ma2, .int (nI ns), .ref ma4, .ref ma5, .int (nI mlen), .ref ma7, .int (bI gw), .ref ma9, .ref ma10, .ref ma11, .ref ma12, .int (nI mm), .int (nI pl), .ref ma15, .int (nI wm), .long hh])), (ma4, .inl (E.2.1, 3, .inl (aN Rf)))] (some (.int (-2 : Int32))) [(mo, .inr (7, [.ref ma0, .ref ma1, .ref ma2, .int (nI ns), .ref ma4, .ref ma5, .int (nI mlen), .ref ma7, .int (bI gw), .ref ma9, .ref ma10, .ref ma11, .ref ma12, .int (nI mm), .int (nI pl), .ref ma15, .int (nI wm), .long hh])), (ma4, .inl (E.2.1, 3, .inl (aN (va_up Rf 0 (Rf 0 + 1)))))] := by
  refine Fn_ofL (own := RX7) (by decide) rfl rfl [(0, .ref mo), (1, .int (-2 : Int32))] rfl ?_
  intro p e s m below meth c A C hr hnm
  refine G_aload_n C dX7_counts_0 rfl 1 rfl ?_
  refine G_getf C dX7_counts_1 wF_X7 wf_X7_19 (f := 4) (by decide) (ci := 7) rfl 0 rfl rfl 4 rfl ?_
  refine G_bipush C dX7_counts_4 (v := (-2 : Int32)) (by decide) 6 rfl ?_
  refine G_iload_n C dX7_counts_6 rfl 7 rfl ?_
  refine G_isub C dX7_counts_7 (v := nI 0) (by decide) 8 rfl ?_
  refine G_dup2 C dX7_counts_8 rfl rfl 9 rfl ?_
  refine G_ialdN C dX7_counts_9 1 rfl rfl (by omega) 10 rfl ?_
  refine G_iconst C dX7_counts_10 (v := nI 1) rfl 11 rfl ?_
  refine G_iadd C dX7_counts_11 (v := nI (Rf 0 + 1)) (nI_add _ _) 12 rfl ?_
  refine G_iastN C dX7_counts_12 1 rfl rfl (x := Rf 0 + 1) (by omega) [(mo, .inr (7, [.ref ma0, .ref ma1, .ref ma2, .int (nI ns), .ref ma4, .ref ma5, .int (nI mlen), .ref ma7, .int (bI gw), .ref ma9, .ref ma10, .ref ma11, .ref ma12, .int (nI mm), .int (nI pl), .ref ma15, .int (nI wm), .long hh])), (ma4, .inl (E.2.1, 3, .inl (aN (va_up Rf 0 (Rf 0 + 1)))))] rfl 13 rfl ?_
  refine G_iload_n C dX7_counts_13 rfl 14 rfl ?_
  exact G_iret C hr dX7_counts_14 rfl () trivial rfl rfl

set_option maxHeartbeats 4000000 in
set_option maxRecDepth 100000 in
theorem c_X7_counts1 (l : Launch) (E : gE) (mo ma0 ma1 ma2 ma4 ma5 ma7 ma9 ma10 ma11 ma12 ma15 ns mlen mm pl wm : Nat) (gw : Bool) (hh : Int64) (Rf : Nat → Nat)  : FD l E yX7_counts cX7_counts 2 (some .int) { frames := 0, cells := 0, slots := 0, locals := 0 } [.ref mo, .int (-3 : Int32)] [(mo, .inr (7, [.ref ma0, .ref ma1, .ref ma2, .int (nI ns), .ref ma4, .ref ma5, .int (nI mlen), .ref ma7, .int (bI gw), .ref ma9, .ref ma10, .ref ma11, .ref ma12, .int (nI mm), .int (nI pl), .ref ma15, .int (nI wm), .long hh])), (ma4, .inl (E.2.1, 3, .inl (aN Rf)))] (some (.int (-3 : Int32))) [(mo, .inr (7, [.ref ma0, .ref ma1, .ref ma2, .int (nI ns), .ref ma4, .ref ma5, .int (nI mlen), .ref ma7, .int (bI gw), .ref ma9, .ref ma10, .ref ma11, .ref ma12, .int (nI mm), .int (nI pl), .ref ma15, .int (nI wm), .long hh])), (ma4, .inl (E.2.1, 3, .inl (aN (va_up Rf 1 (Rf 1 + 1)))))] := by
  refine Fn_ofL (own := RX7) (by decide) rfl rfl [(0, .ref mo), (1, .int (-3 : Int32))] rfl ?_
  intro p e s m below meth c A C hr hnm
  refine G_aload_n C dX7_counts_0 rfl 1 rfl ?_
  refine G_getf C dX7_counts_1 wF_X7 wf_X7_19 (f := 4) (by decide) (ci := 7) rfl 0 rfl rfl 4 rfl ?_
  refine G_bipush C dX7_counts_4 (v := (-2 : Int32)) (by decide) 6 rfl ?_
  refine G_iload_n C dX7_counts_6 rfl 7 rfl ?_
  refine G_isub C dX7_counts_7 (v := nI 1) (by decide) 8 rfl ?_
  refine G_dup2 C dX7_counts_8 rfl rfl 9 rfl ?_
  refine G_ialdN C dX7_counts_9 1 rfl rfl (by omega) 10 rfl ?_
  refine G_iconst C dX7_counts_10 (v := nI 1) rfl 11 rfl ?_
  refine G_iadd C dX7_counts_11 (v := nI (Rf 1 + 1)) (nI_add _ _) 12 rfl ?_
  refine G_iastN C dX7_counts_12 1 rfl rfl (x := Rf 1 + 1) (by omega) [(mo, .inr (7, [.ref ma0, .ref ma1, .ref ma2, .int (nI ns), .ref ma4, .ref ma5, .int (nI mlen), .ref ma7, .int (bI gw), .ref ma9, .ref ma10, .ref ma11, .ref ma12, .int (nI mm), .int (nI pl), .ref ma15, .int (nI wm), .long hh])), (ma4, .inl (E.2.1, 3, .inl (aN (va_up Rf 1 (Rf 1 + 1)))))] rfl 13 rfl ?_
  refine G_iload_n C dX7_counts_13 rfl 14 rfl ?_
  exact G_iret C hr dX7_counts_14 rfl () trivial rfl rfl

set_option maxHeartbeats 4000000 in
set_option maxRecDepth 100000 in
theorem c_X7_counts2 (l : Launch) (E : gE) (mo ma0 ma1 ma2 ma4 ma5 ma7 ma9 ma10 ma11 ma12 ma15 ns mlen mm pl wm : Nat) (gw : Bool) (hh : Int64) (Rf : Nat → Nat)  : FD l E yX7_counts cX7_counts 2 (some .int) { frames := 0, cells := 0, slots := 0, locals := 0 } [.ref mo, .int (-4 : Int32)] [(mo, .inr (7, [.ref ma0, .ref ma1, .ref ma2, .int (nI ns), .ref ma4, .ref ma5, .int (nI mlen), .ref ma7, .int (bI gw), .ref ma9, .ref ma10, .ref ma11, .ref ma12, .int (nI mm), .int (nI pl), .ref ma15, .int (nI wm), .long hh])), (ma4, .inl (E.2.1, 3, .inl (aN Rf)))] (some (.int (-4 : Int32))) [(mo, .inr (7, [.ref ma0, .ref ma1, .ref ma2, .int (nI ns), .ref ma4, .ref ma5, .int (nI mlen), .ref ma7, .int (bI gw), .ref ma9, .ref ma10, .ref ma11, .ref ma12, .int (nI mm), .int (nI pl), .ref ma15, .int (nI wm), .long hh])), (ma4, .inl (E.2.1, 3, .inl (aN (va_up Rf 2 (Rf 2 + 1)))))] := by
  refine Fn_ofL (own := RX7) (by decide) rfl rfl [(0, .ref mo), (1, .int (-4 : Int32))] rfl ?_
  intro p e s m below meth c A C hr hnm
  refine G_aload_n C dX7_counts_0 rfl 1 rfl ?_
  refine G_getf C dX7_counts_1 wF_X7 wf_X7_19 (f := 4) (by decide) (ci := 7) rfl 0 rfl rfl 4 rfl ?_
  refine G_bipush C dX7_counts_4 (v := (-2 : Int32)) (by decide) 6 rfl ?_
  refine G_iload_n C dX7_counts_6 rfl 7 rfl ?_
  refine G_isub C dX7_counts_7 (v := nI 2) (by decide) 8 rfl ?_
  refine G_dup2 C dX7_counts_8 rfl rfl 9 rfl ?_
  refine G_ialdN C dX7_counts_9 1 rfl rfl (by omega) 10 rfl ?_
  refine G_iconst C dX7_counts_10 (v := nI 1) rfl 11 rfl ?_
  refine G_iadd C dX7_counts_11 (v := nI (Rf 2 + 1)) (nI_add _ _) 12 rfl ?_
  refine G_iastN C dX7_counts_12 1 rfl rfl (x := Rf 2 + 1) (by omega) [(mo, .inr (7, [.ref ma0, .ref ma1, .ref ma2, .int (nI ns), .ref ma4, .ref ma5, .int (nI mlen), .ref ma7, .int (bI gw), .ref ma9, .ref ma10, .ref ma11, .ref ma12, .int (nI mm), .int (nI pl), .ref ma15, .int (nI wm), .long hh])), (ma4, .inl (E.2.1, 3, .inl (aN (va_up Rf 2 (Rf 2 + 1)))))] rfl 13 rfl ?_
  refine G_iload_n C dX7_counts_13 rfl 14 rfl ?_
  exact G_iret C hr dX7_counts_14 rfl () trivial rfl rfl

set_option maxHeartbeats 4000000 in
set_option maxRecDepth 100000 in
theorem c_X7_isName (l : Launch) (E : gE) (v : Int32)  : FD l E yX7_isName cX7_isName 1 (some .boolean) { frames := 1, cells := 0, slots := 0, locals := 22 } [.int v] [] (some (.int (bI (inb v 10)))) [] := by
  refine Fn_ofL (own := RX7) (by decide) rfl rfl [(0, .int v)] rfl ?_
  intro p e s m below meth c A C hr hnm
  refine G_iload_n C dX7_isName_0 rfl 1 rfl ?_
  refine G_iconst C dX7_isName_1 (v := nI 0) rfl 2 rfl ?_
  refine G_bipush C dX7_isName_2 (v := nI 9) (by decide) 4 rfl ?_
  refine G_cS C dX7_isName_4 (c_X7_within l E v (nI 0) (nI 9) ) wm_X7_43 wt_X7_within wn_X7 wc_X7_within rfl rfl ⟨by decide, by decide, rfl⟩ rfl (Nat.le_of_ble_eq_true rfl) [] [] (wr := []) rfl rfl rfl rfl rfl [] rfl [] rfl rfl [.int (bI (decide ((nI 0).toInt ≤ v.toInt ∧ v.toInt ≤ (nI 9).toInt)))] rfl 7 rfl ?_
  exact G_iret C hr dX7_isName_7 (bI_nar _) () trivial (by rw [show inb v 10 = decide ((nI 0).toInt ≤ v.toInt ∧ v.toInt ≤ (nI 9).toInt) from decide_eq_decide.mpr (by rw [nI_toInt (by omega), nI_toInt (by omega)]; omega)]) rfl

set_option maxHeartbeats 4000000 in
set_option maxRecDepth 100000 in
theorem c_X7_isLine (l : Launch) (E : gE) (mo ma0 ma1 ma2 ma4 ma5 ma7 ma9 ma10 ma11 ma12 ma15 ns mlen mm pl wm : Nat) (gw : Bool) (hh : Int64) (Nw : Nat → Nat) (v : Int32) (n : Nat) (h0 : Nw 0 = n) (hn : n ≤ 14) : FD l E yX7_isLine cX7_isLine 2 (some .boolean) { frames := 1, cells := 0, slots := 0, locals := 22 } [.ref mo, .int v] [(mo, .inr (7, [.ref ma0, .ref ma1, .ref ma2, .int (nI ns), .ref ma4, .ref ma5, .int (nI mlen), .ref ma7, .int (bI gw), .ref ma9, .ref ma10, .ref ma11, .ref ma12, .int (nI mm), .int (nI pl), .ref ma15, .int (nI wm), .long hh])), (ma0, .inl (E.2.1, 15, .inl (aN Nw)))] (some (.int (bI (inb v n)))) [(mo, .inr (7, [.ref ma0, .ref ma1, .ref ma2, .int (nI ns), .ref ma4, .ref ma5, .int (nI mlen), .ref ma7, .int (bI gw), .ref ma9, .ref ma10, .ref ma11, .ref ma12, .int (nI mm), .int (nI pl), .ref ma15, .int (nI wm), .long hh])), (ma0, .inl (E.2.1, 15, .inl (aN Nw)))] := by
  refine Fn_ofL (own := RX7) (by decide) rfl rfl [(0, .ref mo), (1, .int v)] rfl ?_
  intro p e s m below meth c A C hr hnm
  refine G_iload_n C dX7_isLine_0 rfl 1 rfl ?_
  refine G_iconst C dX7_isLine_1 (v := nI 0) rfl 2 rfl ?_
  refine G_aload_n C dX7_isLine_2 rfl 3 rfl ?_
  refine G_getf C dX7_isLine_3 wF_X7 wf_X7_7 (f := 0) (by decide) (ci := 7) rfl 0 rfl rfl 6 rfl ?_
  refine G_iconst C dX7_isLine_6 (v := nI 0) rfl 7 rfl ?_
  refine G_ialdN C dX7_isLine_7 1 rfl rfl (by omega) 8 rfl ?_
  refine G_top (v' := .int (nI n)) (by rw [h0]) ?_
  refine G_iconst C dX7_isLine_8 (v := nI 1) rfl 9 rfl ?_
  refine G_isub C dX7_isLine_9 (v := nI n - nI 1) rfl 10 rfl ?_
  refine G_cS C dX7_isLine_10 (c_X7_within l E v (nI 0) (nI n - nI 1) ) wm_X7_43 wt_X7_within wn_X7 wc_X7_within rfl rfl ⟨by decide, by decide, rfl⟩ rfl (Nat.le_of_ble_eq_true rfl) [] [0, 1] (wr := [(mo, .inr (7, [.ref ma0, .ref ma1, .ref ma2, .int (nI ns), .ref ma4, .ref ma5, .int (nI mlen), .ref ma7, .int (bI gw), .ref ma9, .ref ma10, .ref ma11, .ref ma12, .int (nI mm), .int (nI pl), .ref ma15, .int (nI wm), .long hh])), (ma0, .inl (E.2.1, 15, .inl (aN Nw)))]) rfl rfl rfl rfl rfl [0, 1] rfl [(mo, .inr (7, [.ref ma0, .ref ma1, .ref ma2, .int (nI ns), .ref ma4, .ref ma5, .int (nI mlen), .ref ma7, .int (bI gw), .ref ma9, .ref ma10, .ref ma11, .ref ma12, .int (nI mm), .int (nI pl), .ref ma15, .int (nI wm), .long hh])), (ma0, .inl (E.2.1, 15, .inl (aN Nw)))] rfl rfl [.int (bI (decide ((nI 0).toInt ≤ v.toInt ∧ v.toInt ≤ (nI n - nI 1).toInt)))] rfl 13 rfl ?_
  exact G_iret C hr dX7_isLine_13 (bI_nar _) () trivial (by rw [show inb v n = decide ((nI 0).toInt ≤ v.toInt ∧ v.toInt ≤ (nI n - nI 1).toInt) from decide_eq_decide.mpr (by rw [nI_toInt (by omega), pk_sub_toInt (by omega) (by omega)]; omega)]) rfl

set_option maxHeartbeats 4000000 in
set_option maxRecDepth 100000 in
theorem c_X7_sortOf (l : Launch) (E : gE) (mo ma0 ma1 ma2 ma4 ma5 ma7 ma9 ma10 ma11 ma12 ma15 ns mlen mm pl wm : Nat) (gw : Bool) (hh : Int64) (Nw : Nat → Nat) (i v : Nat) (hi : i < 14) (hc : Nw (1 + i) = v) (hv : v < 400) : FD l E yX7_sortOf cX7_sortOf 2 (some .int) { frames := 0, cells := 0, slots := 0, locals := 0 } [.ref mo, .int (nI i)] [(mo, .inr (7, [.ref ma0, .ref ma1, .ref ma2, .int (nI ns), .ref ma4, .ref ma5, .int (nI mlen), .ref ma7, .int (bI gw), .ref ma9, .ref ma10, .ref ma11, .ref ma12, .int (nI mm), .int (nI pl), .ref ma15, .int (nI wm), .long hh])), (ma0, .inl (E.2.1, 15, .inl (aN Nw)))] (some (.int (nI (v / 100)))) [(mo, .inr (7, [.ref ma0, .ref ma1, .ref ma2, .int (nI ns), .ref ma4, .ref ma5, .int (nI mlen), .ref ma7, .int (bI gw), .ref ma9, .ref ma10, .ref ma11, .ref ma12, .int (nI mm), .int (nI pl), .ref ma15, .int (nI wm), .long hh])), (ma0, .inl (E.2.1, 15, .inl (aN Nw)))] := by
  refine Fn_ofL (own := RX7) (by decide) rfl rfl [(0, .ref mo), (1, .int (nI i))] rfl ?_
  intro p e s m below meth c A C hr hnm
  refine G_aload_n C dX7_sortOf_0 rfl 1 rfl ?_
  refine G_getf C dX7_sortOf_1 wF_X7 wf_X7_7 (f := 0) (by decide) (ci := 7) rfl 0 rfl rfl 4 rfl ?_
  refine G_iconst C dX7_sortOf_4 (v := nI 1) rfl 5 rfl ?_
  refine G_iload_n C dX7_sortOf_5 rfl 6 rfl ?_
  refine G_iadd C dX7_sortOf_6 (v := nI (1 + i)) (nI_add _ _) 7 rfl ?_
  refine G_ialdN C dX7_sortOf_7 1 rfl rfl (by omega) 8 rfl ?_
  refine G_top (v' := .int (nI v)) (by rw [hc]) ?_
  refine G_bipush C dX7_sortOf_8 (v := nI 100) (by decide) 10 rfl ?_
  refine G_idiv C dX7_sortOf_10 (by decide) (v := nI (v / 100)) (pk_div (by omega) (by decide) (by decide)) 11 rfl ?_
  exact G_iret C hr dX7_sortOf_11 rfl () trivial rfl rfl

set_option maxHeartbeats 4000000 in
set_option maxRecDepth 100000 in
theorem c_X7_xOf (l : Launch) (E : gE) (mo ma0 ma1 ma2 ma4 ma5 ma7 ma9 ma10 ma11 ma12 ma15 ns mlen mm pl wm : Nat) (gw : Bool) (hh : Int64) (Nw : Nat → Nat) (i v : Nat) (hi : i < 14) (hc : Nw (1 + i) = v) (hv : v < 400) : FD l E yX7_xOf cX7_xOf 2 (some .int) { frames := 0, cells := 0, slots := 0, locals := 0 } [.ref mo, .int (nI i)] [(mo, .inr (7, [.ref ma0, .ref ma1, .ref ma2, .int (nI ns), .ref ma4, .ref ma5, .int (nI mlen), .ref ma7, .int (bI gw), .ref ma9, .ref ma10, .ref ma11, .ref ma12, .int (nI mm), .int (nI pl), .ref ma15, .int (nI wm), .long hh])), (ma0, .inl (E.2.1, 15, .inl (aN Nw)))] (some (.int (nI (v / 10 % 10)))) [(mo, .inr (7, [.ref ma0, .ref ma1, .ref ma2, .int (nI ns), .ref ma4, .ref ma5, .int (nI mlen), .ref ma7, .int (bI gw), .ref ma9, .ref ma10, .ref ma11, .ref ma12, .int (nI mm), .int (nI pl), .ref ma15, .int (nI wm), .long hh])), (ma0, .inl (E.2.1, 15, .inl (aN Nw)))] := by
  refine Fn_ofL (own := RX7) (by decide) rfl rfl [(0, .ref mo), (1, .int (nI i))] rfl ?_
  intro p e s m below meth c A C hr hnm
  refine G_aload_n C dX7_xOf_0 rfl 1 rfl ?_
  refine G_getf C dX7_xOf_1 wF_X7 wf_X7_7 (f := 0) (by decide) (ci := 7) rfl 0 rfl rfl 4 rfl ?_
  refine G_iconst C dX7_xOf_4 (v := nI 1) rfl 5 rfl ?_
  refine G_iload_n C dX7_xOf_5 rfl 6 rfl ?_
  refine G_iadd C dX7_xOf_6 (v := nI (1 + i)) (nI_add _ _) 7 rfl ?_
  refine G_ialdN C dX7_xOf_7 1 rfl rfl (by omega) 8 rfl ?_
  refine G_top (v' := .int (nI v)) (by rw [hc]) ?_
  refine G_bipush C dX7_xOf_8 (v := nI 10) (by decide) 10 rfl ?_
  refine G_idiv C dX7_xOf_10 (by decide) (v := nI (v / 10)) (pk_div (by omega) (by decide) (by decide)) 11 rfl ?_
  refine G_bipush C dX7_xOf_11 (v := nI 10) (by decide) 13 rfl ?_
  refine G_irem C dX7_xOf_13 (by decide) (v := nI ((v / 10) % 10)) (pk_rem (by omega) (by decide) (by decide)) 14 rfl ?_
  exact G_iret C hr dX7_xOf_14 rfl () trivial rfl rfl

set_option maxHeartbeats 4000000 in
set_option maxRecDepth 100000 in
theorem c_X7_yOf (l : Launch) (E : gE) (mo ma0 ma1 ma2 ma4 ma5 ma7 ma9 ma10 ma11 ma12 ma15 ns mlen mm pl wm : Nat) (gw : Bool) (hh : Int64) (Nw : Nat → Nat) (i v : Nat) (hi : i < 14) (hc : Nw (1 + i) = v) (hv : v < 400) : FD l E yX7_yOf cX7_yOf 2 (some .int) { frames := 0, cells := 0, slots := 0, locals := 0 } [.ref mo, .int (nI i)] [(mo, .inr (7, [.ref ma0, .ref ma1, .ref ma2, .int (nI ns), .ref ma4, .ref ma5, .int (nI mlen), .ref ma7, .int (bI gw), .ref ma9, .ref ma10, .ref ma11, .ref ma12, .int (nI mm), .int (nI pl), .ref ma15, .int (nI wm), .long hh])), (ma0, .inl (E.2.1, 15, .inl (aN Nw)))] (some (.int (nI (v % 10)))) [(mo, .inr (7, [.ref ma0, .ref ma1, .ref ma2, .int (nI ns), .ref ma4, .ref ma5, .int (nI mlen), .ref ma7, .int (bI gw), .ref ma9, .ref ma10, .ref ma11, .ref ma12, .int (nI mm), .int (nI pl), .ref ma15, .int (nI wm), .long hh])), (ma0, .inl (E.2.1, 15, .inl (aN Nw)))] := by
  refine Fn_ofL (own := RX7) (by decide) rfl rfl [(0, .ref mo), (1, .int (nI i))] rfl ?_
  intro p e s m below meth c A C hr hnm
  refine G_aload_n C dX7_yOf_0 rfl 1 rfl ?_
  refine G_getf C dX7_yOf_1 wF_X7 wf_X7_7 (f := 0) (by decide) (ci := 7) rfl 0 rfl rfl 4 rfl ?_
  refine G_iconst C dX7_yOf_4 (v := nI 1) rfl 5 rfl ?_
  refine G_iload_n C dX7_yOf_5 rfl 6 rfl ?_
  refine G_iadd C dX7_yOf_6 (v := nI (1 + i)) (nI_add _ _) 7 rfl ?_
  refine G_ialdN C dX7_yOf_7 1 rfl rfl (by omega) 8 rfl ?_
  refine G_top (v' := .int (nI v)) (by rw [hc]) ?_
  refine G_bipush C dX7_yOf_8 (v := nI 10) (by decide) 10 rfl ?_
  refine G_irem C dX7_yOf_10 (by decide) (v := nI (v % 10)) (pk_rem (by omega) (by decide) (by decide)) 11 rfl ?_
  exact G_iret C hr dX7_yOf_11 rfl () trivial rfl rfl

set_option maxHeartbeats 4000000 in
set_option maxRecDepth 100000 in
theorem c_X7_leaves (l : Launch) (E : gE) (mo ma0 ma1 ma2 ma4 ma5 ma7 ma9 ma10 ma11 ma12 ma15 ns mlen mm pl wm : Nat) (gw : Bool) (hh : Int64) (Nw : Nat → Nat) (Pa : Nat → Nat) (hs5 : ns ≤ 5) : FD l E yX7_leaves cX7_leaves 2 none { frames := 0, cells := 0, slots := 0, locals := 0 } [.ref mo] [(mo, .inr (7, [.ref ma0, .ref ma1, .ref ma2, .int (nI ns), .ref ma4, .ref ma5, .int (nI mlen), .ref ma7, .int (bI gw), .ref ma9, .ref ma10, .ref ma11, .ref ma12, .int (nI mm), .int (nI pl), .ref ma15, .int (nI wm), .long hh])), (ma0, .inl (E.2.1, 15, .inl (aN Nw))), (ma2, .inl (E.2.1, 75, .inl (aN Pa)))] none [(mo, .inr (7, [.ref ma0, .ref ma1, .ref ma2, .int (nI (kS ns)), .ref ma4, .ref ma5, .int (nI mlen), .ref ma7, .int (bI gw), .ref ma9, .ref ma10, .ref ma11, .ref ma12, .int (nI mm), .int (nI pl), .ref ma15, .int (nI wm), .long hh])), (ma0, .inl (E.2.1, 15, .inl (aN Nw))), (ma2, .inl (E.2.1, 75, .inl (aN (lvP ns Pa Nw))))] := by
  refine Fn_ofL (own := RX7) (by decide) rfl rfl [(0, .ref mo)] rfl ?_
  intro p e s m below meth c A C hr hnm
  rcases (show ns = 5 ∨ ns < 5 by omega) with rfl | h5
  · refine G_aload_n C dX7_leaves_0 rfl 1 rfl ?_
    refine G_getf C dX7_leaves_1 wF_X7 wf_X7_47 (f := 3) (by decide) (ci := 7) rfl 0 rfl rfl 4 rfl ?_
    refine G_iconst C dX7_leaves_4 (v := nI 5) rfl 5 rfl ?_
    refine G_icmp_ne_f C dX7_leaves_5 47 rfl 8 rfl (by decide) ?_
    refine G_iconst C dX7_leaves_8 (v := nI 0) rfl 9 rfl ?_
    refine G_istore_n C dX7_leaves_9 (by decide) [(1, .int (nI 0)), (0, .ref mo)] rfl 10 rfl ?_
    refine G_eq (ws' := [(mo, .inr (7, [.ref ma0, .ref ma1, .ref ma2, .int (nI 5), .ref ma4, .ref ma5, .int (nI mlen), .ref ma7, .int (bI gw), .ref ma9, .ref ma10, .ref ma11, .ref ma12, .int (nI mm), .int (nI pl), .ref ma15, .int (nI wm), .long hh])), (ma0, .inl (E.2.1, 15, .inl (aN Nw))), (ma2, .inl (E.2.1, 75, .inl (aN (shP Pa 0))))]) (by rw [shP_0]) rfl rfl ?_
    refine G_while (X := Nat) (Wf := fun k => [(mo, .inr (7, [.ref ma0, .ref ma1, .ref ma2, .int (nI 5), .ref ma4, .ref ma5, .int (nI mlen), .ref ma7, .int (bI gw), .ref ma9, .ref ma10, .ref ma11, .ref ma12, .int (nI mm), .int (nI pl), .ref ma15, .int (nI wm), .long hh])), (ma0, .inl (E.2.1, 15, .inl (aN Nw))), (ma2, .inl (E.2.1, 75, .inl (aN (shP Pa k))))]) (Lf := fun k => [(1, .int (nI k)), (0, .ref mo)]) (Sf := fun _ => []) (fun k => k ≤ 60) (fun k => 60 - k) (fun k hi ih => ?_) 0 (by omega)
    refine G_iload_n C dX7_leaves_10 rfl 11 rfl ?_
    refine G_bipush C dX7_leaves_11 (v := nI 60) (by decide) 13 rfl ?_
    refine G_icmp_ge C dX7_leaves_13 37 rfl 16 rfl (nI_leI (by omega) (by omega)) (fun h_1 => ?_) (fun h_1 => ?_)
    · refine G_eq (ws' := [(mo, .inr (7, [.ref ma0, .ref ma1, .ref ma2, .int (nI 5), .ref ma4, .ref ma5, .int (nI mlen), .ref ma7, .int (bI gw), .ref ma9, .ref ma10, .ref ma11, .ref ma12, .int (nI mm), .int (nI pl), .ref ma15, .int (nI wm), .long hh])), (ma0, .inl (E.2.1, 15, .inl (aN Nw))), (ma2, .inl (E.2.1, 75, .inl (aN (shP Pa 60))))]) (by rw [show k = 60 by omega]) rfl rfl ?_
      refine G_aload_n C dX7_leaves_37 rfl 38 rfl ?_
      refine G_dup C dX7_leaves_38 rfl 39 rfl ?_
      refine G_getf C dX7_leaves_39 wF_X7 wf_X7_47 (f := 3) (by decide) (ci := 7) rfl 0 rfl rfl 42 rfl ?_
      refine G_iconst C dX7_leaves_42 (v := nI 1) rfl 43 rfl ?_
      refine G_isub C dX7_leaves_43 (v := nI 4) (by decide) 44 rfl ?_
      refine G_putf C dX7_leaves_44 wF_X7 wf_X7_47 (f := 3) (by decide) (ci := 7) rfl tyX7_ok nmX7 rfl 0 rfl rfl rfl (Nat.le_of_ble_eq_true rfl) [(mo, .inr (7, [.ref ma0, .ref ma1, .ref ma2, .int (nI 4), .ref ma4, .ref ma5, .int (nI mlen), .ref ma7, .int (bI gw), .ref ma9, .ref ma10, .ref ma11, .ref ma12, .int (nI mm), .int (nI pl), .ref ma15, .int (nI wm), .long hh])), (ma0, .inl (E.2.1, 15, .inl (aN Nw))), (ma2, .inl (E.2.1, 75, .inl (aN (shP Pa 60))))] rfl 47 rfl ?_
      refine G_iconst C dX7_leaves_47 (v := nI 0) rfl 48 rfl ?_
      refine G_istore_n C dX7_leaves_48 (by decide) [(1, .int (nI 0)), (0, .ref mo)] rfl 49 rfl ?_
      refine G_eq (ws' := [(mo, .inr (7, [.ref ma0, .ref ma1, .ref ma2, .int (nI 4), .ref ma4, .ref ma5, .int (nI mlen), .ref ma7, .int (bI gw), .ref ma9, .ref ma10, .ref ma11, .ref ma12, .int (nI mm), .int (nI pl), .ref ma15, .int (nI wm), .long hh])), (ma0, .inl (E.2.1, 15, .inl (aN Nw))), (ma2, .inl (E.2.1, 75, .inl (aN (ptP (shP Pa 60) 60 Nw 0))))]) (by rw [ptP_0]) rfl rfl ?_
      refine G_while (X := Nat) (Wf := fun k2 => [(mo, .inr (7, [.ref ma0, .ref ma1, .ref ma2, .int (nI 4), .ref ma4, .ref ma5, .int (nI mlen), .ref ma7, .int (bI gw), .ref ma9, .ref ma10, .ref ma11, .ref ma12, .int (nI mm), .int (nI pl), .ref ma15, .int (nI wm), .long hh])), (ma0, .inl (E.2.1, 15, .inl (aN Nw))), (ma2, .inl (E.2.1, 75, .inl (aN (ptP (shP Pa 60) 60 Nw k2))))]) (Lf := fun k2 => [(1, .int (nI k2)), (0, .ref mo)]) (Sf := fun _ => []) (fun k2 => k2 ≤ 15) (fun k2 => 15 - k2) (fun k2 hi2 ih2 => ?_) 0 (by omega)
      refine G_iload_n C dX7_leaves_49 rfl 50 rfl ?_
      refine G_bipush C dX7_leaves_50 (v := nI 15) (by decide) 52 rfl ?_
      refine G_icmp_ge C dX7_leaves_52 81 rfl 55 rfl (nI_leI (by omega) (by omega)) (fun h_2 => ?_) (fun h_2 => ?_)
      · refine G_aload_n C dX7_leaves_81 rfl 82 rfl ?_
        refine G_dup C dX7_leaves_82 rfl 83 rfl ?_
        refine G_getf C dX7_leaves_83 wF_X7 wf_X7_47 (f := 3) (by decide) (ci := 7) rfl 0 rfl rfl 86 rfl ?_
        refine G_iconst C dX7_leaves_86 (v := nI 1) rfl 87 rfl ?_
        refine G_iadd C dX7_leaves_87 (v := nI 5) (by decide) 88 rfl ?_
        refine G_putf C dX7_leaves_88 wF_X7 wf_X7_47 (f := 3) (by decide) (ci := 7) rfl tyX7_ok nmX7 rfl 0 rfl rfl rfl (Nat.le_of_ble_eq_true rfl) [(mo, .inr (7, [.ref ma0, .ref ma1, .ref ma2, .int (nI 5), .ref ma4, .ref ma5, .int (nI mlen), .ref ma7, .int (bI gw), .ref ma9, .ref ma10, .ref ma11, .ref ma12, .int (nI mm), .int (nI pl), .ref ma15, .int (nI wm), .long hh])), (ma0, .inl (E.2.1, 15, .inl (aN Nw))), (ma2, .inl (E.2.1, 75, .inl (aN (ptP (shP Pa 60) 60 Nw k2))))] rfl 91 rfl ?_
        exact G_vret C hr dX7_leaves_91 () trivial rfl (by rw [show k2 = 15 by omega]; rfl)
      · refine G_aload_n C dX7_leaves_55 rfl 56 rfl ?_
        refine G_getf C dX7_leaves_56 wF_X7 wf_X7_16 (f := 2) (by decide) (ci := 7) rfl 0 rfl rfl 59 rfl ?_
        refine G_bipush C dX7_leaves_59 (v := nI 15) (by decide) 61 rfl ?_
        refine G_aload_n C dX7_leaves_61 rfl 62 rfl ?_
        refine G_getf C dX7_leaves_62 wF_X7 wf_X7_47 (f := 3) (by decide) (ci := 7) rfl 0 rfl rfl 65 rfl ?_
        refine G_imul C dX7_leaves_65 (v := nI 60) (by decide) 66 rfl ?_
        refine G_iload_n C dX7_leaves_66 rfl 67 rfl ?_
        refine G_iadd C dX7_leaves_67 (v := nI (60 + k2)) (nI_add _ _) 68 rfl ?_
        refine G_aload_n C dX7_leaves_68 rfl 69 rfl ?_
        refine G_getf C dX7_leaves_69 wF_X7 wf_X7_7 (f := 0) (by decide) (ci := 7) rfl 0 rfl rfl 72 rfl ?_
        refine G_iload_n C dX7_leaves_72 rfl 73 rfl ?_
        refine G_ialdN C dX7_leaves_73 1 rfl rfl (by omega) 74 rfl ?_
        refine G_iastN C dX7_leaves_74 2 rfl rfl (x := Nw k2) (by omega) [(mo, .inr (7, [.ref ma0, .ref ma1, .ref ma2, .int (nI 4), .ref ma4, .ref ma5, .int (nI mlen), .ref ma7, .int (bI gw), .ref ma9, .ref ma10, .ref ma11, .ref ma12, .int (nI mm), .int (nI pl), .ref ma15, .int (nI wm), .long hh])), (ma0, .inl (E.2.1, 15, .inl (aN Nw))), (ma2, .inl (E.2.1, 75, .inl (aN (va_up (ptP (shP Pa 60) 60 Nw k2) (60 + k2) (Nw k2)))))] rfl 75 rfl ?_
        refine G_iinc C dX7_leaves_75 0 rfl (nI_1 _) (by decide) [(1, .int (nI (k2 + 1))), (0, .ref mo)] rfl 78 rfl ?_
        refine G_goto C dX7_leaves_78 49 rfl ?_
        refine G_eq (ws' := [(mo, .inr (7, [.ref ma0, .ref ma1, .ref ma2, .int (nI 4), .ref ma4, .ref ma5, .int (nI mlen), .ref ma7, .int (bI gw), .ref ma9, .ref ma10, .ref ma11, .ref ma12, .int (nI mm), .int (nI pl), .ref ma15, .int (nI wm), .long hh])), (ma0, .inl (E.2.1, 15, .inl (aN Nw))), (ma2, .inl (E.2.1, 75, .inl (aN (ptP (shP Pa 60) 60 Nw (k2 + 1)))))]) (by rw [ptP_s]) rfl rfl ?_
        exact ih2 (k2 + 1) (by omega) (by omega)
    · refine G_aload_n C dX7_leaves_16 rfl 17 rfl ?_
      refine G_getf C dX7_leaves_17 wF_X7 wf_X7_16 (f := 2) (by decide) (ci := 7) rfl 0 rfl rfl 20 rfl ?_
      refine G_iload_n C dX7_leaves_20 rfl 21 rfl ?_
      refine G_aload_n C dX7_leaves_21 rfl 22 rfl ?_
      refine G_getf C dX7_leaves_22 wF_X7 wf_X7_16 (f := 2) (by decide) (ci := 7) rfl 0 rfl rfl 25 rfl ?_
      refine G_iload_n C dX7_leaves_25 rfl 26 rfl ?_
      refine G_bipush C dX7_leaves_26 (v := nI 15) (by decide) 28 rfl ?_
      refine G_iadd C dX7_leaves_28 (v := nI (k + 15)) (nI_add _ _) 29 rfl ?_
      refine G_ialdN C dX7_leaves_29 2 rfl rfl (by omega) 30 rfl ?_
      refine G_iastN C dX7_leaves_30 2 rfl rfl (x := (shP Pa k) (k + 15)) (by omega) [(mo, .inr (7, [.ref ma0, .ref ma1, .ref ma2, .int (nI 5), .ref ma4, .ref ma5, .int (nI mlen), .ref ma7, .int (bI gw), .ref ma9, .ref ma10, .ref ma11, .ref ma12, .int (nI mm), .int (nI pl), .ref ma15, .int (nI wm), .long hh])), (ma0, .inl (E.2.1, 15, .inl (aN Nw))), (ma2, .inl (E.2.1, 75, .inl (aN (va_up (shP Pa k) k ((shP Pa k) (k + 15))))))] rfl 31 rfl ?_
      refine G_iinc C dX7_leaves_31 0 rfl (nI_1 _) (by decide) [(1, .int (nI (k + 1))), (0, .ref mo)] rfl 34 rfl ?_
      refine G_goto C dX7_leaves_34 10 rfl ?_
      refine G_eq (ws' := [(mo, .inr (7, [.ref ma0, .ref ma1, .ref ma2, .int (nI 5), .ref ma4, .ref ma5, .int (nI mlen), .ref ma7, .int (bI gw), .ref ma9, .ref ma10, .ref ma11, .ref ma12, .int (nI mm), .int (nI pl), .ref ma15, .int (nI wm), .long hh])), (ma0, .inl (E.2.1, 15, .inl (aN Nw))), (ma2, .inl (E.2.1, 75, .inl (aN (shP Pa (k + 1)))))]) (by rw [shP_s]) rfl rfl ?_
      exact ih (k + 1) (by omega) (by omega)
  · refine G_aload_n C dX7_leaves_0 rfl 1 rfl ?_
    refine G_getf C dX7_leaves_1 wF_X7 wf_X7_47 (f := 3) (by decide) (ci := 7) rfl 0 rfl rfl 4 rfl ?_
    refine G_iconst C dX7_leaves_4 (v := nI 5) rfl 5 rfl ?_
    refine G_icmp_ne_t C dX7_leaves_5 47 rfl (by rw [nI_eq (by omega) (by omega)]; omega) ?_
    refine G_iconst C dX7_leaves_47 (v := nI 0) rfl 48 rfl ?_
    refine G_istore_n C dX7_leaves_48 (by decide) [(1, .int (nI 0)), (0, .ref mo)] rfl 49 rfl ?_
    refine G_eq (ws' := [(mo, .inr (7, [.ref ma0, .ref ma1, .ref ma2, .int (nI ns), .ref ma4, .ref ma5, .int (nI mlen), .ref ma7, .int (bI gw), .ref ma9, .ref ma10, .ref ma11, .ref ma12, .int (nI mm), .int (nI pl), .ref ma15, .int (nI wm), .long hh])), (ma0, .inl (E.2.1, 15, .inl (aN Nw))), (ma2, .inl (E.2.1, 75, .inl (aN (ptP Pa (15 * ns) Nw 0))))]) (by rw [ptP_0]) rfl rfl ?_
    refine G_while (X := Nat) (Wf := fun k2 => [(mo, .inr (7, [.ref ma0, .ref ma1, .ref ma2, .int (nI ns), .ref ma4, .ref ma5, .int (nI mlen), .ref ma7, .int (bI gw), .ref ma9, .ref ma10, .ref ma11, .ref ma12, .int (nI mm), .int (nI pl), .ref ma15, .int (nI wm), .long hh])), (ma0, .inl (E.2.1, 15, .inl (aN Nw))), (ma2, .inl (E.2.1, 75, .inl (aN (ptP Pa (15 * ns) Nw k2))))]) (Lf := fun k2 => [(1, .int (nI k2)), (0, .ref mo)]) (Sf := fun _ => []) (fun k2 => k2 ≤ 15) (fun k2 => 15 - k2) (fun k2 hi2 ih2 => ?_) 0 (by omega)
    refine G_iload_n C dX7_leaves_49 rfl 50 rfl ?_
    refine G_bipush C dX7_leaves_50 (v := nI 15) (by decide) 52 rfl ?_
    refine G_icmp_ge C dX7_leaves_52 81 rfl 55 rfl (nI_leI (by omega) (by omega)) (fun h_3 => ?_) (fun h_3 => ?_)
    · refine G_aload_n C dX7_leaves_81 rfl 82 rfl ?_
      refine G_dup C dX7_leaves_82 rfl 83 rfl ?_
      refine G_getf C dX7_leaves_83 wF_X7 wf_X7_47 (f := 3) (by decide) (ci := 7) rfl 0 rfl rfl 86 rfl ?_
      refine G_iconst C dX7_leaves_86 (v := nI 1) rfl 87 rfl ?_
      refine G_iadd C dX7_leaves_87 (v := nI (ns + 1)) (nI_add _ _) 88 rfl ?_
      refine G_putf C dX7_leaves_88 wF_X7 wf_X7_47 (f := 3) (by decide) (ci := 7) rfl tyX7_ok nmX7 rfl 0 rfl rfl rfl (Nat.le_of_ble_eq_true rfl) [(mo, .inr (7, [.ref ma0, .ref ma1, .ref ma2, .int (nI (ns + 1)), .ref ma4, .ref ma5, .int (nI mlen), .ref ma7, .int (bI gw), .ref ma9, .ref ma10, .ref ma11, .ref ma12, .int (nI mm), .int (nI pl), .ref ma15, .int (nI wm), .long hh])), (ma0, .inl (E.2.1, 15, .inl (aN Nw))), (ma2, .inl (E.2.1, 75, .inl (aN (ptP Pa (15 * ns) Nw k2))))] rfl 91 rfl ?_
      exact G_vret C hr dX7_leaves_91 () trivial rfl (by rw [show k2 = 15 by omega, show kS ns = ns + 1 by simp [kS]; omega, show lvP ns Pa Nw = ptP Pa (15 * ns) Nw 15 by simp only [lvP]; rw [if_neg (by omega)]])
    · refine G_aload_n C dX7_leaves_55 rfl 56 rfl ?_
      refine G_getf C dX7_leaves_56 wF_X7 wf_X7_16 (f := 2) (by decide) (ci := 7) rfl 0 rfl rfl 59 rfl ?_
      refine G_bipush C dX7_leaves_59 (v := nI 15) (by decide) 61 rfl ?_
      refine G_aload_n C dX7_leaves_61 rfl 62 rfl ?_
      refine G_getf C dX7_leaves_62 wF_X7 wf_X7_47 (f := 3) (by decide) (ci := 7) rfl 0 rfl rfl 65 rfl ?_
      refine G_imul C dX7_leaves_65 (v := nI (15 * ns)) (pk_mul _ _) 66 rfl ?_
      refine G_iload_n C dX7_leaves_66 rfl 67 rfl ?_
      refine G_iadd C dX7_leaves_67 (v := nI (15 * ns + k2)) (nI_add _ _) 68 rfl ?_
      refine G_aload_n C dX7_leaves_68 rfl 69 rfl ?_
      refine G_getf C dX7_leaves_69 wF_X7 wf_X7_7 (f := 0) (by decide) (ci := 7) rfl 0 rfl rfl 72 rfl ?_
      refine G_iload_n C dX7_leaves_72 rfl 73 rfl ?_
      refine G_ialdN C dX7_leaves_73 1 rfl rfl (by omega) 74 rfl ?_
      refine G_iastN C dX7_leaves_74 2 rfl rfl (x := Nw k2) (by omega) [(mo, .inr (7, [.ref ma0, .ref ma1, .ref ma2, .int (nI ns), .ref ma4, .ref ma5, .int (nI mlen), .ref ma7, .int (bI gw), .ref ma9, .ref ma10, .ref ma11, .ref ma12, .int (nI mm), .int (nI pl), .ref ma15, .int (nI wm), .long hh])), (ma0, .inl (E.2.1, 15, .inl (aN Nw))), (ma2, .inl (E.2.1, 75, .inl (aN (va_up (ptP Pa (15 * ns) Nw k2) (15 * ns + k2) (Nw k2)))))] rfl 75 rfl ?_
      refine G_iinc C dX7_leaves_75 0 rfl (nI_1 _) (by decide) [(1, .int (nI (k2 + 1))), (0, .ref mo)] rfl 78 rfl ?_
      refine G_goto C dX7_leaves_78 49 rfl ?_
      refine G_eq (ws' := [(mo, .inr (7, [.ref ma0, .ref ma1, .ref ma2, .int (nI ns), .ref ma4, .ref ma5, .int (nI mlen), .ref ma7, .int (bI gw), .ref ma9, .ref ma10, .ref ma11, .ref ma12, .int (nI mm), .int (nI pl), .ref ma15, .int (nI wm), .long hh])), (ma0, .inl (E.2.1, 15, .inl (aN Nw))), (ma2, .inl (E.2.1, 75, .inl (aN (ptP Pa (15 * ns) Nw (k2 + 1)))))]) (by rw [ptP_s]) rfl rfl ?_
      exact ih2 (k2 + 1) (by omega) (by omega)

set_option maxHeartbeats 4000000 in
set_option maxRecDepth 100000 in
theorem m_back_no (l : Launch) (E : gE) (mo ma0 ma1 ma2 ma4 ma5 ma7 ma9 ma10 ma11 ma12 ma15 ns mlen mm pl wm : Nat) (gw : Bool) (hh : Int64) (Rf : Nat → Nat) (hs0 : ns = 0) : FD l E yX7_back cX7_back 2 (some .int) { frames := 1, cells := 0, slots := 0, locals := 21 } [.ref mo] [(mo, .inr (7, [.ref ma0, .ref ma1, .ref ma2, .int (nI ns), .ref ma4, .ref ma5, .int (nI mlen), .ref ma7, .int (bI gw), .ref ma9, .ref ma10, .ref ma11, .ref ma12, .int (nI mm), .int (nI pl), .ref ma15, .int (nI wm), .long hh])), (ma4, .inl (E.2.1, 3, .inl (aN Rf)))] (some (.int (-3 : Int32))) [(mo, .inr (7, [.ref ma0, .ref ma1, .ref ma2, .int (nI ns), .ref ma4, .ref ma5, .int (nI mlen), .ref ma7, .int (bI gw), .ref ma9, .ref ma10, .ref ma11, .ref ma12, .int (nI mm), .int (nI pl), .ref ma15, .int (nI wm), .long hh])), (ma4, .inl (E.2.1, 3, .inl (aN (va_up Rf 1 (Rf 1 + 1)))))] := by
  refine Fn_ofL (own := RX7) (by decide) rfl rfl [(0, .ref mo)] rfl ?_
  intro p e s m below meth c A C hr hnm
  refine G_aload_n C dX7_back_0 rfl 1 rfl ?_
  refine G_getf C dX7_back_1 wF_X7 wf_X7_47 (f := 3) (by decide) (ci := 7) rfl 0 rfl rfl 4 rfl ?_
  refine G_if_ne_f C dX7_back_4 14 rfl 7 rfl (by rw [hs0]; decide) ?_
  refine G_aload_n C dX7_back_7 rfl 8 rfl ?_
  refine G_bipush C dX7_back_8 (v := (-3 : Int32)) (by decide) 10 rfl ?_
  refine G_cV C dX7_back_10 (c_X7_counts1 l E mo ma0 ma1 ma2 ma4 ma5 ma7 ma9 ma10 ma11 ma12 ma15 ns mlen mm pl wm gw hh Rf ) wm_X7_51 wi_X7_counts wsel_X7_counts wn_X7 wc_X7_counts rfl rfl ⟨by decide, by decide, rfl⟩ rfl (Nat.le_of_ble_eq_true rfl) 7 rfl rfl 0 rfl [0, 1] [] (wr := []) rfl rfl rfl rfl rfl [0, 1] rfl [(mo, .inr (7, [.ref ma0, .ref ma1, .ref ma2, .int (nI ns), .ref ma4, .ref ma5, .int (nI mlen), .ref ma7, .int (bI gw), .ref ma9, .ref ma10, .ref ma11, .ref ma12, .int (nI mm), .int (nI pl), .ref ma15, .int (nI wm), .long hh])), (ma4, .inl (E.2.1, 3, .inl (aN (va_up Rf 1 (Rf 1 + 1)))))] rfl rfl [.int (-3 : Int32)] rfl 13 rfl ?_
  exact G_iret C hr dX7_back_13 rfl () trivial rfl rfl

set_option maxHeartbeats 4000000 in
set_option maxRecDepth 100000 in
theorem m_back_ok (l : Launch) (E : gE) (mo ma0 ma1 ma2 ma4 ma5 ma7 ma9 ma10 ma11 ma12 ma15 ns mlen mm pl wm : Nat) (gw : Bool) (hh : Int64) (Nw : Nat → Nat) (Pa : Nat → Nat) (hs5 : ns ≤ 5) (hs0 : 0 < ns) : FD l E yX7_back cX7_back 2 (some .int) { frames := 1, cells := 0, slots := 0, locals := 21 } [.ref mo] [(mo, .inr (7, [.ref ma0, .ref ma1, .ref ma2, .int (nI ns), .ref ma4, .ref ma5, .int (nI mlen), .ref ma7, .int (bI gw), .ref ma9, .ref ma10, .ref ma11, .ref ma12, .int (nI mm), .int (nI pl), .ref ma15, .int (nI wm), .long hh])), (ma0, .inl (E.2.1, 15, .inl (aN Nw))), (ma2, .inl (E.2.1, 75, .inl (aN Pa)))] (some (.int (nI (ns - 1)))) [(mo, .inr (7, [.ref ma0, .ref ma1, .ref ma2, .int (nI (ns - 1)), .ref ma4, .ref ma5, .int (nI mlen), .ref ma7, .int (bI gw), .ref ma9, .ref ma10, .ref ma11, .ref ma12, .int (nI mm), .int (nI pl), .ref ma15, .int (nI wm), .long hh])), (ma0, .inl (E.2.1, 15, .inl (aN (flG (fun j => Pa (15 * (ns - 1) + j)) Nw 15)))), (ma2, .inl (E.2.1, 75, .inl (aN Pa)))] := by
  refine Fn_ofL (own := RX7) (by decide) rfl rfl [(0, .ref mo)] rfl ?_
  intro p e s m below meth c A C hr hnm
  refine G_aload_n C dX7_back_0 rfl 1 rfl ?_
  refine G_getf C dX7_back_1 wF_X7 wf_X7_47 (f := 3) (by decide) (ci := 7) rfl 0 rfl rfl 4 rfl ?_
  refine G_if_ne_t C dX7_back_4 14 rfl (by rw [n_eq0 (by omega)]; omega) ?_
  refine G_aload_n C dX7_back_14 rfl 15 rfl ?_
  refine G_dup C dX7_back_15 rfl 16 rfl ?_
  refine G_getf C dX7_back_16 wF_X7 wf_X7_47 (f := 3) (by decide) (ci := 7) rfl 0 rfl rfl 19 rfl ?_
  refine G_iconst C dX7_back_19 (v := nI 1) rfl 20 rfl ?_
  refine G_isub C dX7_back_20 (v := nI (ns - 1)) (pk_sub (by omega)) 21 rfl ?_
  refine G_putf C dX7_back_21 wF_X7 wf_X7_47 (f := 3) (by decide) (ci := 7) rfl tyX7_ok nmX7 rfl 0 rfl rfl rfl (Nat.le_of_ble_eq_true rfl) [(mo, .inr (7, [.ref ma0, .ref ma1, .ref ma2, .int (nI (ns - 1)), .ref ma4, .ref ma5, .int (nI mlen), .ref ma7, .int (bI gw), .ref ma9, .ref ma10, .ref ma11, .ref ma12, .int (nI mm), .int (nI pl), .ref ma15, .int (nI wm), .long hh])), (ma0, .inl (E.2.1, 15, .inl (aN Nw))), (ma2, .inl (E.2.1, 75, .inl (aN Pa)))] rfl 24 rfl ?_
  refine G_iconst C dX7_back_24 (v := nI 0) rfl 25 rfl ?_
  refine G_istore_n C dX7_back_25 (by decide) [(1, .int (nI 0)), (0, .ref mo)] rfl 26 rfl ?_
  refine G_eq (ws' := [(mo, .inr (7, [.ref ma0, .ref ma1, .ref ma2, .int (nI (ns - 1)), .ref ma4, .ref ma5, .int (nI mlen), .ref ma7, .int (bI gw), .ref ma9, .ref ma10, .ref ma11, .ref ma12, .int (nI mm), .int (nI pl), .ref ma15, .int (nI wm), .long hh])), (ma0, .inl (E.2.1, 15, .inl (aN (flG (fun j => Pa (15 * (ns - 1) + j)) Nw 0)))), (ma2, .inl (E.2.1, 75, .inl (aN Pa)))]) (by rw [flG_0]) rfl rfl ?_
  refine G_while (X := Nat) (Wf := fun k => [(mo, .inr (7, [.ref ma0, .ref ma1, .ref ma2, .int (nI (ns - 1)), .ref ma4, .ref ma5, .int (nI mlen), .ref ma7, .int (bI gw), .ref ma9, .ref ma10, .ref ma11, .ref ma12, .int (nI mm), .int (nI pl), .ref ma15, .int (nI wm), .long hh])), (ma0, .inl (E.2.1, 15, .inl (aN (flG (fun j => Pa (15 * (ns - 1) + j)) Nw k)))), (ma2, .inl (E.2.1, 75, .inl (aN Pa)))]) (Lf := fun k => [(1, .int (nI k)), (0, .ref mo)]) (Sf := fun _ => []) (fun k => k ≤ 15) (fun k => 15 - k) (fun k hi ih => ?_) 0 (by omega)
  refine G_iload_n C dX7_back_26 rfl 27 rfl ?_
  refine G_bipush C dX7_back_27 (v := nI 15) (by decide) 29 rfl ?_
  refine G_icmp_ge C dX7_back_29 58 rfl 32 rfl (nI_leI (by omega) (by omega)) (fun h_1 => ?_) (fun h_1 => ?_)
  · refine G_aload_n C dX7_back_58 rfl 59 rfl ?_
    refine G_getf C dX7_back_59 wF_X7 wf_X7_47 (f := 3) (by decide) (ci := 7) rfl 0 rfl rfl 62 rfl ?_
    exact G_iret C hr dX7_back_62 rfl () trivial rfl (by rw [show k = 15 by omega])
  · refine G_aload_n C dX7_back_32 rfl 33 rfl ?_
    refine G_getf C dX7_back_33 wF_X7 wf_X7_7 (f := 0) (by decide) (ci := 7) rfl 0 rfl rfl 36 rfl ?_
    refine G_iload_n C dX7_back_36 rfl 37 rfl ?_
    refine G_aload_n C dX7_back_37 rfl 38 rfl ?_
    refine G_getf C dX7_back_38 wF_X7 wf_X7_16 (f := 2) (by decide) (ci := 7) rfl 0 rfl rfl 41 rfl ?_
    refine G_bipush C dX7_back_41 (v := nI 15) (by decide) 43 rfl ?_
    refine G_aload_n C dX7_back_43 rfl 44 rfl ?_
    refine G_getf C dX7_back_44 wF_X7 wf_X7_47 (f := 3) (by decide) (ci := 7) rfl 0 rfl rfl 47 rfl ?_
    refine G_imul C dX7_back_47 (v := nI (15 * (ns - 1))) (pk_mul _ _) 48 rfl ?_
    refine G_iload_n C dX7_back_48 rfl 49 rfl ?_
    refine G_iadd C dX7_back_49 (v := nI (15 * (ns - 1) + k)) (nI_add _ _) 50 rfl ?_
    refine G_ialdN C dX7_back_50 2 rfl rfl (by omega) 51 rfl ?_
    refine G_iastN C dX7_back_51 1 rfl rfl (x := Pa (15 * (ns - 1) + k)) (by omega) [(mo, .inr (7, [.ref ma0, .ref ma1, .ref ma2, .int (nI (ns - 1)), .ref ma4, .ref ma5, .int (nI mlen), .ref ma7, .int (bI gw), .ref ma9, .ref ma10, .ref ma11, .ref ma12, .int (nI mm), .int (nI pl), .ref ma15, .int (nI wm), .long hh])), (ma0, .inl (E.2.1, 15, .inl (aN (va_up (flG (fun j => Pa (15 * (ns - 1) + j)) Nw k) k (Pa (15 * (ns - 1) + k)))))), (ma2, .inl (E.2.1, 75, .inl (aN Pa)))] rfl 52 rfl ?_
    refine G_iinc C dX7_back_52 0 rfl (nI_1 _) (by decide) [(1, .int (nI (k + 1))), (0, .ref mo)] rfl 55 rfl ?_
    refine G_goto C dX7_back_55 26 rfl ?_
    refine G_eq (ws' := [(mo, .inr (7, [.ref ma0, .ref ma1, .ref ma2, .int (nI (ns - 1)), .ref ma4, .ref ma5, .int (nI mlen), .ref ma7, .int (bI gw), .ref ma9, .ref ma10, .ref ma11, .ref ma12, .int (nI mm), .int (nI pl), .ref ma15, .int (nI wm), .long hh])), (ma0, .inl (E.2.1, 15, .inl (aN (flG (fun j => Pa (15 * (ns - 1) + j)) Nw (k + 1))))), (ma2, .inl (E.2.1, 75, .inl (aN Pa)))]) (by rw [flG_s (fun j => Pa (15 * (ns - 1) + j)) Nw k]) rfl rfl ?_
    exact ih (k + 1) (by omega) (by omega)

set_option maxHeartbeats 4000000 in
set_option maxRecDepth 100000 in
theorem m_line_bad (l : Launch) (E : gE) (mo ma0 ma1 ma2 ma4 ma5 ma7 ma9 ma10 ma11 ma12 ma15 ns mlen mm pl wm : Nat) (gw : Bool) (hh : Int64) (Rf : Nat → Nat) (va vb vc : Int32) (hbad : inb va 4 = false ∨ inb vb 10 = false ∨ inb vc 10 = false) : FD l E yX7_line cX7_line 4 (some .int) { frames := 2, cells := 0, slots := 0, locals := 42 } [.ref mo, .int va, .int vb, .int vc] [(mo, .inr (7, [.ref ma0, .ref ma1, .ref ma2, .int (nI ns), .ref ma4, .ref ma5, .int (nI mlen), .ref ma7, .int (bI gw), .ref ma9, .ref ma10, .ref ma11, .ref ma12, .int (nI mm), .int (nI pl), .ref ma15, .int (nI wm), .long hh])), (ma4, .inl (E.2.1, 3, .inl (aN Rf)))] (some (.int (-2 : Int32))) [(mo, .inr (7, [.ref ma0, .ref ma1, .ref ma2, .int (nI ns), .ref ma4, .ref ma5, .int (nI mlen), .ref ma7, .int (bI gw), .ref ma9, .ref ma10, .ref ma11, .ref ma12, .int (nI mm), .int (nI pl), .ref ma15, .int (nI wm), .long hh])), (ma4, .inl (E.2.1, 3, .inl (aN (va_up Rf 0 (Rf 0 + 1)))))] := by
  refine Fn_ofL (own := RX7) (by decide) rfl rfl [(0, .ref mo), (1, .int va), (2, .int vb), (3, .int vc)] rfl ?_
  intro p e s m below meth c A C hr hnm
  refine G_iload_n C dX7_line_0 rfl 1 rfl ?_
  refine G_iconst C dX7_line_1 (v := nI 0) rfl 2 rfl ?_
  refine G_iconst C dX7_line_2 (v := nI 3) rfl 3 rfl ?_
  refine G_cS C dX7_line_3 (c_X7_within l E va (nI 0) (nI 3) ) wm_X7_43 wt_X7_within wn_X7 wc_X7_within rfl rfl ⟨by decide, by decide, rfl⟩ rfl (Nat.le_of_ble_eq_true rfl) [] [0, 1] (wr := [(mo, .inr (7, [.ref ma0, .ref ma1, .ref ma2, .int (nI ns), .ref ma4, .ref ma5, .int (nI mlen), .ref ma7, .int (bI gw), .ref ma9, .ref ma10, .ref ma11, .ref ma12, .int (nI mm), .int (nI pl), .ref ma15, .int (nI wm), .long hh])), (ma4, .inl (E.2.1, 3, .inl (aN Rf)))]) rfl rfl rfl rfl rfl [0, 1] rfl [(mo, .inr (7, [.ref ma0, .ref ma1, .ref ma2, .int (nI ns), .ref ma4, .ref ma5, .int (nI mlen), .ref ma7, .int (bI gw), .ref ma9, .ref ma10, .ref ma11, .ref ma12, .int (nI mm), .int (nI pl), .ref ma15, .int (nI wm), .long hh])), (ma4, .inl (E.2.1, 3, .inl (aN Rf)))] rfl rfl [.int (bI (decide ((nI 0).toInt ≤ va.toInt ∧ va.toInt ≤ (nI 3).toInt)))] rfl 6 rfl ?_
  refine G_if_eq C dX7_line_6 23 rfl 9 rfl (show bI (decide ((nI 0).toInt ≤ va.toInt ∧ va.toInt ≤ (nI 3).toInt)) = 0 ↔ inb va 4 = false by rw [bI_0, show inb va 4 = decide ((nI 0).toInt ≤ va.toInt ∧ va.toInt ≤ (nI 3).toInt) from decide_eq_decide.mpr (by rw [nI_toInt (by omega), nI_toInt (by omega)]; omega)]) (fun h_1 => ?_) (fun h_1 => ?_)
  · refine G_aload_n C dX7_line_23 rfl 24 rfl ?_
    refine G_bipush C dX7_line_24 (v := (-2 : Int32)) (by decide) 26 rfl ?_
    refine G_cV C dX7_line_26 (c_X7_counts0 l E mo ma0 ma1 ma2 ma4 ma5 ma7 ma9 ma10 ma11 ma12 ma15 ns mlen mm pl wm gw hh Rf ) wm_X7_51 wi_X7_counts wsel_X7_counts wn_X7 wc_X7_counts rfl rfl ⟨by decide, by decide, rfl⟩ rfl (Nat.le_of_ble_eq_true rfl) 7 rfl rfl 0 rfl [0, 1] [] (wr := []) rfl rfl rfl rfl rfl [0, 1] rfl [(mo, .inr (7, [.ref ma0, .ref ma1, .ref ma2, .int (nI ns), .ref ma4, .ref ma5, .int (nI mlen), .ref ma7, .int (bI gw), .ref ma9, .ref ma10, .ref ma11, .ref ma12, .int (nI mm), .int (nI pl), .ref ma15, .int (nI wm), .long hh])), (ma4, .inl (E.2.1, 3, .inl (aN (va_up Rf 0 (Rf 0 + 1)))))] rfl rfl [.int (-2 : Int32)] rfl 29 rfl ?_
    exact G_iret C hr dX7_line_29 rfl () trivial rfl rfl
  · refine G_iload_n C dX7_line_9 rfl 10 rfl ?_
    refine G_cS C dX7_line_10 (c_X7_isName l E vb ) wm_X7_55 wt_X7_isName wn_X7 wc_X7_isName rfl rfl ⟨by decide, by decide, rfl⟩ rfl (Nat.le_of_ble_eq_true rfl) [] [0, 1] (wr := [(mo, .inr (7, [.ref ma0, .ref ma1, .ref ma2, .int (nI ns), .ref ma4, .ref ma5, .int (nI mlen), .ref ma7, .int (bI gw), .ref ma9, .ref ma10, .ref ma11, .ref ma12, .int (nI mm), .int (nI pl), .ref ma15, .int (nI wm), .long hh])), (ma4, .inl (E.2.1, 3, .inl (aN Rf)))]) rfl rfl rfl rfl rfl [0, 1] rfl [(mo, .inr (7, [.ref ma0, .ref ma1, .ref ma2, .int (nI ns), .ref ma4, .ref ma5, .int (nI mlen), .ref ma7, .int (bI gw), .ref ma9, .ref ma10, .ref ma11, .ref ma12, .int (nI mm), .int (nI pl), .ref ma15, .int (nI wm), .long hh])), (ma4, .inl (E.2.1, 3, .inl (aN Rf)))] rfl rfl [.int (bI (inb vb 10))] rfl 13 rfl ?_
    refine G_if_eq C dX7_line_13 23 rfl 16 rfl (bI_0 _) (fun h_2 => ?_) (fun h_2 => ?_)
    · refine G_aload_n C dX7_line_23 rfl 24 rfl ?_
      refine G_bipush C dX7_line_24 (v := (-2 : Int32)) (by decide) 26 rfl ?_
      refine G_cV C dX7_line_26 (c_X7_counts0 l E mo ma0 ma1 ma2 ma4 ma5 ma7 ma9 ma10 ma11 ma12 ma15 ns mlen mm pl wm gw hh Rf ) wm_X7_51 wi_X7_counts wsel_X7_counts wn_X7 wc_X7_counts rfl rfl ⟨by decide, by decide, rfl⟩ rfl (Nat.le_of_ble_eq_true rfl) 7 rfl rfl 0 rfl [0, 1] [] (wr := []) rfl rfl rfl rfl rfl [0, 1] rfl [(mo, .inr (7, [.ref ma0, .ref ma1, .ref ma2, .int (nI ns), .ref ma4, .ref ma5, .int (nI mlen), .ref ma7, .int (bI gw), .ref ma9, .ref ma10, .ref ma11, .ref ma12, .int (nI mm), .int (nI pl), .ref ma15, .int (nI wm), .long hh])), (ma4, .inl (E.2.1, 3, .inl (aN (va_up Rf 0 (Rf 0 + 1)))))] rfl rfl [.int (-2 : Int32)] rfl 29 rfl ?_
      exact G_iret C hr dX7_line_29 rfl () trivial rfl rfl
    · refine G_iload_n C dX7_line_16 rfl 17 rfl ?_
      refine G_cS C dX7_line_17 (c_X7_isName l E vc ) wm_X7_55 wt_X7_isName wn_X7 wc_X7_isName rfl rfl ⟨by decide, by decide, rfl⟩ rfl (Nat.le_of_ble_eq_true rfl) [] [0, 1] (wr := [(mo, .inr (7, [.ref ma0, .ref ma1, .ref ma2, .int (nI ns), .ref ma4, .ref ma5, .int (nI mlen), .ref ma7, .int (bI gw), .ref ma9, .ref ma10, .ref ma11, .ref ma12, .int (nI mm), .int (nI pl), .ref ma15, .int (nI wm), .long hh])), (ma4, .inl (E.2.1, 3, .inl (aN Rf)))]) rfl rfl rfl rfl rfl [0, 1] rfl [(mo, .inr (7, [.ref ma0, .ref ma1, .ref ma2, .int (nI ns), .ref ma4, .ref ma5, .int (nI mlen), .ref ma7, .int (bI gw), .ref ma9, .ref ma10, .ref ma11, .ref ma12, .int (nI mm), .int (nI pl), .ref ma15, .int (nI wm), .long hh])), (ma4, .inl (E.2.1, 3, .inl (aN Rf)))] rfl rfl [.int (bI (inb vc 10))] rfl 20 rfl ?_
      refine G_if_ne C dX7_line_20 30 rfl 23 rfl (bI_0 _) (fun h_3 => ?_) (fun h_3 => ?_)
      · exact absurd hbad (by simp [h_1, h_2, h_3])
      · refine G_aload_n C dX7_line_23 rfl 24 rfl ?_
        refine G_bipush C dX7_line_24 (v := (-2 : Int32)) (by decide) 26 rfl ?_
        refine G_cV C dX7_line_26 (c_X7_counts0 l E mo ma0 ma1 ma2 ma4 ma5 ma7 ma9 ma10 ma11 ma12 ma15 ns mlen mm pl wm gw hh Rf ) wm_X7_51 wi_X7_counts wsel_X7_counts wn_X7 wc_X7_counts rfl rfl ⟨by decide, by decide, rfl⟩ rfl (Nat.le_of_ble_eq_true rfl) 7 rfl rfl 0 rfl [0, 1] [] (wr := []) rfl rfl rfl rfl rfl [0, 1] rfl [(mo, .inr (7, [.ref ma0, .ref ma1, .ref ma2, .int (nI ns), .ref ma4, .ref ma5, .int (nI mlen), .ref ma7, .int (bI gw), .ref ma9, .ref ma10, .ref ma11, .ref ma12, .int (nI mm), .int (nI pl), .ref ma15, .int (nI wm), .long hh])), (ma4, .inl (E.2.1, 3, .inl (aN (va_up Rf 0 (Rf 0 + 1)))))] rfl rfl [.int (-2 : Int32)] rfl 29 rfl ?_
        exact G_iret C hr dX7_line_29 rfl () trivial rfl rfl

set_option maxHeartbeats 4000000 in
set_option maxRecDepth 100000 in
theorem m_line_full (l : Launch) (E : gE) (mo ma0 ma1 ma2 ma4 ma5 ma7 ma9 ma10 ma11 ma12 ma15 ns mlen mm pl wm : Nat) (gw : Bool) (hh : Int64) (Nw : Nat → Nat) (Rf : Nat → Nat) (n sl x y : Nat) (hsl : sl < 4) (hx : x < 10) (hy : y < 10) (h0 : Nw 0 = n) (hn : n = 14) : FD l E yX7_line cX7_line 4 (some .int) { frames := 2, cells := 0, slots := 0, locals := 42 } [.ref mo, .int (nI sl), .int (nI x), .int (nI y)] [(mo, .inr (7, [.ref ma0, .ref ma1, .ref ma2, .int (nI ns), .ref ma4, .ref ma5, .int (nI mlen), .ref ma7, .int (bI gw), .ref ma9, .ref ma10, .ref ma11, .ref ma12, .int (nI mm), .int (nI pl), .ref ma15, .int (nI wm), .long hh])), (ma0, .inl (E.2.1, 15, .inl (aN Nw))), (ma4, .inl (E.2.1, 3, .inl (aN Rf)))] (some (.int (-4 : Int32))) [(mo, .inr (7, [.ref ma0, .ref ma1, .ref ma2, .int (nI ns), .ref ma4, .ref ma5, .int (nI mlen), .ref ma7, .int (bI gw), .ref ma9, .ref ma10, .ref ma11, .ref ma12, .int (nI mm), .int (nI pl), .ref ma15, .int (nI wm), .long hh])), (ma0, .inl (E.2.1, 15, .inl (aN Nw))), (ma4, .inl (E.2.1, 3, .inl (aN (va_up Rf 2 (Rf 2 + 1)))))] := by
  refine Fn_ofL (own := RX7) (by decide) rfl rfl [(0, .ref mo), (1, .int (nI sl)), (2, .int (nI x)), (3, .int (nI y))] rfl ?_
  intro p e s m below meth c A C hr hnm
  refine G_iload_n C dX7_line_0 rfl 1 rfl ?_
  refine G_iconst C dX7_line_1 (v := nI 0) rfl 2 rfl ?_
  refine G_iconst C dX7_line_2 (v := nI 3) rfl 3 rfl ?_
  refine G_cS C dX7_line_3 (c_X7_within l E (nI sl) (nI 0) (nI 3) ) wm_X7_43 wt_X7_within wn_X7 wc_X7_within rfl rfl ⟨by decide, by decide, rfl⟩ rfl (Nat.le_of_ble_eq_true rfl) [] [0, 1, 2] (wr := [(mo, .inr (7, [.ref ma0, .ref ma1, .ref ma2, .int (nI ns), .ref ma4, .ref ma5, .int (nI mlen), .ref ma7, .int (bI gw), .ref ma9, .ref ma10, .ref ma11, .ref ma12, .int (nI mm), .int (nI pl), .ref ma15, .int (nI wm), .long hh])), (ma0, .inl (E.2.1, 15, .inl (aN Nw))), (ma4, .inl (E.2.1, 3, .inl (aN Rf)))]) rfl rfl rfl rfl rfl [0, 1, 2] rfl [(mo, .inr (7, [.ref ma0, .ref ma1, .ref ma2, .int (nI ns), .ref ma4, .ref ma5, .int (nI mlen), .ref ma7, .int (bI gw), .ref ma9, .ref ma10, .ref ma11, .ref ma12, .int (nI mm), .int (nI pl), .ref ma15, .int (nI wm), .long hh])), (ma0, .inl (E.2.1, 15, .inl (aN Nw))), (ma4, .inl (E.2.1, 3, .inl (aN Rf)))] rfl rfl [.int (bI (decide ((nI 0).toInt ≤ (nI sl).toInt ∧ (nI sl).toInt ≤ (nI 3).toInt)))] rfl 6 rfl ?_
  refine G_if_eq_f C dX7_line_6 23 rfl 9 rfl (by rw [bI_0]; simp only [decide_eq_false_iff_not, Classical.not_not]; rw [nI_toInt (by omega), nI_toInt (by omega), nI_toInt (by omega)]; omega) ?_
  refine G_iload_n C dX7_line_9 rfl 10 rfl ?_
  refine G_cS C dX7_line_10 (c_X7_isName l E (nI x) ) wm_X7_55 wt_X7_isName wn_X7 wc_X7_isName rfl rfl ⟨by decide, by decide, rfl⟩ rfl (Nat.le_of_ble_eq_true rfl) [] [0, 1, 2] (wr := [(mo, .inr (7, [.ref ma0, .ref ma1, .ref ma2, .int (nI ns), .ref ma4, .ref ma5, .int (nI mlen), .ref ma7, .int (bI gw), .ref ma9, .ref ma10, .ref ma11, .ref ma12, .int (nI mm), .int (nI pl), .ref ma15, .int (nI wm), .long hh])), (ma0, .inl (E.2.1, 15, .inl (aN Nw))), (ma4, .inl (E.2.1, 3, .inl (aN Rf)))]) rfl rfl rfl rfl rfl [0, 1, 2] rfl [(mo, .inr (7, [.ref ma0, .ref ma1, .ref ma2, .int (nI ns), .ref ma4, .ref ma5, .int (nI mlen), .ref ma7, .int (bI gw), .ref ma9, .ref ma10, .ref ma11, .ref ma12, .int (nI mm), .int (nI pl), .ref ma15, .int (nI wm), .long hh])), (ma0, .inl (E.2.1, 15, .inl (aN Nw))), (ma4, .inl (E.2.1, 3, .inl (aN Rf)))] rfl rfl [.int (bI (inb (nI x) 10))] rfl 13 rfl ?_
  refine G_if_eq_f C dX7_line_13 23 rfl 16 rfl (inbT hx (by omega)) ?_
  refine G_iload_n C dX7_line_16 rfl 17 rfl ?_
  refine G_cS C dX7_line_17 (c_X7_isName l E (nI y) ) wm_X7_55 wt_X7_isName wn_X7 wc_X7_isName rfl rfl ⟨by decide, by decide, rfl⟩ rfl (Nat.le_of_ble_eq_true rfl) [] [0, 1, 2] (wr := [(mo, .inr (7, [.ref ma0, .ref ma1, .ref ma2, .int (nI ns), .ref ma4, .ref ma5, .int (nI mlen), .ref ma7, .int (bI gw), .ref ma9, .ref ma10, .ref ma11, .ref ma12, .int (nI mm), .int (nI pl), .ref ma15, .int (nI wm), .long hh])), (ma0, .inl (E.2.1, 15, .inl (aN Nw))), (ma4, .inl (E.2.1, 3, .inl (aN Rf)))]) rfl rfl rfl rfl rfl [0, 1, 2] rfl [(mo, .inr (7, [.ref ma0, .ref ma1, .ref ma2, .int (nI ns), .ref ma4, .ref ma5, .int (nI mlen), .ref ma7, .int (bI gw), .ref ma9, .ref ma10, .ref ma11, .ref ma12, .int (nI mm), .int (nI pl), .ref ma15, .int (nI wm), .long hh])), (ma0, .inl (E.2.1, 15, .inl (aN Nw))), (ma4, .inl (E.2.1, 3, .inl (aN Rf)))] rfl rfl [.int (bI (inb (nI y) 10))] rfl 20 rfl ?_
  refine G_if_ne_t C dX7_line_20 30 rfl (inbT hy (by omega)) ?_
  refine G_aload_n C dX7_line_30 rfl 31 rfl ?_
  refine G_getf C dX7_line_31 wF_X7 wf_X7_7 (f := 0) (by decide) (ci := 7) rfl 0 rfl rfl 34 rfl ?_
  refine G_iconst C dX7_line_34 (v := nI 0) rfl 35 rfl ?_
  refine G_ialdN C dX7_line_35 1 rfl rfl (by omega) 36 rfl ?_
  refine G_top (v' := .int (nI n)) (by rw [h0]) ?_
  refine G_bipush C dX7_line_36 (v := nI 14) (by decide) 38 rfl ?_
  refine G_icmp_ne_f C dX7_line_38 48 rfl 41 rfl (by rw [hn]) ?_
  refine G_aload_n C dX7_line_41 rfl 42 rfl ?_
  refine G_bipush C dX7_line_42 (v := (-4 : Int32)) (by decide) 44 rfl ?_
  refine G_cV C dX7_line_44 (c_X7_counts2 l E mo ma0 ma1 ma2 ma4 ma5 ma7 ma9 ma10 ma11 ma12 ma15 ns mlen mm pl wm gw hh Rf ) wm_X7_51 wi_X7_counts wsel_X7_counts wn_X7 wc_X7_counts rfl rfl ⟨by decide, by decide, rfl⟩ rfl (Nat.le_of_ble_eq_true rfl) 7 rfl rfl 0 rfl [0, 2] [1] (wr := [(ma0, .inl (E.2.1, 15, .inl (aN Nw)))]) rfl rfl rfl rfl rfl [1, 0, 2] rfl [(mo, .inr (7, [.ref ma0, .ref ma1, .ref ma2, .int (nI ns), .ref ma4, .ref ma5, .int (nI mlen), .ref ma7, .int (bI gw), .ref ma9, .ref ma10, .ref ma11, .ref ma12, .int (nI mm), .int (nI pl), .ref ma15, .int (nI wm), .long hh])), (ma0, .inl (E.2.1, 15, .inl (aN Nw))), (ma4, .inl (E.2.1, 3, .inl (aN (va_up Rf 2 (Rf 2 + 1)))))] rfl rfl [.int (-4 : Int32)] rfl 47 rfl ?_
  exact G_iret C hr dX7_line_47 rfl () trivial rfl rfl

set_option maxHeartbeats 4000000 in
set_option maxRecDepth 100000 in
theorem m_line_ok (l : Launch) (E : gE) (mo ma0 ma1 ma2 ma4 ma5 ma7 ma9 ma10 ma11 ma12 ma15 ns mlen mm pl wm : Nat) (gw : Bool) (hh : Int64) (Nw : Nat → Nat) (Pa : Nat → Nat) (n sl x y : Nat) (hsl : sl < 4) (hx : x < 10) (hy : y < 10) (h0 : Nw 0 = n) (hn : n < 14) (hs5 : ns ≤ 5) : FD l E yX7_line cX7_line 4 (some .int) { frames := 2, cells := 0, slots := 0, locals := 42 } [.ref mo, .int (nI sl), .int (nI x), .int (nI y)] [(mo, .inr (7, [.ref ma0, .ref ma1, .ref ma2, .int (nI ns), .ref ma4, .ref ma5, .int (nI mlen), .ref ma7, .int (bI gw), .ref ma9, .ref ma10, .ref ma11, .ref ma12, .int (nI mm), .int (nI pl), .ref ma15, .int (nI wm), .long hh])), (ma0, .inl (E.2.1, 15, .inl (aN Nw))), (ma2, .inl (E.2.1, 75, .inl (aN Pa)))] (some (.int (nI n))) [(mo, .inr (7, [.ref ma0, .ref ma1, .ref ma2, .int (nI (kS ns)), .ref ma4, .ref ma5, .int (nI mlen), .ref ma7, .int (bI gw), .ref ma9, .ref ma10, .ref ma11, .ref ma12, .int (nI mm), .int (nI pl), .ref ma15, .int (nI wm), .long hh])), (ma0, .inl (E.2.1, 15, .inl (aN (va_up (va_up Nw 0 (n + 1)) (n + 1) (100 * sl + 10 * x + y))))), (ma2, .inl (E.2.1, 75, .inl (aN (lvP ns Pa Nw))))] := by
  refine Fn_ofL (own := RX7) (by decide) rfl rfl [(0, .ref mo), (1, .int (nI sl)), (2, .int (nI x)), (3, .int (nI y))] rfl ?_
  intro p e s m below meth c A C hr hnm
  refine G_iload_n C dX7_line_0 rfl 1 rfl ?_
  refine G_iconst C dX7_line_1 (v := nI 0) rfl 2 rfl ?_
  refine G_iconst C dX7_line_2 (v := nI 3) rfl 3 rfl ?_
  refine G_cS C dX7_line_3 (c_X7_within l E (nI sl) (nI 0) (nI 3) ) wm_X7_43 wt_X7_within wn_X7 wc_X7_within rfl rfl ⟨by decide, by decide, rfl⟩ rfl (Nat.le_of_ble_eq_true rfl) [] [0, 1, 2] (wr := [(mo, .inr (7, [.ref ma0, .ref ma1, .ref ma2, .int (nI ns), .ref ma4, .ref ma5, .int (nI mlen), .ref ma7, .int (bI gw), .ref ma9, .ref ma10, .ref ma11, .ref ma12, .int (nI mm), .int (nI pl), .ref ma15, .int (nI wm), .long hh])), (ma0, .inl (E.2.1, 15, .inl (aN Nw))), (ma2, .inl (E.2.1, 75, .inl (aN Pa)))]) rfl rfl rfl rfl rfl [0, 1, 2] rfl [(mo, .inr (7, [.ref ma0, .ref ma1, .ref ma2, .int (nI ns), .ref ma4, .ref ma5, .int (nI mlen), .ref ma7, .int (bI gw), .ref ma9, .ref ma10, .ref ma11, .ref ma12, .int (nI mm), .int (nI pl), .ref ma15, .int (nI wm), .long hh])), (ma0, .inl (E.2.1, 15, .inl (aN Nw))), (ma2, .inl (E.2.1, 75, .inl (aN Pa)))] rfl rfl [.int (bI (decide ((nI 0).toInt ≤ (nI sl).toInt ∧ (nI sl).toInt ≤ (nI 3).toInt)))] rfl 6 rfl ?_
  refine G_if_eq_f C dX7_line_6 23 rfl 9 rfl (by rw [bI_0]; simp only [decide_eq_false_iff_not, Classical.not_not]; rw [nI_toInt (by omega), nI_toInt (by omega), nI_toInt (by omega)]; omega) ?_
  refine G_iload_n C dX7_line_9 rfl 10 rfl ?_
  refine G_cS C dX7_line_10 (c_X7_isName l E (nI x) ) wm_X7_55 wt_X7_isName wn_X7 wc_X7_isName rfl rfl ⟨by decide, by decide, rfl⟩ rfl (Nat.le_of_ble_eq_true rfl) [] [0, 1, 2] (wr := [(mo, .inr (7, [.ref ma0, .ref ma1, .ref ma2, .int (nI ns), .ref ma4, .ref ma5, .int (nI mlen), .ref ma7, .int (bI gw), .ref ma9, .ref ma10, .ref ma11, .ref ma12, .int (nI mm), .int (nI pl), .ref ma15, .int (nI wm), .long hh])), (ma0, .inl (E.2.1, 15, .inl (aN Nw))), (ma2, .inl (E.2.1, 75, .inl (aN Pa)))]) rfl rfl rfl rfl rfl [0, 1, 2] rfl [(mo, .inr (7, [.ref ma0, .ref ma1, .ref ma2, .int (nI ns), .ref ma4, .ref ma5, .int (nI mlen), .ref ma7, .int (bI gw), .ref ma9, .ref ma10, .ref ma11, .ref ma12, .int (nI mm), .int (nI pl), .ref ma15, .int (nI wm), .long hh])), (ma0, .inl (E.2.1, 15, .inl (aN Nw))), (ma2, .inl (E.2.1, 75, .inl (aN Pa)))] rfl rfl [.int (bI (inb (nI x) 10))] rfl 13 rfl ?_
  refine G_if_eq_f C dX7_line_13 23 rfl 16 rfl (inbT hx (by omega)) ?_
  refine G_iload_n C dX7_line_16 rfl 17 rfl ?_
  refine G_cS C dX7_line_17 (c_X7_isName l E (nI y) ) wm_X7_55 wt_X7_isName wn_X7 wc_X7_isName rfl rfl ⟨by decide, by decide, rfl⟩ rfl (Nat.le_of_ble_eq_true rfl) [] [0, 1, 2] (wr := [(mo, .inr (7, [.ref ma0, .ref ma1, .ref ma2, .int (nI ns), .ref ma4, .ref ma5, .int (nI mlen), .ref ma7, .int (bI gw), .ref ma9, .ref ma10, .ref ma11, .ref ma12, .int (nI mm), .int (nI pl), .ref ma15, .int (nI wm), .long hh])), (ma0, .inl (E.2.1, 15, .inl (aN Nw))), (ma2, .inl (E.2.1, 75, .inl (aN Pa)))]) rfl rfl rfl rfl rfl [0, 1, 2] rfl [(mo, .inr (7, [.ref ma0, .ref ma1, .ref ma2, .int (nI ns), .ref ma4, .ref ma5, .int (nI mlen), .ref ma7, .int (bI gw), .ref ma9, .ref ma10, .ref ma11, .ref ma12, .int (nI mm), .int (nI pl), .ref ma15, .int (nI wm), .long hh])), (ma0, .inl (E.2.1, 15, .inl (aN Nw))), (ma2, .inl (E.2.1, 75, .inl (aN Pa)))] rfl rfl [.int (bI (inb (nI y) 10))] rfl 20 rfl ?_
  refine G_if_ne_t C dX7_line_20 30 rfl (inbT hy (by omega)) ?_
  refine G_aload_n C dX7_line_30 rfl 31 rfl ?_
  refine G_getf C dX7_line_31 wF_X7 wf_X7_7 (f := 0) (by decide) (ci := 7) rfl 0 rfl rfl 34 rfl ?_
  refine G_iconst C dX7_line_34 (v := nI 0) rfl 35 rfl ?_
  refine G_ialdN C dX7_line_35 1 rfl rfl (by omega) 36 rfl ?_
  refine G_top (v' := .int (nI n)) (by rw [h0]) ?_
  refine G_bipush C dX7_line_36 (v := nI 14) (by decide) 38 rfl ?_
  refine G_icmp_ne_t C dX7_line_38 48 rfl (by rw [nI_eq (by omega) (by omega)]; omega) ?_
  refine G_aload_n C dX7_line_48 rfl 49 rfl ?_
  refine G_cV C dX7_line_49 (c_X7_leaves l E mo ma0 ma1 ma2 ma4 ma5 ma7 ma9 ma10 ma11 ma12 ma15 ns mlen mm pl wm gw hh Nw Pa (by first | assumption | omega)) wm_X7_59 wi_X7_leaves wsel_X7_leaves wn_X7 wc_X7_leaves rfl rfl ⟨by decide, by decide, rfl⟩ rfl (Nat.le_of_ble_eq_true rfl) 7 rfl rfl 0 rfl [0, 1, 2] [] (wr := []) rfl rfl rfl rfl rfl [0, 1, 2] rfl [(mo, .inr (7, [.ref ma0, .ref ma1, .ref ma2, .int (nI (kS ns)), .ref ma4, .ref ma5, .int (nI mlen), .ref ma7, .int (bI gw), .ref ma9, .ref ma10, .ref ma11, .ref ma12, .int (nI mm), .int (nI pl), .ref ma15, .int (nI wm), .long hh])), (ma0, .inl (E.2.1, 15, .inl (aN Nw))), (ma2, .inl (E.2.1, 75, .inl (aN (lvP ns Pa Nw))))] rfl rfl [] rfl 52 rfl ?_
  refine G_aload_n C dX7_line_52 rfl 53 rfl ?_
  refine G_getf C dX7_line_53 wF_X7 wf_X7_7 (f := 0) (by decide) (ci := 7) rfl 0 rfl rfl 56 rfl ?_
  refine G_iconst C dX7_line_56 (v := nI 0) rfl 57 rfl ?_
  refine G_dup2 C dX7_line_57 rfl rfl 58 rfl ?_
  refine G_ialdN C dX7_line_58 1 rfl rfl (by omega) 59 rfl ?_
  refine G_iconst C dX7_line_59 (v := nI 1) rfl 60 rfl ?_
  refine G_iadd C dX7_line_60 (v := nI (Nw 0 + 1)) (nI_add _ _) 61 rfl ?_
  refine G_iastN C dX7_line_61 1 rfl rfl (x := Nw 0 + 1) (by omega) [(mo, .inr (7, [.ref ma0, .ref ma1, .ref ma2, .int (nI (kS ns)), .ref ma4, .ref ma5, .int (nI mlen), .ref ma7, .int (bI gw), .ref ma9, .ref ma10, .ref ma11, .ref ma12, .int (nI mm), .int (nI pl), .ref ma15, .int (nI wm), .long hh])), (ma0, .inl (E.2.1, 15, .inl (aN (va_up Nw 0 (Nw 0 + 1))))), (ma2, .inl (E.2.1, 75, .inl (aN (lvP ns Pa Nw))))] rfl 62 rfl ?_
  refine G_eq (ws' := [(mo, .inr (7, [.ref ma0, .ref ma1, .ref ma2, .int (nI (kS ns)), .ref ma4, .ref ma5, .int (nI mlen), .ref ma7, .int (bI gw), .ref ma9, .ref ma10, .ref ma11, .ref ma12, .int (nI mm), .int (nI pl), .ref ma15, .int (nI wm), .long hh])), (ma0, .inl (E.2.1, 15, .inl (aN (va_up Nw 0 (n + 1))))), (ma2, .inl (E.2.1, 75, .inl (aN (lvP ns Pa Nw))))]) (by rw [h0]) rfl rfl ?_
  refine G_aload_n C dX7_line_62 rfl 63 rfl ?_
  refine G_getf C dX7_line_63 wF_X7 wf_X7_7 (f := 0) (by decide) (ci := 7) rfl 0 rfl rfl 66 rfl ?_
  refine G_aload_n C dX7_line_66 rfl 67 rfl ?_
  refine G_getf C dX7_line_67 wF_X7 wf_X7_7 (f := 0) (by decide) (ci := 7) rfl 0 rfl rfl 70 rfl ?_
  refine G_iconst C dX7_line_70 (v := nI 0) rfl 71 rfl ?_
  refine G_ialdN C dX7_line_71 1 rfl rfl (by omega) 72 rfl ?_
  refine G_top (v' := .int (nI (n + 1))) (by rw [up_s]) ?_
  refine G_bipush C dX7_line_72 (v := nI 100) (by decide) 74 rfl ?_
  refine G_iload_n C dX7_line_74 rfl 75 rfl ?_
  refine G_imul C dX7_line_75 (v := nI (100 * sl)) (pk_mul _ _) 76 rfl ?_
  refine G_bipush C dX7_line_76 (v := nI 10) (by decide) 78 rfl ?_
  refine G_iload_n C dX7_line_78 rfl 79 rfl ?_
  refine G_imul C dX7_line_79 (v := nI (10 * x)) (pk_mul _ _) 80 rfl ?_
  refine G_iadd C dX7_line_80 (v := nI (100 * sl + (10 * x))) (nI_add _ _) 81 rfl ?_
  refine G_iload_n C dX7_line_81 rfl 82 rfl ?_
  refine G_iadd C dX7_line_82 (v := nI (100 * sl + (10 * x) + y)) (nI_add _ _) 83 rfl ?_
  refine G_iastN C dX7_line_83 1 rfl rfl (x := 100 * sl + (10 * x) + y) (by omega) [(mo, .inr (7, [.ref ma0, .ref ma1, .ref ma2, .int (nI (kS ns)), .ref ma4, .ref ma5, .int (nI mlen), .ref ma7, .int (bI gw), .ref ma9, .ref ma10, .ref ma11, .ref ma12, .int (nI mm), .int (nI pl), .ref ma15, .int (nI wm), .long hh])), (ma0, .inl (E.2.1, 15, .inl (aN (va_up (va_up Nw 0 (n + 1)) (n + 1) (100 * sl + (10 * x) + y))))), (ma2, .inl (E.2.1, 75, .inl (aN (lvP ns Pa Nw))))] rfl 84 rfl ?_
  refine G_aload_n C dX7_line_84 rfl 85 rfl ?_
  refine G_getf C dX7_line_85 wF_X7 wf_X7_7 (f := 0) (by decide) (ci := 7) rfl 0 rfl rfl 88 rfl ?_
  refine G_iconst C dX7_line_88 (v := nI 0) rfl 89 rfl ?_
  refine G_ialdN C dX7_line_89 1 rfl rfl (by omega) 90 rfl ?_
  refine G_top (v' := .int (nI (n + 1))) (by rw [up_n (by omega), up_s]) ?_
  refine G_iconst C dX7_line_90 (v := nI 1) rfl 91 rfl ?_
  refine G_isub C dX7_line_91 (v := nI ((n + 1) - 1)) (pk_sub (by omega)) 92 rfl ?_
  exact G_iret C hr dX7_line_92 rfl () trivial rfl rfl

set_option maxHeartbeats 4000000 in
set_option maxRecDepth 100000 in
theorem m_drops_bad (l : Launch) (E : gE) (mo ma0 ma1 ma2 ma4 ma5 ma7 ma9 ma10 ma11 ma12 ma15 ns mlen mm pl wm : Nat) (gw : Bool) (hh : Int64) (Nw : Nat → Nat) (Rf : Nat → Nat) (n : Nat) (va : Int32) (h0 : Nw 0 = n) (hn : n ≤ 14) (hbad : inb va n = false) : FD l E yX7_drops cX7_drops 3 (some .int) { frames := 2, cells := 0, slots := 0, locals := 43 } [.ref mo, .int va] [(mo, .inr (7, [.ref ma0, .ref ma1, .ref ma2, .int (nI ns), .ref ma4, .ref ma5, .int (nI mlen), .ref ma7, .int (bI gw), .ref ma9, .ref ma10, .ref ma11, .ref ma12, .int (nI mm), .int (nI pl), .ref ma15, .int (nI wm), .long hh])), (ma0, .inl (E.2.1, 15, .inl (aN Nw))), (ma4, .inl (E.2.1, 3, .inl (aN Rf)))] (some (.int (-2 : Int32))) [(mo, .inr (7, [.ref ma0, .ref ma1, .ref ma2, .int (nI ns), .ref ma4, .ref ma5, .int (nI mlen), .ref ma7, .int (bI gw), .ref ma9, .ref ma10, .ref ma11, .ref ma12, .int (nI mm), .int (nI pl), .ref ma15, .int (nI wm), .long hh])), (ma0, .inl (E.2.1, 15, .inl (aN Nw))), (ma4, .inl (E.2.1, 3, .inl (aN (va_up Rf 0 (Rf 0 + 1)))))] := by
  refine Fn_ofL (own := RX7) (by decide) rfl rfl [(0, .ref mo), (1, .int va)] rfl ?_
  intro p e s m below meth c A C hr hnm
  refine G_aload_n C dX7_drops_0 rfl 1 rfl ?_
  refine G_iload_n C dX7_drops_1 rfl 2 rfl ?_
  refine G_cV C dX7_drops_2 (c_X7_isLine l E mo ma0 ma1 ma2 ma4 ma5 ma7 ma9 ma10 ma11 ma12 ma15 ns mlen mm pl wm gw hh Nw va n (by first | assumption | omega) (by first | assumption | omega)) wm_X7_62 wi_X7_isLine wsel_X7_isLine wn_X7 wc_X7_isLine rfl rfl ⟨by decide, by decide, rfl⟩ rfl (Nat.le_of_ble_eq_true rfl) 7 rfl rfl 0 rfl [0, 1] [2] (wr := [(ma4, .inl (E.2.1, 3, .inl (aN Rf)))]) rfl rfl rfl rfl rfl [1, 2, 0] rfl [(mo, .inr (7, [.ref ma0, .ref ma1, .ref ma2, .int (nI ns), .ref ma4, .ref ma5, .int (nI mlen), .ref ma7, .int (bI gw), .ref ma9, .ref ma10, .ref ma11, .ref ma12, .int (nI mm), .int (nI pl), .ref ma15, .int (nI wm), .long hh])), (ma0, .inl (E.2.1, 15, .inl (aN Nw))), (ma4, .inl (E.2.1, 3, .inl (aN Rf)))] rfl rfl [.int (bI (inb va n))] rfl 5 rfl ?_
  refine G_if_ne C dX7_drops_5 15 rfl 8 rfl (bI_0 _) (fun h_1 => ?_) (fun h_1 => ?_)
  · exact absurd hbad (by simp [h_1])
  · refine G_aload_n C dX7_drops_8 rfl 9 rfl ?_
    refine G_bipush C dX7_drops_9 (v := (-2 : Int32)) (by decide) 11 rfl ?_
    refine G_cV C dX7_drops_11 (c_X7_counts0 l E mo ma0 ma1 ma2 ma4 ma5 ma7 ma9 ma10 ma11 ma12 ma15 ns mlen mm pl wm gw hh Rf ) wm_X7_51 wi_X7_counts wsel_X7_counts wn_X7 wc_X7_counts rfl rfl ⟨by decide, by decide, rfl⟩ rfl (Nat.le_of_ble_eq_true rfl) 7 rfl rfl 0 rfl [0, 2] [1] (wr := [(ma0, .inl (E.2.1, 15, .inl (aN Nw)))]) rfl rfl rfl rfl rfl [1, 0, 2] rfl [(mo, .inr (7, [.ref ma0, .ref ma1, .ref ma2, .int (nI ns), .ref ma4, .ref ma5, .int (nI mlen), .ref ma7, .int (bI gw), .ref ma9, .ref ma10, .ref ma11, .ref ma12, .int (nI mm), .int (nI pl), .ref ma15, .int (nI wm), .long hh])), (ma0, .inl (E.2.1, 15, .inl (aN Nw))), (ma4, .inl (E.2.1, 3, .inl (aN (va_up Rf 0 (Rf 0 + 1)))))] rfl rfl [.int (-2 : Int32)] rfl 14 rfl ?_
    exact G_iret C hr dX7_drops_14 rfl () trivial rfl rfl

set_option maxHeartbeats 4000000 in
set_option maxRecDepth 100000 in
theorem m_drops_ok (l : Launch) (E : gE) (mo ma0 ma1 ma2 ma4 ma5 ma7 ma9 ma10 ma11 ma12 ma15 ns mlen mm pl wm : Nat) (gw : Bool) (hh : Int64) (Nw : Nat → Nat) (Pa : Nat → Nat) (n i : Nat) (h0 : Nw 0 = n) (hn : n ≤ 14) (hi : i < n) (hs5 : ns ≤ 5) : FD l E yX7_drops cX7_drops 3 (some .int) { frames := 2, cells := 0, slots := 0, locals := 43 } [.ref mo, .int (nI i)] [(mo, .inr (7, [.ref ma0, .ref ma1, .ref ma2, .int (nI ns), .ref ma4, .ref ma5, .int (nI mlen), .ref ma7, .int (bI gw), .ref ma9, .ref ma10, .ref ma11, .ref ma12, .int (nI mm), .int (nI pl), .ref ma15, .int (nI wm), .long hh])), (ma0, .inl (E.2.1, 15, .inl (aN Nw))), (ma2, .inl (E.2.1, 75, .inl (aN Pa)))] (some (.int (nI (n - 1)))) [(mo, .inr (7, [.ref ma0, .ref ma1, .ref ma2, .int (nI (kS ns)), .ref ma4, .ref ma5, .int (nI mlen), .ref ma7, .int (bI gw), .ref ma9, .ref ma10, .ref ma11, .ref ma12, .int (nI mm), .int (nI pl), .ref ma15, .int (nI wm), .long hh])), (ma0, .inl (E.2.1, 15, .inl (aN (va_up (sh1 Nw (i + 1) n) 0 (n - 1))))), (ma2, .inl (E.2.1, 75, .inl (aN (lvP ns Pa Nw))))] := by
  refine Fn_ofL (own := RX7) (by decide) rfl rfl [(0, .ref mo), (1, .int (nI i))] rfl ?_
  intro p e s m below meth c A C hr hnm
  refine G_aload_n C dX7_drops_0 rfl 1 rfl ?_
  refine G_iload_n C dX7_drops_1 rfl 2 rfl ?_
  refine G_cV C dX7_drops_2 (c_X7_isLine l E mo ma0 ma1 ma2 ma4 ma5 ma7 ma9 ma10 ma11 ma12 ma15 ns mlen mm pl wm gw hh Nw (nI i) n (by first | assumption | omega) (by first | assumption | omega)) wm_X7_62 wi_X7_isLine wsel_X7_isLine wn_X7 wc_X7_isLine rfl rfl ⟨by decide, by decide, rfl⟩ rfl (Nat.le_of_ble_eq_true rfl) 7 rfl rfl 0 rfl [0, 1] [2] (wr := [(ma2, .inl (E.2.1, 75, .inl (aN Pa)))]) rfl rfl rfl rfl rfl [1, 2, 0] rfl [(mo, .inr (7, [.ref ma0, .ref ma1, .ref ma2, .int (nI ns), .ref ma4, .ref ma5, .int (nI mlen), .ref ma7, .int (bI gw), .ref ma9, .ref ma10, .ref ma11, .ref ma12, .int (nI mm), .int (nI pl), .ref ma15, .int (nI wm), .long hh])), (ma0, .inl (E.2.1, 15, .inl (aN Nw))), (ma2, .inl (E.2.1, 75, .inl (aN Pa)))] rfl rfl [.int (bI (inb (nI i) n))] rfl 5 rfl ?_
  refine G_if_ne_t C dX7_drops_5 15 rfl (inbT hi (by omega)) ?_
  refine G_aload_n C dX7_drops_15 rfl 16 rfl ?_
  refine G_cV C dX7_drops_16 (c_X7_leaves l E mo ma0 ma1 ma2 ma4 ma5 ma7 ma9 ma10 ma11 ma12 ma15 ns mlen mm pl wm gw hh Nw Pa (by first | assumption | omega)) wm_X7_59 wi_X7_leaves wsel_X7_leaves wn_X7 wc_X7_leaves rfl rfl ⟨by decide, by decide, rfl⟩ rfl (Nat.le_of_ble_eq_true rfl) 7 rfl rfl 0 rfl [0, 1, 2] [] (wr := []) rfl rfl rfl rfl rfl [0, 1, 2] rfl [(mo, .inr (7, [.ref ma0, .ref ma1, .ref ma2, .int (nI (kS ns)), .ref ma4, .ref ma5, .int (nI mlen), .ref ma7, .int (bI gw), .ref ma9, .ref ma10, .ref ma11, .ref ma12, .int (nI mm), .int (nI pl), .ref ma15, .int (nI wm), .long hh])), (ma0, .inl (E.2.1, 15, .inl (aN Nw))), (ma2, .inl (E.2.1, 75, .inl (aN (lvP ns Pa Nw))))] rfl rfl [] rfl 19 rfl ?_
  refine G_iload_n C dX7_drops_19 rfl 20 rfl ?_
  refine G_iconst C dX7_drops_20 (v := nI 1) rfl 21 rfl ?_
  refine G_iadd C dX7_drops_21 (v := nI (i + 1)) (nI_add _ _) 22 rfl ?_
  refine G_istore_n C dX7_drops_22 (by decide) [(2, .int (nI (i + 1))), (0, .ref mo), (1, .int (nI i))] rfl 23 rfl ?_
  refine G_eq (ws' := [(mo, .inr (7, [.ref ma0, .ref ma1, .ref ma2, .int (nI (kS ns)), .ref ma4, .ref ma5, .int (nI mlen), .ref ma7, .int (bI gw), .ref ma9, .ref ma10, .ref ma11, .ref ma12, .int (nI mm), .int (nI pl), .ref ma15, .int (nI wm), .long hh])), (ma0, .inl (E.2.1, 15, .inl (aN (sh1 Nw (i + 1) (i + 1))))), (ma2, .inl (E.2.1, 75, .inl (aN (lvP ns Pa Nw))))]) (by rw [sh1_0 _ _ _ (Nat.le_refl _)]) rfl rfl ?_
  refine G_while (X := Nat) (Wf := fun k => [(mo, .inr (7, [.ref ma0, .ref ma1, .ref ma2, .int (nI (kS ns)), .ref ma4, .ref ma5, .int (nI mlen), .ref ma7, .int (bI gw), .ref ma9, .ref ma10, .ref ma11, .ref ma12, .int (nI mm), .int (nI pl), .ref ma15, .int (nI wm), .long hh])), (ma0, .inl (E.2.1, 15, .inl (aN (sh1 Nw (i + 1) k)))), (ma2, .inl (E.2.1, 75, .inl (aN (lvP ns Pa Nw))))]) (Lf := fun k => [(2, .int (nI k)), (0, .ref mo), (1, .int (nI i))]) (Sf := fun _ => []) (fun k => i + 1 ≤ k ∧ k ≤ n) (fun k => n - k) (fun k hk ih => ?_) (i + 1) ⟨Nat.le_refl _, by omega⟩
  refine G_iload_n C dX7_drops_23 rfl 24 rfl ?_
  refine G_aload_n C dX7_drops_24 rfl 25 rfl ?_
  refine G_getf C dX7_drops_25 wF_X7 wf_X7_7 (f := 0) (by decide) (ci := 7) rfl 0 rfl rfl 28 rfl ?_
  refine G_iconst C dX7_drops_28 (v := nI 0) rfl 29 rfl ?_
  refine G_ialdN C dX7_drops_29 1 rfl rfl (by omega) 30 rfl ?_
  refine G_top (v' := .int (nI n)) (by rw [show sh1 Nw (i + 1) k 0 = Nw 0 by unfold sh1; rw [if_neg (by omega)], h0]) ?_
  refine G_icmp_ge C dX7_drops_30 53 rfl 33 rfl (nI_leI (by omega) (by omega)) (fun h_1 => ?_) (fun h_1 => ?_)
  · refine G_eq (ws' := [(mo, .inr (7, [.ref ma0, .ref ma1, .ref ma2, .int (nI (kS ns)), .ref ma4, .ref ma5, .int (nI mlen), .ref ma7, .int (bI gw), .ref ma9, .ref ma10, .ref ma11, .ref ma12, .int (nI mm), .int (nI pl), .ref ma15, .int (nI wm), .long hh])), (ma0, .inl (E.2.1, 15, .inl (aN (sh1 Nw (i + 1) n)))), (ma2, .inl (E.2.1, 75, .inl (aN (lvP ns Pa Nw))))]) (by rw [show k = n by omega]) rfl rfl ?_
    refine G_aload_n C dX7_drops_53 rfl 54 rfl ?_
    refine G_getf C dX7_drops_54 wF_X7 wf_X7_7 (f := 0) (by decide) (ci := 7) rfl 0 rfl rfl 57 rfl ?_
    refine G_iconst C dX7_drops_57 (v := nI 0) rfl 58 rfl ?_
    refine G_dup2 C dX7_drops_58 rfl rfl 59 rfl ?_
    refine G_ialdN C dX7_drops_59 1 rfl rfl (by omega) 60 rfl ?_
    refine G_top (v' := .int (nI n)) (by rw [show sh1 Nw (i + 1) n 0 = Nw 0 by unfold sh1; rw [if_neg (by omega)], h0]) ?_
    refine G_iconst C dX7_drops_60 (v := nI 1) rfl 61 rfl ?_
    refine G_isub C dX7_drops_61 (v := nI (n - 1)) (pk_sub (by omega)) 62 rfl ?_
    refine G_iastN C dX7_drops_62 1 rfl rfl (x := n - 1) (by omega) [(mo, .inr (7, [.ref ma0, .ref ma1, .ref ma2, .int (nI (kS ns)), .ref ma4, .ref ma5, .int (nI mlen), .ref ma7, .int (bI gw), .ref ma9, .ref ma10, .ref ma11, .ref ma12, .int (nI mm), .int (nI pl), .ref ma15, .int (nI wm), .long hh])), (ma0, .inl (E.2.1, 15, .inl (aN (va_up (sh1 Nw (i + 1) n) 0 (n - 1))))), (ma2, .inl (E.2.1, 75, .inl (aN (lvP ns Pa Nw))))] rfl 63 rfl ?_
    refine G_aload_n C dX7_drops_63 rfl 64 rfl ?_
    refine G_getf C dX7_drops_64 wF_X7 wf_X7_7 (f := 0) (by decide) (ci := 7) rfl 0 rfl rfl 67 rfl ?_
    refine G_iconst C dX7_drops_67 (v := nI 0) rfl 68 rfl ?_
    refine G_ialdN C dX7_drops_68 1 rfl rfl (by omega) 69 rfl ?_
    refine G_top (v' := .int (nI (n - 1))) (by rw [up_s]) ?_
    exact G_iret C hr dX7_drops_69 rfl () trivial rfl rfl
  · refine G_aload_n C dX7_drops_33 rfl 34 rfl ?_
    refine G_getf C dX7_drops_34 wF_X7 wf_X7_7 (f := 0) (by decide) (ci := 7) rfl 0 rfl rfl 37 rfl ?_
    refine G_iload_n C dX7_drops_37 rfl 38 rfl ?_
    refine G_aload_n C dX7_drops_38 rfl 39 rfl ?_
    refine G_getf C dX7_drops_39 wF_X7 wf_X7_7 (f := 0) (by decide) (ci := 7) rfl 0 rfl rfl 42 rfl ?_
    refine G_iload_n C dX7_drops_42 rfl 43 rfl ?_
    refine G_iconst C dX7_drops_43 (v := nI 1) rfl 44 rfl ?_
    refine G_iadd C dX7_drops_44 (v := nI (k + 1)) (nI_add _ _) 45 rfl ?_
    refine G_ialdN C dX7_drops_45 1 rfl rfl (by omega) 46 rfl ?_
    refine G_iastN C dX7_drops_46 1 rfl rfl (x := (sh1 Nw (i + 1) k) (k + 1)) (by omega) [(mo, .inr (7, [.ref ma0, .ref ma1, .ref ma2, .int (nI (kS ns)), .ref ma4, .ref ma5, .int (nI mlen), .ref ma7, .int (bI gw), .ref ma9, .ref ma10, .ref ma11, .ref ma12, .int (nI mm), .int (nI pl), .ref ma15, .int (nI wm), .long hh])), (ma0, .inl (E.2.1, 15, .inl (aN (va_up (sh1 Nw (i + 1) k) k ((sh1 Nw (i + 1) k) (k + 1)))))), (ma2, .inl (E.2.1, 75, .inl (aN (lvP ns Pa Nw))))] rfl 47 rfl ?_
    refine G_iinc C dX7_drops_47 0 rfl (nI_1 _) (by decide) [(2, .int (nI (k + 1))), (0, .ref mo), (1, .int (nI i))] rfl 50 rfl ?_
    refine G_goto C dX7_drops_50 23 rfl ?_
    refine G_eq (ws' := [(mo, .inr (7, [.ref ma0, .ref ma1, .ref ma2, .int (nI (kS ns)), .ref ma4, .ref ma5, .int (nI mlen), .ref ma7, .int (bI gw), .ref ma9, .ref ma10, .ref ma11, .ref ma12, .int (nI mm), .int (nI pl), .ref ma15, .int (nI wm), .long hh])), (ma0, .inl (E.2.1, 15, .inl (aN (sh1 Nw (i + 1) (k + 1))))), (ma2, .inl (E.2.1, 75, .inl (aN (lvP ns Pa Nw))))]) (by rw [sh1_s _ _ _ (by omega)]) rfl rfl ?_
    exact ih (k + 1) (by omega) (by omega)

set_option maxHeartbeats 4000000 in
set_option maxRecDepth 100000 in
theorem m_moves_bad (l : Launch) (E : gE) (mo ma0 ma1 ma2 ma4 ma5 ma7 ma9 ma10 ma11 ma12 ma15 ns mlen mm pl wm : Nat) (gw : Bool) (hh : Int64) (Nw : Nat → Nat) (Rf : Nat → Nat) (n : Nat) (va vb : Int32) (h0 : Nw 0 = n) (hn : n ≤ 14) (hbad : inb va n = false ∨ inb vb n = false) : FD l E yX7_moves cX7_moves 5 (some .int) { frames := 2, cells := 0, slots := 0, locals := 43 } [.ref mo, .int va, .int vb] [(mo, .inr (7, [.ref ma0, .ref ma1, .ref ma2, .int (nI ns), .ref ma4, .ref ma5, .int (nI mlen), .ref ma7, .int (bI gw), .ref ma9, .ref ma10, .ref ma11, .ref ma12, .int (nI mm), .int (nI pl), .ref ma15, .int (nI wm), .long hh])), (ma0, .inl (E.2.1, 15, .inl (aN Nw))), (ma4, .inl (E.2.1, 3, .inl (aN Rf)))] (some (.int (-2 : Int32))) [(mo, .inr (7, [.ref ma0, .ref ma1, .ref ma2, .int (nI ns), .ref ma4, .ref ma5, .int (nI mlen), .ref ma7, .int (bI gw), .ref ma9, .ref ma10, .ref ma11, .ref ma12, .int (nI mm), .int (nI pl), .ref ma15, .int (nI wm), .long hh])), (ma0, .inl (E.2.1, 15, .inl (aN Nw))), (ma4, .inl (E.2.1, 3, .inl (aN (va_up Rf 0 (Rf 0 + 1)))))] := by
  refine Fn_ofL (own := RX7) (by decide) rfl rfl [(0, .ref mo), (1, .int va), (2, .int vb)] rfl ?_
  intro p e s m below meth c A C hr hnm
  refine G_aload_n C dX7_moves_0 rfl 1 rfl ?_
  refine G_iload_n C dX7_moves_1 rfl 2 rfl ?_
  refine G_cV C dX7_moves_2 (c_X7_isLine l E mo ma0 ma1 ma2 ma4 ma5 ma7 ma9 ma10 ma11 ma12 ma15 ns mlen mm pl wm gw hh Nw va n (by first | assumption | omega) (by first | assumption | omega)) wm_X7_62 wi_X7_isLine wsel_X7_isLine wn_X7 wc_X7_isLine rfl rfl ⟨by decide, by decide, rfl⟩ rfl (Nat.le_of_ble_eq_true rfl) 7 rfl rfl 0 rfl [0, 1] [2] (wr := [(ma4, .inl (E.2.1, 3, .inl (aN Rf)))]) rfl rfl rfl rfl rfl [1, 2, 0] rfl [(mo, .inr (7, [.ref ma0, .ref ma1, .ref ma2, .int (nI ns), .ref ma4, .ref ma5, .int (nI mlen), .ref ma7, .int (bI gw), .ref ma9, .ref ma10, .ref ma11, .ref ma12, .int (nI mm), .int (nI pl), .ref ma15, .int (nI wm), .long hh])), (ma0, .inl (E.2.1, 15, .inl (aN Nw))), (ma4, .inl (E.2.1, 3, .inl (aN Rf)))] rfl rfl [.int (bI (inb va n))] rfl 5 rfl ?_
  refine G_if_eq C dX7_moves_5 16 rfl 8 rfl (bI_0 _) (fun h_1 => ?_) (fun h_1 => ?_)
  · refine G_aload_n C dX7_moves_16 rfl 17 rfl ?_
    refine G_bipush C dX7_moves_17 (v := (-2 : Int32)) (by decide) 19 rfl ?_
    refine G_cV C dX7_moves_19 (c_X7_counts0 l E mo ma0 ma1 ma2 ma4 ma5 ma7 ma9 ma10 ma11 ma12 ma15 ns mlen mm pl wm gw hh Rf ) wm_X7_51 wi_X7_counts wsel_X7_counts wn_X7 wc_X7_counts rfl rfl ⟨by decide, by decide, rfl⟩ rfl (Nat.le_of_ble_eq_true rfl) 7 rfl rfl 0 rfl [0, 2] [1] (wr := [(ma0, .inl (E.2.1, 15, .inl (aN Nw)))]) rfl rfl rfl rfl rfl [1, 0, 2] rfl [(mo, .inr (7, [.ref ma0, .ref ma1, .ref ma2, .int (nI ns), .ref ma4, .ref ma5, .int (nI mlen), .ref ma7, .int (bI gw), .ref ma9, .ref ma10, .ref ma11, .ref ma12, .int (nI mm), .int (nI pl), .ref ma15, .int (nI wm), .long hh])), (ma0, .inl (E.2.1, 15, .inl (aN Nw))), (ma4, .inl (E.2.1, 3, .inl (aN (va_up Rf 0 (Rf 0 + 1)))))] rfl rfl [.int (-2 : Int32)] rfl 22 rfl ?_
    exact G_iret C hr dX7_moves_22 rfl () trivial rfl rfl
  · refine G_aload_n C dX7_moves_8 rfl 9 rfl ?_
    refine G_iload_n C dX7_moves_9 rfl 10 rfl ?_
    refine G_cV C dX7_moves_10 (c_X7_isLine l E mo ma0 ma1 ma2 ma4 ma5 ma7 ma9 ma10 ma11 ma12 ma15 ns mlen mm pl wm gw hh Nw vb n (by first | assumption | omega) (by first | assumption | omega)) wm_X7_62 wi_X7_isLine wsel_X7_isLine wn_X7 wc_X7_isLine rfl rfl ⟨by decide, by decide, rfl⟩ rfl (Nat.le_of_ble_eq_true rfl) 7 rfl rfl 0 rfl [0, 1] [2] (wr := [(ma4, .inl (E.2.1, 3, .inl (aN Rf)))]) rfl rfl rfl rfl rfl [1, 2, 0] rfl [(mo, .inr (7, [.ref ma0, .ref ma1, .ref ma2, .int (nI ns), .ref ma4, .ref ma5, .int (nI mlen), .ref ma7, .int (bI gw), .ref ma9, .ref ma10, .ref ma11, .ref ma12, .int (nI mm), .int (nI pl), .ref ma15, .int (nI wm), .long hh])), (ma0, .inl (E.2.1, 15, .inl (aN Nw))), (ma4, .inl (E.2.1, 3, .inl (aN Rf)))] rfl rfl [.int (bI (inb vb n))] rfl 13 rfl ?_
    refine G_if_ne C dX7_moves_13 23 rfl 16 rfl (bI_0 _) (fun h_2 => ?_) (fun h_2 => ?_)
    · exact absurd hbad (by simp [h_1, h_2])
    · refine G_aload_n C dX7_moves_16 rfl 17 rfl ?_
      refine G_bipush C dX7_moves_17 (v := (-2 : Int32)) (by decide) 19 rfl ?_
      refine G_cV C dX7_moves_19 (c_X7_counts0 l E mo ma0 ma1 ma2 ma4 ma5 ma7 ma9 ma10 ma11 ma12 ma15 ns mlen mm pl wm gw hh Rf ) wm_X7_51 wi_X7_counts wsel_X7_counts wn_X7 wc_X7_counts rfl rfl ⟨by decide, by decide, rfl⟩ rfl (Nat.le_of_ble_eq_true rfl) 7 rfl rfl 0 rfl [0, 2] [1] (wr := [(ma0, .inl (E.2.1, 15, .inl (aN Nw)))]) rfl rfl rfl rfl rfl [1, 0, 2] rfl [(mo, .inr (7, [.ref ma0, .ref ma1, .ref ma2, .int (nI ns), .ref ma4, .ref ma5, .int (nI mlen), .ref ma7, .int (bI gw), .ref ma9, .ref ma10, .ref ma11, .ref ma12, .int (nI mm), .int (nI pl), .ref ma15, .int (nI wm), .long hh])), (ma0, .inl (E.2.1, 15, .inl (aN Nw))), (ma4, .inl (E.2.1, 3, .inl (aN (va_up Rf 0 (Rf 0 + 1)))))] rfl rfl [.int (-2 : Int32)] rfl 22 rfl ?_
      exact G_iret C hr dX7_moves_22 rfl () trivial rfl rfl

set_option maxHeartbeats 4000000 in
set_option maxRecDepth 100000 in
theorem m_moves_ok (l : Launch) (E : gE) (mo ma0 ma1 ma2 ma4 ma5 ma7 ma9 ma10 ma11 ma12 ma15 ns mlen mm pl wm : Nat) (gw : Bool) (hh : Int64) (Nw : Nat → Nat) (Pa : Nat → Nat) (n i tp : Nat) (h0 : Nw 0 = n) (hn : n ≤ 14) (hi : i < n) (hp : tp < n) (hs5 : ns ≤ 5) : FD l E yX7_moves cX7_moves 5 (some .int) { frames := 2, cells := 0, slots := 0, locals := 43 } [.ref mo, .int (nI i), .int (nI tp)] [(mo, .inr (7, [.ref ma0, .ref ma1, .ref ma2, .int (nI ns), .ref ma4, .ref ma5, .int (nI mlen), .ref ma7, .int (bI gw), .ref ma9, .ref ma10, .ref ma11, .ref ma12, .int (nI mm), .int (nI pl), .ref ma15, .int (nI wm), .long hh])), (ma0, .inl (E.2.1, 15, .inl (aN Nw))), (ma2, .inl (E.2.1, 75, .inl (aN Pa)))] (some (.int (nI i))) [(mo, .inr (7, [.ref ma0, .ref ma1, .ref ma2, .int (nI (kS ns)), .ref ma4, .ref ma5, .int (nI mlen), .ref ma7, .int (bI gw), .ref ma9, .ref ma10, .ref ma11, .ref ma12, .int (nI mm), .int (nI pl), .ref ma15, .int (nI wm), .long hh])), (ma0, .inl (E.2.1, 15, .inl (aN (mvT Nw (1 + i) (1 + tp))))), (ma2, .inl (E.2.1, 75, .inl (aN (lvP ns Pa Nw))))] := by
  refine Fn_ofL (own := RX7) (by decide) rfl rfl [(0, .ref mo), (1, .int (nI i)), (2, .int (nI tp))] rfl ?_
  intro p e s m below meth c A C hr hnm
  refine G_aload_n C dX7_moves_0 rfl 1 rfl ?_
  refine G_iload_n C dX7_moves_1 rfl 2 rfl ?_
  refine G_cV C dX7_moves_2 (c_X7_isLine l E mo ma0 ma1 ma2 ma4 ma5 ma7 ma9 ma10 ma11 ma12 ma15 ns mlen mm pl wm gw hh Nw (nI i) n (by first | assumption | omega) (by first | assumption | omega)) wm_X7_62 wi_X7_isLine wsel_X7_isLine wn_X7 wc_X7_isLine rfl rfl ⟨by decide, by decide, rfl⟩ rfl (Nat.le_of_ble_eq_true rfl) 7 rfl rfl 0 rfl [0, 1] [2] (wr := [(ma2, .inl (E.2.1, 75, .inl (aN Pa)))]) rfl rfl rfl rfl rfl [1, 2, 0] rfl [(mo, .inr (7, [.ref ma0, .ref ma1, .ref ma2, .int (nI ns), .ref ma4, .ref ma5, .int (nI mlen), .ref ma7, .int (bI gw), .ref ma9, .ref ma10, .ref ma11, .ref ma12, .int (nI mm), .int (nI pl), .ref ma15, .int (nI wm), .long hh])), (ma0, .inl (E.2.1, 15, .inl (aN Nw))), (ma2, .inl (E.2.1, 75, .inl (aN Pa)))] rfl rfl [.int (bI (inb (nI i) n))] rfl 5 rfl ?_
  refine G_if_eq_f C dX7_moves_5 16 rfl 8 rfl (inbT hi (by omega)) ?_
  refine G_aload_n C dX7_moves_8 rfl 9 rfl ?_
  refine G_iload_n C dX7_moves_9 rfl 10 rfl ?_
  refine G_cV C dX7_moves_10 (c_X7_isLine l E mo ma0 ma1 ma2 ma4 ma5 ma7 ma9 ma10 ma11 ma12 ma15 ns mlen mm pl wm gw hh Nw (nI tp) n (by first | assumption | omega) (by first | assumption | omega)) wm_X7_62 wi_X7_isLine wsel_X7_isLine wn_X7 wc_X7_isLine rfl rfl ⟨by decide, by decide, rfl⟩ rfl (Nat.le_of_ble_eq_true rfl) 7 rfl rfl 0 rfl [0, 1] [2] (wr := [(ma2, .inl (E.2.1, 75, .inl (aN Pa)))]) rfl rfl rfl rfl rfl [1, 2, 0] rfl [(mo, .inr (7, [.ref ma0, .ref ma1, .ref ma2, .int (nI ns), .ref ma4, .ref ma5, .int (nI mlen), .ref ma7, .int (bI gw), .ref ma9, .ref ma10, .ref ma11, .ref ma12, .int (nI mm), .int (nI pl), .ref ma15, .int (nI wm), .long hh])), (ma0, .inl (E.2.1, 15, .inl (aN Nw))), (ma2, .inl (E.2.1, 75, .inl (aN Pa)))] rfl rfl [.int (bI (inb (nI tp) n))] rfl 13 rfl ?_
  refine G_if_ne_t C dX7_moves_13 23 rfl (inbT hp (by omega)) ?_
  refine G_aload_n C dX7_moves_23 rfl 24 rfl ?_
  refine G_cV C dX7_moves_24 (c_X7_leaves l E mo ma0 ma1 ma2 ma4 ma5 ma7 ma9 ma10 ma11 ma12 ma15 ns mlen mm pl wm gw hh Nw Pa (by first | assumption | omega)) wm_X7_59 wi_X7_leaves wsel_X7_leaves wn_X7 wc_X7_leaves rfl rfl ⟨by decide, by decide, rfl⟩ rfl (Nat.le_of_ble_eq_true rfl) 7 rfl rfl 0 rfl [0, 1, 2] [] (wr := []) rfl rfl rfl rfl rfl [0, 1, 2] rfl [(mo, .inr (7, [.ref ma0, .ref ma1, .ref ma2, .int (nI (kS ns)), .ref ma4, .ref ma5, .int (nI mlen), .ref ma7, .int (bI gw), .ref ma9, .ref ma10, .ref ma11, .ref ma12, .int (nI mm), .int (nI pl), .ref ma15, .int (nI wm), .long hh])), (ma0, .inl (E.2.1, 15, .inl (aN Nw))), (ma2, .inl (E.2.1, 75, .inl (aN (lvP ns Pa Nw))))] rfl rfl [] rfl 27 rfl ?_
  refine G_aload_n C dX7_moves_27 rfl 28 rfl ?_
  refine G_getf C dX7_moves_28 wF_X7 wf_X7_7 (f := 0) (by decide) (ci := 7) rfl 0 rfl rfl 31 rfl ?_
  refine G_iconst C dX7_moves_31 (v := nI 1) rfl 32 rfl ?_
  refine G_iload_n C dX7_moves_32 rfl 33 rfl ?_
  refine G_iadd C dX7_moves_33 (v := nI (1 + i)) (nI_add _ _) 34 rfl ?_
  refine G_ialdN C dX7_moves_34 1 rfl rfl (by omega) 35 rfl ?_
  refine G_istore_n C dX7_moves_35 (by decide) [(3, .int (nI (Nw (1 + i)))), (0, .ref mo), (1, .int (nI i)), (2, .int (nI tp))] rfl 36 rfl ?_
  refine G_iload_n C dX7_moves_36 rfl 37 rfl ?_
  refine G_istore C dX7_moves_37 (by decide) [(4, .int (nI i)), (3, .int (nI (Nw (1 + i)))), (0, .ref mo), (1, .int (nI i)), (2, .int (nI tp))] rfl 39 rfl ?_
  refine G_eq (ws' := [(mo, .inr (7, [.ref ma0, .ref ma1, .ref ma2, .int (nI (kS ns)), .ref ma4, .ref ma5, .int (nI mlen), .ref ma7, .int (bI gw), .ref ma9, .ref ma10, .ref ma11, .ref ma12, .int (nI mm), .int (nI pl), .ref ma15, .int (nI wm), .long hh])), (ma0, .inl (E.2.1, 15, .inl (aN (sh1 Nw (1 + i) (1 + i))))), (ma2, .inl (E.2.1, 75, .inl (aN (lvP ns Pa Nw))))]) (by rw [sh1_0 _ _ _ (Nat.le_refl _)]) rfl rfl ?_
  refine G_while (X := Nat) (Wf := fun k => [(mo, .inr (7, [.ref ma0, .ref ma1, .ref ma2, .int (nI (kS ns)), .ref ma4, .ref ma5, .int (nI mlen), .ref ma7, .int (bI gw), .ref ma9, .ref ma10, .ref ma11, .ref ma12, .int (nI mm), .int (nI pl), .ref ma15, .int (nI wm), .long hh])), (ma0, .inl (E.2.1, 15, .inl (aN (sh1 Nw (1 + i) (1 + k))))), (ma2, .inl (E.2.1, 75, .inl (aN (lvP ns Pa Nw))))]) (Lf := fun k => [(4, .int (nI k)), (3, .int (nI (Nw (1 + i)))), (0, .ref mo), (1, .int (nI i)), (2, .int (nI tp))]) (Sf := fun _ => []) (fun k => i ≤ k ∧ (k ≤ tp ∨ k = i)) (fun k => tp - k) (fun k hk ih => ?_) i ⟨Nat.le_refl _, Or.inr rfl⟩
  refine G_iload C dX7_moves_39 rfl 41 rfl ?_
  refine G_iload_n C dX7_moves_41 rfl 42 rfl ?_
  refine G_icmp_ge C dX7_moves_42 69 rfl 45 rfl (nI_leI (by omega) (by omega)) (fun h_1 => ?_) (fun h_1 => ?_)
  · rcases Nat.lt_or_ge i tp with hlt | hge
    · refine G_eq (ws' := [(mo, .inr (7, [.ref ma0, .ref ma1, .ref ma2, .int (nI (kS ns)), .ref ma4, .ref ma5, .int (nI mlen), .ref ma7, .int (bI gw), .ref ma9, .ref ma10, .ref ma11, .ref ma12, .int (nI mm), .int (nI pl), .ref ma15, .int (nI wm), .long hh])), (ma0, .inl (E.2.1, 15, .inl (aN (sh1 Nw (1 + i) (1 + tp))))), (ma2, .inl (E.2.1, 75, .inl (aN (lvP ns Pa Nw))))]) (by rw [show k = tp by omega]) rfl rfl ?_
      refine G_iload_n C dX7_moves_69 rfl 70 rfl ?_
      refine G_istore C dX7_moves_70 (by decide) [(4, .int (nI i)), (3, .int (nI (Nw (1 + i)))), (0, .ref mo), (1, .int (nI i)), (2, .int (nI tp))] rfl 72 rfl ?_
      refine G_iload C dX7_moves_72 rfl 74 rfl ?_
      refine G_iload_n C dX7_moves_74 rfl 75 rfl ?_
      refine G_icmp_le_t C dX7_moves_75 100 rfl (by rw [nI_leI (by omega) (by omega)]; omega) ?_
      refine G_aload_n C dX7_moves_100 rfl 101 rfl ?_
      refine G_getf C dX7_moves_101 wF_X7 wf_X7_7 (f := 0) (by decide) (ci := 7) rfl 0 rfl rfl 104 rfl ?_
      refine G_iconst C dX7_moves_104 (v := nI 1) rfl 105 rfl ?_
      refine G_iload_n C dX7_moves_105 rfl 106 rfl ?_
      refine G_iadd C dX7_moves_106 (v := nI (1 + tp)) (nI_add _ _) 107 rfl ?_
      refine G_iload_n C dX7_moves_107 rfl 108 rfl ?_
      refine G_iastN C dX7_moves_108 1 rfl rfl (x := Nw (1 + i)) (by omega) [(mo, .inr (7, [.ref ma0, .ref ma1, .ref ma2, .int (nI (kS ns)), .ref ma4, .ref ma5, .int (nI mlen), .ref ma7, .int (bI gw), .ref ma9, .ref ma10, .ref ma11, .ref ma12, .int (nI mm), .int (nI pl), .ref ma15, .int (nI wm), .long hh])), (ma0, .inl (E.2.1, 15, .inl (aN (va_up (sh1 Nw (1 + i) (1 + tp)) (1 + tp) (Nw (1 + i)))))), (ma2, .inl (E.2.1, 75, .inl (aN (lvP ns Pa Nw))))] rfl 109 rfl ?_
      refine G_iload_n C dX7_moves_109 rfl 110 rfl ?_
      exact G_iret C hr dX7_moves_110 rfl () trivial rfl (by rw [mvT_1 _ _ _ (by omega)])
    · refine G_eq (ws' := [(mo, .inr (7, [.ref ma0, .ref ma1, .ref ma2, .int (nI (kS ns)), .ref ma4, .ref ma5, .int (nI mlen), .ref ma7, .int (bI gw), .ref ma9, .ref ma10, .ref ma11, .ref ma12, .int (nI mm), .int (nI pl), .ref ma15, .int (nI wm), .long hh])), (ma0, .inl (E.2.1, 15, .inl (aN Nw))), (ma2, .inl (E.2.1, 75, .inl (aN (lvP ns Pa Nw))))]) (by rw [show k = i by omega, sh1_0 _ _ _ (Nat.le_refl _)]) rfl rfl ?_
      refine G_iload_n C dX7_moves_69 rfl 70 rfl ?_
      refine G_istore C dX7_moves_70 (by decide) [(4, .int (nI i)), (3, .int (nI (Nw (1 + i)))), (0, .ref mo), (1, .int (nI i)), (2, .int (nI tp))] rfl 72 rfl ?_
      refine G_eq (ws' := [(mo, .inr (7, [.ref ma0, .ref ma1, .ref ma2, .int (nI (kS ns)), .ref ma4, .ref ma5, .int (nI mlen), .ref ma7, .int (bI gw), .ref ma9, .ref ma10, .ref ma11, .ref ma12, .int (nI mm), .int (nI pl), .ref ma15, .int (nI wm), .long hh])), (ma0, .inl (E.2.1, 15, .inl (aN (sh2 Nw (1 + i) (1 + i))))), (ma2, .inl (E.2.1, 75, .inl (aN (lvP ns Pa Nw))))]) (by rw [sh2_0 _ _ _ (Nat.le_refl _)]) rfl rfl ?_
      refine G_while (X := Nat) (Wf := fun k2 => [(mo, .inr (7, [.ref ma0, .ref ma1, .ref ma2, .int (nI (kS ns)), .ref ma4, .ref ma5, .int (nI mlen), .ref ma7, .int (bI gw), .ref ma9, .ref ma10, .ref ma11, .ref ma12, .int (nI mm), .int (nI pl), .ref ma15, .int (nI wm), .long hh])), (ma0, .inl (E.2.1, 15, .inl (aN (sh2 Nw (1 + i) (1 + k2))))), (ma2, .inl (E.2.1, 75, .inl (aN (lvP ns Pa Nw))))]) (Lf := fun k2 => [(4, .int (nI k2)), (3, .int (nI (Nw (1 + i)))), (0, .ref mo), (1, .int (nI i)), (2, .int (nI tp))]) (Sf := fun _ => []) (fun k2 => tp ≤ k2 ∧ k2 ≤ i) (fun k2 => k2) (fun k2 hk2 ih2 => ?_) i ⟨by omega, Nat.le_refl _⟩
      refine G_iload C dX7_moves_72 rfl 74 rfl ?_
      refine G_iload_n C dX7_moves_74 rfl 75 rfl ?_
      refine G_icmp_le C dX7_moves_75 100 rfl 78 rfl (nI_leI (by omega) (by omega)) (fun h_2 => ?_) (fun h_2 => ?_)
      · refine G_aload_n C dX7_moves_100 rfl 101 rfl ?_
        refine G_getf C dX7_moves_101 wF_X7 wf_X7_7 (f := 0) (by decide) (ci := 7) rfl 0 rfl rfl 104 rfl ?_
        refine G_iconst C dX7_moves_104 (v := nI 1) rfl 105 rfl ?_
        refine G_iload_n C dX7_moves_105 rfl 106 rfl ?_
        refine G_iadd C dX7_moves_106 (v := nI (1 + tp)) (nI_add _ _) 107 rfl ?_
        refine G_iload_n C dX7_moves_107 rfl 108 rfl ?_
        refine G_iastN C dX7_moves_108 1 rfl rfl (x := Nw (1 + i)) (by omega) [(mo, .inr (7, [.ref ma0, .ref ma1, .ref ma2, .int (nI (kS ns)), .ref ma4, .ref ma5, .int (nI mlen), .ref ma7, .int (bI gw), .ref ma9, .ref ma10, .ref ma11, .ref ma12, .int (nI mm), .int (nI pl), .ref ma15, .int (nI wm), .long hh])), (ma0, .inl (E.2.1, 15, .inl (aN (va_up (sh2 Nw (1 + i) (1 + k2)) (1 + tp) (Nw (1 + i)))))), (ma2, .inl (E.2.1, 75, .inl (aN (lvP ns Pa Nw))))] rfl 109 rfl ?_
        refine G_iload_n C dX7_moves_109 rfl 110 rfl ?_
        exact G_iret C hr dX7_moves_110 rfl () trivial rfl (by rw [show k2 = tp by omega, mvT_2 _ _ _ (by omega)])
      · refine G_aload_n C dX7_moves_78 rfl 79 rfl ?_
        refine G_getf C dX7_moves_79 wF_X7 wf_X7_7 (f := 0) (by decide) (ci := 7) rfl 0 rfl rfl 82 rfl ?_
        refine G_iconst C dX7_moves_82 (v := nI 1) rfl 83 rfl ?_
        refine G_iload C dX7_moves_83 rfl 85 rfl ?_
        refine G_iadd C dX7_moves_85 (v := nI (1 + k2)) (nI_add _ _) 86 rfl ?_
        refine G_aload_n C dX7_moves_86 rfl 87 rfl ?_
        refine G_getf C dX7_moves_87 wF_X7 wf_X7_7 (f := 0) (by decide) (ci := 7) rfl 0 rfl rfl 90 rfl ?_
        refine G_iload C dX7_moves_90 rfl 92 rfl ?_
        refine G_ialdN C dX7_moves_92 1 rfl rfl (by omega) 93 rfl ?_
        refine G_iastN C dX7_moves_93 1 rfl rfl (x := (sh2 Nw (1 + i) (1 + k2)) k2) (by omega) [(mo, .inr (7, [.ref ma0, .ref ma1, .ref ma2, .int (nI (kS ns)), .ref ma4, .ref ma5, .int (nI mlen), .ref ma7, .int (bI gw), .ref ma9, .ref ma10, .ref ma11, .ref ma12, .int (nI mm), .int (nI pl), .ref ma15, .int (nI wm), .long hh])), (ma0, .inl (E.2.1, 15, .inl (aN (va_up (sh2 Nw (1 + i) (1 + k2)) (1 + k2) ((sh2 Nw (1 + i) (1 + k2)) k2))))), (ma2, .inl (E.2.1, 75, .inl (aN (lvP ns Pa Nw))))] rfl 94 rfl ?_
        refine G_iinc C dX7_moves_94 0 rfl (sb_m1 (by omega)) (by decide) [(4, .int (nI (k2 - 1))), (3, .int (nI (Nw (1 + i)))), (0, .ref mo), (1, .int (nI i)), (2, .int (nI tp))] rfl 97 rfl ?_
        refine G_goto C dX7_moves_97 72 rfl ?_
        refine G_eq (ws' := [(mo, .inr (7, [.ref ma0, .ref ma1, .ref ma2, .int (nI (kS ns)), .ref ma4, .ref ma5, .int (nI mlen), .ref ma7, .int (bI gw), .ref ma9, .ref ma10, .ref ma11, .ref ma12, .int (nI mm), .int (nI pl), .ref ma15, .int (nI wm), .long hh])), (ma0, .inl (E.2.1, 15, .inl (aN (sh2 Nw (1 + i) (1 + (k2 - 1)))))), (ma2, .inl (E.2.1, 75, .inl (aN (lvP ns Pa Nw))))]) (by have e := sh2_s Nw (1 + i) (1 + k2) (by omega) (by omega); rw [show 1 + k2 - 1 = k2 by omega] at e; rw [e, show 1 + (k2 - 1) = k2 by omega]) rfl rfl ?_
        exact ih2 (k2 - 1) (by omega) (by omega)
  · refine G_aload_n C dX7_moves_45 rfl 46 rfl ?_
    refine G_getf C dX7_moves_46 wF_X7 wf_X7_7 (f := 0) (by decide) (ci := 7) rfl 0 rfl rfl 49 rfl ?_
    refine G_iconst C dX7_moves_49 (v := nI 1) rfl 50 rfl ?_
    refine G_iload C dX7_moves_50 rfl 52 rfl ?_
    refine G_iadd C dX7_moves_52 (v := nI (1 + k)) (nI_add _ _) 53 rfl ?_
    refine G_aload_n C dX7_moves_53 rfl 54 rfl ?_
    refine G_getf C dX7_moves_54 wF_X7 wf_X7_7 (f := 0) (by decide) (ci := 7) rfl 0 rfl rfl 57 rfl ?_
    refine G_iconst C dX7_moves_57 (v := nI 2) rfl 58 rfl ?_
    refine G_iload C dX7_moves_58 rfl 60 rfl ?_
    refine G_iadd C dX7_moves_60 (v := nI (2 + k)) (nI_add _ _) 61 rfl ?_
    refine G_ialdN C dX7_moves_61 1 rfl rfl (by omega) 62 rfl ?_
    refine G_iastN C dX7_moves_62 1 rfl rfl (x := (sh1 Nw (1 + i) (1 + k)) (2 + k)) (by omega) [(mo, .inr (7, [.ref ma0, .ref ma1, .ref ma2, .int (nI (kS ns)), .ref ma4, .ref ma5, .int (nI mlen), .ref ma7, .int (bI gw), .ref ma9, .ref ma10, .ref ma11, .ref ma12, .int (nI mm), .int (nI pl), .ref ma15, .int (nI wm), .long hh])), (ma0, .inl (E.2.1, 15, .inl (aN (va_up (sh1 Nw (1 + i) (1 + k)) (1 + k) ((sh1 Nw (1 + i) (1 + k)) (2 + k)))))), (ma2, .inl (E.2.1, 75, .inl (aN (lvP ns Pa Nw))))] rfl 63 rfl ?_
    refine G_iinc C dX7_moves_63 0 rfl (nI_1 _) (by decide) [(4, .int (nI (k + 1))), (3, .int (nI (Nw (1 + i)))), (0, .ref mo), (1, .int (nI i)), (2, .int (nI tp))] rfl 66 rfl ?_
    refine G_goto C dX7_moves_66 39 rfl ?_
    refine G_eq (ws' := [(mo, .inr (7, [.ref ma0, .ref ma1, .ref ma2, .int (nI (kS ns)), .ref ma4, .ref ma5, .int (nI mlen), .ref ma7, .int (bI gw), .ref ma9, .ref ma10, .ref ma11, .ref ma12, .int (nI mm), .int (nI pl), .ref ma15, .int (nI wm), .long hh])), (ma0, .inl (E.2.1, 15, .inl (aN (sh1 Nw (1 + i) (1 + (k + 1)))))), (ma2, .inl (E.2.1, 75, .inl (aN (lvP ns Pa Nw))))]) (by rw [show 2 + k = 1 + k + 1 by omega, sh1_s _ _ _ (by omega), show 1 + (k + 1) = 1 + k + 1 by omega]) rfl rfl ?_
    exact ih (k + 1) (by omega) (by omega)
