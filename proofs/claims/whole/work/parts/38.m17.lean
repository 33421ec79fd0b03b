set_option maxHeartbeats 4000000 in
set_option maxRecDepth 100000 in
theorem c_X7_next (l : Launch) (E : gE) (mo ma0 ma1 ma2 ma4 ma5 ma7 ma9 ma10 ma11 ma12 ma15 ns mlen mm pl wm : Nat) (gw : Bool) (hh : Int64) (Bt : Nat → Nat) (hl : mlen ≤ 120) (hB : ∀ k, k < mlen → Bt k < 128) (hpl : pl ≤ mlen) : FD l E yX7_next cX7_next 1 (some .int) { frames := 0, cells := 0, slots := 0, locals := 0 } [.ref mo] [(mo, .inr (7, [.ref ma0, .ref ma1, .ref ma2, .int (nI ns), .ref ma4, .ref ma5, .int (nI mlen), .ref ma7, .int (bI gw), .ref ma9, .ref ma10, .ref ma11, .ref ma12, .int (nI mm), .int (nI pl), .ref ma15, .int (nI wm), .long hh])), (ma5, .inl (E.2.1, 120, .inl (aN Bt)))] (some (.int (oI (nxc Bt mlen pl)))) [(mo, .inr (7, [.ref ma0, .ref ma1, .ref ma2, .int (nI ns), .ref ma4, .ref ma5, .int (nI mlen), .ref ma7, .int (bI gw), .ref ma9, .ref ma10, .ref ma11, .ref ma12, .int (nI mm), .int (nI (nx Bt mlen pl)), .ref ma15, .int (nI wm), .long hh])), (ma5, .inl (E.2.1, 120, .inl (aN Bt)))] := by
  refine Fn_ofL (own := RX7) (by decide) rfl rfl [(0, .ref mo)] rfl ?_
  intro p e s m below meth c A C hr hnm
  have hnl := (nx_le (Bt := Bt) hpl).2.1
  refine G_while (X := Nat) (Wf := fun p => [(mo, .inr (7, [.ref ma0, .ref ma1, .ref ma2, .int (nI ns), .ref ma4, .ref ma5, .int (nI mlen), .ref ma7, .int (bI gw), .ref ma9, .ref ma10, .ref ma11, .ref ma12, .int (nI mm), .int (nI p), .ref ma15, .int (nI wm), .long hh])), (ma5, .inl (E.2.1, 120, .inl (aN Bt)))]) (Lf := fun p => [(0, .ref mo)]) (Sf := fun _ => []) (fun p => p ≤ mlen ∧ nx Bt mlen p = nx Bt mlen pl) (fun p => mlen - p) (fun p hp ihp => ?_) pl ⟨hpl, rfl⟩
  refine G_aload_n C dX7_next_0 rfl 1 rfl ?_
  refine G_getf C dX7_next_1 wF_X7 wf_X7_139 (f := 14) (by decide) (ci := 7) rfl 0 rfl rfl 4 rfl ?_
  refine G_aload_n C dX7_next_4 rfl 5 rfl ?_
  refine G_getf C dX7_next_5 wF_X7 wf_X7_136 (f := 6) (by decide) (ci := 7) rfl 0 rfl rfl 8 rfl ?_
  refine G_icmp_ge C dX7_next_8 38 rfl 11 rfl (nI_leI (by omega) (by omega)) (fun h_1 => ?_) (fun h_1 => ?_)
  · have est : nx Bt mlen pl = p := by rw [← hp.2]; exact nx_stop (fun h9 => by omega)
    refine G_eq (ws' := [(mo, .inr (7, [.ref ma0, .ref ma1, .ref ma2, .int (nI ns), .ref ma4, .ref ma5, .int (nI mlen), .ref ma7, .int (bI gw), .ref ma9, .ref ma10, .ref ma11, .ref ma12, .int (nI mm), .int (nI (nx Bt mlen pl)), .ref ma15, .int (nI wm), .long hh])), (ma5, .inl (E.2.1, 120, .inl (aN Bt)))]) (by rw [est]) rfl rfl ?_
    refine G_aload_n C dX7_next_38 rfl 39 rfl ?_
    refine G_getf C dX7_next_39 wF_X7 wf_X7_139 (f := 14) (by decide) (ci := 7) rfl 0 rfl rfl 42 rfl ?_
    refine G_aload_n C dX7_next_42 rfl 43 rfl ?_
    refine G_getf C dX7_next_43 wF_X7 wf_X7_136 (f := 6) (by decide) (ci := 7) rfl 0 rfl rfl 46 rfl ?_
    refine G_icmp_ge C dX7_next_46 61 rfl 49 rfl (nI_leI (by omega) (by omega)) (fun h_3 => ?_) (fun h_3 => ?_)
    · refine G_iconst C dX7_next_61 (v := oI none) rfl 62 rfl ?_
      exact G_iret C hr dX7_next_62 rfl () trivial (by unfold nxc; rw [if_neg (by omega)]) rfl
    · refine G_aload_n C dX7_next_49 rfl 50 rfl ?_
      refine G_getf C dX7_next_50 wF_X7 wf_X7_22 (f := 5) (by decide) (ci := 7) rfl 0 rfl rfl 53 rfl ?_
      refine G_aload_n C dX7_next_53 rfl 54 rfl ?_
      refine G_getf C dX7_next_54 wF_X7 wf_X7_139 (f := 14) (by decide) (ci := 7) rfl 0 rfl rfl 57 rfl ?_
      refine G_ialdN C dX7_next_57 1 rfl rfl (by omega) 58 rfl ?_
      refine G_goto C dX7_next_58 62 rfl ?_
      exact G_iret C hr dX7_next_62 rfl () trivial (by unfold nxc; rw [if_pos (by omega)]; rfl) rfl
  · refine G_aload_n C dX7_next_11 rfl 12 rfl ?_
    refine G_getf C dX7_next_12 wF_X7 wf_X7_22 (f := 5) (by decide) (ci := 7) rfl 0 rfl rfl 15 rfl ?_
    refine G_aload_n C dX7_next_15 rfl 16 rfl ?_
    refine G_getf C dX7_next_16 wF_X7 wf_X7_139 (f := 14) (by decide) (ci := 7) rfl 0 rfl rfl 19 rfl ?_
    refine G_ialdN C dX7_next_19 1 rfl rfl (by omega) 20 rfl ?_
    refine G_bipush C dX7_next_20 (v := nI 32) (by decide) 22 rfl ?_
    refine G_icmp_ne C dX7_next_22 38 rfl 25 rfl (nI_eq (by have := hB p (by omega); omega) (by omega)) (fun h_2 => ?_) (fun h_2 => ?_)
    · have est : nx Bt mlen pl = p := by rw [← hp.2]; exact nx_stop (fun h9 => h_2 h9.2)
      refine G_eq (ws' := [(mo, .inr (7, [.ref ma0, .ref ma1, .ref ma2, .int (nI ns), .ref ma4, .ref ma5, .int (nI mlen), .ref ma7, .int (bI gw), .ref ma9, .ref ma10, .ref ma11, .ref ma12, .int (nI mm), .int (nI (nx Bt mlen pl)), .ref ma15, .int (nI wm), .long hh])), (ma5, .inl (E.2.1, 120, .inl (aN Bt)))]) (by rw [est]) rfl rfl ?_
      refine G_aload_n C dX7_next_38 rfl 39 rfl ?_
      refine G_getf C dX7_next_39 wF_X7 wf_X7_139 (f := 14) (by decide) (ci := 7) rfl 0 rfl rfl 42 rfl ?_
      refine G_aload_n C dX7_next_42 rfl 43 rfl ?_
      refine G_getf C dX7_next_43 wF_X7 wf_X7_136 (f := 6) (by decide) (ci := 7) rfl 0 rfl rfl 46 rfl ?_
      refine G_icmp_ge C dX7_next_46 61 rfl 49 rfl (nI_leI (by omega) (by omega)) (fun h_3 => ?_) (fun h_3 => ?_)
      · refine G_iconst C dX7_next_61 (v := oI none) rfl 62 rfl ?_
        exact G_iret C hr dX7_next_62 rfl () trivial (by unfold nxc; rw [if_neg (by omega)]) rfl
      · refine G_aload_n C dX7_next_49 rfl 50 rfl ?_
        refine G_getf C dX7_next_50 wF_X7 wf_X7_22 (f := 5) (by decide) (ci := 7) rfl 0 rfl rfl 53 rfl ?_
        refine G_aload_n C dX7_next_53 rfl 54 rfl ?_
        refine G_getf C dX7_next_54 wF_X7 wf_X7_139 (f := 14) (by decide) (ci := 7) rfl 0 rfl rfl 57 rfl ?_
        refine G_ialdN C dX7_next_57 1 rfl rfl (by omega) 58 rfl ?_
        refine G_goto C dX7_next_58 62 rfl ?_
        exact G_iret C hr dX7_next_62 rfl () trivial (by unfold nxc; rw [if_pos (by omega)]; rfl) rfl
    · refine G_aload_n C dX7_next_25 rfl 26 rfl ?_
      refine G_dup C dX7_next_26 rfl 27 rfl ?_
      refine G_getf C dX7_next_27 wF_X7 wf_X7_139 (f := 14) (by decide) (ci := 7) rfl 0 rfl rfl 30 rfl ?_
      refine G_iconst C dX7_next_30 (v := nI 1) rfl 31 rfl ?_
      refine G_iadd C dX7_next_31 (v := nI (p + 1)) (nI_add _ _) 32 rfl ?_
      refine G_putf C dX7_next_32 wF_X7 wf_X7_139 (f := 14) (by decide) (ci := 7) rfl tyX7_ok nmX7 rfl 0 rfl rfl rfl (Nat.le_of_ble_eq_true rfl) [(mo, .inr (7, [.ref ma0, .ref ma1, .ref ma2, .int (nI ns), .ref ma4, .ref ma5, .int (nI mlen), .ref ma7, .int (bI gw), .ref ma9, .ref ma10, .ref ma11, .ref ma12, .int (nI mm), .int (nI (p + 1)), .ref ma15, .int (nI wm), .long hh])), (ma5, .inl (E.2.1, 120, .inl (aN Bt)))] rfl 35 rfl ?_
      refine G_goto C dX7_next_35 0 rfl ?_
      exact ihp (p + 1) ⟨by omega, by rw [← hp.2, nx_step (by omega) h_2]⟩ (by omega)

set_option maxHeartbeats 4000000 in
set_option maxRecDepth 100000 in
theorem c_X7_passes (l : Launch) (E : gE) (mo ma0 ma1 ma2 ma4 ma5 ma7 ma9 ma10 ma11 ma12 ma15 ns mlen mm pl wm : Nat) (gw : Bool) (hh : Int64) (Bt : Nat → Nat) (cb : Nat) (hl : mlen ≤ 120) (hB : ∀ k, k < mlen → Bt k < 128) (hpl : pl ≤ mlen) (hcb : cb < 128) : FD l E yX7_passes cX7_passes 3 (some .boolean) { frames := 1, cells := 0, slots := 0, locals := 20 } [.ref mo, .int (nI cb)] [(mo, .inr (7, [.ref ma0, .ref ma1, .ref ma2, .int (nI ns), .ref ma4, .ref ma5, .int (nI mlen), .ref ma7, .int (bI gw), .ref ma9, .ref ma10, .ref ma11, .ref ma12, .int (nI mm), .int (nI pl), .ref ma15, .int (nI wm), .long hh])), (ma5, .inl (E.2.1, 120, .inl (aN Bt)))] (some (.int (bI (decide (nxc Bt mlen pl = some cb))))) [(mo, .inr (7, [.ref ma0, .ref ma1, .ref ma2, .int (nI ns), .ref ma4, .ref ma5, .int (nI mlen), .ref ma7, .int (bI gw), .ref ma9, .ref ma10, .ref ma11, .ref ma12, .int (nI mm), .int (nI (nx Bt mlen pl + (if nxc Bt mlen pl = some cb then 1 else 0))), .ref ma15, .int (nI wm), .long hh])), (ma5, .inl (E.2.1, 120, .inl (aN Bt)))] := by
  refine Fn_ofL (own := RX7) (by decide) rfl rfl [(0, .ref mo), (1, .int (nI cb))] rfl ?_
  intro p e s m below meth c A C hr hnm
  refine G_aload_n C dX7_passes_0 rfl 1 rfl ?_
  refine G_cV C dX7_passes_1 (c_X7_next l E mo ma0 ma1 ma2 ma4 ma5 ma7 ma9 ma10 ma11 ma12 ma15 ns mlen mm pl wm gw hh Bt (by first | assumption | omega) (by first | assumption | omega) (by first | assumption | omega)) wm_X7_142 wi_X7_next wsel_X7_next wn_X7 wc_X7_next rfl rfl ⟨by decide, by decide, rfl⟩ rfl (Nat.le_of_ble_eq_true rfl) 7 rfl rfl 0 rfl [0, 1] [] (wr := []) rfl rfl rfl rfl rfl [0, 1] rfl [(mo, .inr (7, [.ref ma0, .ref ma1, .ref ma2, .int (nI ns), .ref ma4, .ref ma5, .int (nI mlen), .ref ma7, .int (bI gw), .ref ma9, .ref ma10, .ref ma11, .ref ma12, .int (nI mm), .int (nI (nx Bt mlen pl)), .ref ma15, .int (nI wm), .long hh])), (ma5, .inl (E.2.1, 120, .inl (aN Bt)))] rfl rfl [.int (oI (nxc Bt mlen pl))] rfl 4 rfl ?_
  refine G_iload_n C dX7_passes_4 rfl 5 rfl ?_
  refine G_icmp_ne C dX7_passes_5 12 rfl 8 rfl (oI_eq (t := nxc Bt mlen pl) (u := some cb) (fun g h9 => by have h8 := nxc_s h9; have h7 := hB _ h8.1; omega) (fun _ h => (by cases h; omega))) (fun h_1 => ?_) (fun h_1 => ?_)
  · refine G_iconst C dX7_passes_12 (v := nI 0) rfl 13 rfl ?_
    refine G_istore_n C dX7_passes_13 (by decide) [(2, .int (nI 0)), (0, .ref mo), (1, .int (nI cb))] rfl 14 rfl ?_
    refine G_aload_n C dX7_passes_14 rfl 15 rfl ?_
    refine G_dup C dX7_passes_15 rfl 16 rfl ?_
    refine G_getf C dX7_passes_16 wF_X7 wf_X7_139 (f := 14) (by decide) (ci := 7) rfl 0 rfl rfl 19 rfl ?_
    refine G_iload_n C dX7_passes_19 rfl 20 rfl ?_
    refine G_if_eq_t C dX7_passes_20 27 rfl (by decide) ?_
    refine G_iconst C dX7_passes_27 (v := nI 0) rfl 28 rfl ?_
    refine G_iadd C dX7_passes_28 (v := nI (nx Bt mlen pl + 0)) (nI_add _ _) 29 rfl ?_
    refine G_putf C dX7_passes_29 wF_X7 wf_X7_139 (f := 14) (by decide) (ci := 7) rfl tyX7_ok nmX7 rfl 0 rfl rfl rfl (Nat.le_of_ble_eq_true rfl) [(mo, .inr (7, [.ref ma0, .ref ma1, .ref ma2, .int (nI ns), .ref ma4, .ref ma5, .int (nI mlen), .ref ma7, .int (bI gw), .ref ma9, .ref ma10, .ref ma11, .ref ma12, .int (nI mm), .int (nI (nx Bt mlen pl + 0)), .ref ma15, .int (nI wm), .long hh])), (ma5, .inl (E.2.1, 120, .inl (aN Bt)))] rfl 32 rfl ?_
    refine G_iload_n C dX7_passes_32 rfl 33 rfl ?_
    exact G_iret C hr dX7_passes_33 (by decide) () trivial (bI_rf (by simp [h_1])) (by simp [h_1])
  · refine G_iconst C dX7_passes_8 (v := nI 1) rfl 9 rfl ?_
    refine G_goto C dX7_passes_9 13 rfl ?_
    refine G_istore_n C dX7_passes_13 (by decide) [(2, .int (nI 1)), (0, .ref mo), (1, .int (nI cb))] rfl 14 rfl ?_
    refine G_aload_n C dX7_passes_14 rfl 15 rfl ?_
    refine G_dup C dX7_passes_15 rfl 16 rfl ?_
    refine G_getf C dX7_passes_16 wF_X7 wf_X7_139 (f := 14) (by decide) (ci := 7) rfl 0 rfl rfl 19 rfl ?_
    refine G_iload_n C dX7_passes_19 rfl 20 rfl ?_
    refine G_if_eq_f C dX7_passes_20 27 rfl 23 rfl (by decide) ?_
    refine G_iconst C dX7_passes_23 (v := nI 1) rfl 24 rfl ?_
    refine G_goto C dX7_passes_24 28 rfl ?_
    refine G_iadd C dX7_passes_28 (v := nI (nx Bt mlen pl + 1)) (nI_add _ _) 29 rfl ?_
    refine G_putf C dX7_passes_29 wF_X7 wf_X7_139 (f := 14) (by decide) (ci := 7) rfl tyX7_ok nmX7 rfl 0 rfl rfl rfl (Nat.le_of_ble_eq_true rfl) [(mo, .inr (7, [.ref ma0, .ref ma1, .ref ma2, .int (nI ns), .ref ma4, .ref ma5, .int (nI mlen), .ref ma7, .int (bI gw), .ref ma9, .ref ma10, .ref ma11, .ref ma12, .int (nI mm), .int (nI (nx Bt mlen pl + 1)), .ref ma15, .int (nI wm), .long hh])), (ma5, .inl (E.2.1, 120, .inl (aN Bt)))] rfl 32 rfl ?_
    refine G_iload_n C dX7_passes_32 rfl 33 rfl ?_
    exact G_iret C hr dX7_passes_33 (by decide) () trivial (bI_rt (by simp [h_1])) (by simp [h_1])

set_option maxHeartbeats 4000000 in
set_option maxRecDepth 100000 in
theorem c_X7_namePassed (l : Launch) (E : gE) (mo ma0 ma1 ma2 ma4 ma5 ma7 ma9 ma10 ma11 ma12 ma15 ns mlen mm pl wm : Nat) (gw : Bool) (hh : Int64) (Bt : Nat → Nat) (hl : mlen ≤ 120) (hB : ∀ k, k < mlen → Bt k < 128) (hpl : pl ≤ mlen) : FD l E yX7_namePassed cX7_namePassed 2 (some .int) { frames := 2, cells := 0, slots := 0, locals := 42 } [.ref mo] [(mo, .inr (7, [.ref ma0, .ref ma1, .ref ma2, .int (nI ns), .ref ma4, .ref ma5, .int (nI mlen), .ref ma7, .int (bI gw), .ref ma9, .ref ma10, .ref ma11, .ref ma12, .int (nI mm), .int (nI pl), .ref ma15, .int (nI wm), .long hh])), (ma5, .inl (E.2.1, 120, .inl (aN Bt)))] (some (.int (oI (nmo Bt mlen pl)))) [(mo, .inr (7, [.ref ma0, .ref ma1, .ref ma2, .int (nI ns), .ref ma4, .ref ma5, .int (nI mlen), .ref ma7, .int (bI gw), .ref ma9, .ref ma10, .ref ma11, .ref ma12, .int (nI mm), .int (nI (nx Bt mlen pl + (if nmo Bt mlen pl = none then 0 else 1))), .ref ma15, .int (nI wm), .long hh])), (ma5, .inl (E.2.1, 120, .inl (aN Bt)))] := by
  refine Fn_ofL (own := RX7) (by decide) rfl rfl [(0, .ref mo)] rfl ?_
  intro p e s m below meth c A C hr hnm
  refine G_aload_n C dX7_namePassed_0 rfl 1 rfl ?_
  refine G_cV C dX7_namePassed_1 (c_X7_next l E mo ma0 ma1 ma2 ma4 ma5 ma7 ma9 ma10 ma11 ma12 ma15 ns mlen mm pl wm gw hh Bt (by first | assumption | omega) (by first | assumption | omega) (by first | assumption | omega)) wm_X7_142 wi_X7_next wsel_X7_next wn_X7 wc_X7_next rfl rfl ⟨by decide, by decide, rfl⟩ rfl (Nat.le_of_ble_eq_true rfl) 7 rfl rfl 0 rfl [0, 1] [] (wr := []) rfl rfl rfl rfl rfl [0, 1] rfl [(mo, .inr (7, [.ref ma0, .ref ma1, .ref ma2, .int (nI ns), .ref ma4, .ref ma5, .int (nI mlen), .ref ma7, .int (bI gw), .ref ma9, .ref ma10, .ref ma11, .ref ma12, .int (nI mm), .int (nI (nx Bt mlen pl)), .ref ma15, .int (nI wm), .long hh])), (ma5, .inl (E.2.1, 120, .inl (aN Bt)))] rfl rfl [.int (oI (nxc Bt mlen pl))] rfl 4 rfl ?_
  cases hc : nxc Bt mlen pl with
  | none =>
    have hm : nmo Bt mlen pl = none := by unfold nmo; rw [hc]
    refine G_eq (st' := [.int (oI none)]) rfl rfl rfl ?_
    refine G_bipush C dX7_namePassed_4 (v := nI 97) (by decide) 6 rfl ?_
    refine G_isub C dX7_namePassed_6 (v := (-98 : Int32)) (by decide) 7 rfl ?_
    refine G_istore_n C dX7_namePassed_7 (by decide) [(1, .int (-98 : Int32)), (0, .ref mo)] rfl 8 rfl ?_
    refine G_aload_n C dX7_namePassed_8 rfl 9 rfl ?_
    refine G_dup C dX7_namePassed_9 rfl 10 rfl ?_
    refine G_getf C dX7_namePassed_10 wF_X7 wf_X7_139 (f := 14) (by decide) (ci := 7) rfl 0 rfl rfl 13 rfl ?_
    refine G_iload_n C dX7_namePassed_13 rfl 14 rfl ?_
    refine G_cS C dX7_namePassed_14 (c_X7_isName l E (-98 : Int32) ) wm_X7_55 wt_X7_isName wn_X7 wc_X7_isName rfl rfl ⟨by decide, by decide, rfl⟩ rfl (Nat.le_of_ble_eq_true rfl) [] [0, 1] (wr := [(mo, .inr (7, [.ref ma0, .ref ma1, .ref ma2, .int (nI ns), .ref ma4, .ref ma5, .int (nI mlen), .ref ma7, .int (bI gw), .ref ma9, .ref ma10, .ref ma11, .ref ma12, .int (nI mm), .int (nI (nx Bt mlen pl)), .ref ma15, .int (nI wm), .long hh])), (ma5, .inl (E.2.1, 120, .inl (aN Bt)))]) rfl rfl rfl rfl rfl [0, 1] rfl [(mo, .inr (7, [.ref ma0, .ref ma1, .ref ma2, .int (nI ns), .ref ma4, .ref ma5, .int (nI mlen), .ref ma7, .int (bI gw), .ref ma9, .ref ma10, .ref ma11, .ref ma12, .int (nI mm), .int (nI (nx Bt mlen pl)), .ref ma15, .int (nI wm), .long hh])), (ma5, .inl (E.2.1, 120, .inl (aN Bt)))] rfl rfl [.int (bI (inb (-98 : Int32) 10)), .int (nI (nx Bt mlen pl)), .ref mo] rfl 17 rfl ?_
    refine G_if_eq_t C dX7_namePassed_17 24 rfl (by decide) ?_
    refine G_iconst C dX7_namePassed_24 (v := nI 0) rfl 25 rfl ?_
    refine G_iadd C dX7_namePassed_25 (v := nI (nx Bt mlen pl + 0)) (nI_add _ _) 26 rfl ?_
    refine G_putf C dX7_namePassed_26 wF_X7 wf_X7_139 (f := 14) (by decide) (ci := 7) rfl tyX7_ok nmX7 rfl 0 rfl rfl rfl (Nat.le_of_ble_eq_true rfl) [(mo, .inr (7, [.ref ma0, .ref ma1, .ref ma2, .int (nI ns), .ref ma4, .ref ma5, .int (nI mlen), .ref ma7, .int (bI gw), .ref ma9, .ref ma10, .ref ma11, .ref ma12, .int (nI mm), .int (nI (nx Bt mlen pl + 0)), .ref ma15, .int (nI wm), .long hh])), (ma5, .inl (E.2.1, 120, .inl (aN Bt)))] rfl 29 rfl ?_
    refine G_iload_n C dX7_namePassed_29 rfl 30 rfl ?_
    refine G_cS C dX7_namePassed_30 (c_X7_isName l E (-98 : Int32) ) wm_X7_55 wt_X7_isName wn_X7 wc_X7_isName rfl rfl ⟨by decide, by decide, rfl⟩ rfl (Nat.le_of_ble_eq_true rfl) [] [0, 1] (wr := [(mo, .inr (7, [.ref ma0, .ref ma1, .ref ma2, .int (nI ns), .ref ma4, .ref ma5, .int (nI mlen), .ref ma7, .int (bI gw), .ref ma9, .ref ma10, .ref ma11, .ref ma12, .int (nI mm), .int (nI (nx Bt mlen pl + 0)), .ref ma15, .int (nI wm), .long hh])), (ma5, .inl (E.2.1, 120, .inl (aN Bt)))]) rfl rfl rfl rfl rfl [0, 1] rfl [(mo, .inr (7, [.ref ma0, .ref ma1, .ref ma2, .int (nI ns), .ref ma4, .ref ma5, .int (nI mlen), .ref ma7, .int (bI gw), .ref ma9, .ref ma10, .ref ma11, .ref ma12, .int (nI mm), .int (nI (nx Bt mlen pl + 0)), .ref ma15, .int (nI wm), .long hh])), (ma5, .inl (E.2.1, 120, .inl (aN Bt)))] rfl rfl [.int (bI (inb (-98 : Int32) 10))] rfl 33 rfl ?_
    refine G_if_eq_t C dX7_namePassed_33 40 rfl (by decide) ?_
    refine G_iconst C dX7_namePassed_40 (v := oI none) rfl 41 rfl ?_
    exact G_iret C hr dX7_namePassed_41 rfl () trivial (by rw [hm]) (by rw [hm]; rfl)
  | some cc9 =>
    have hc8 : cc9 < 128 := by have h8 := nxc_s hc; rw [← h8.2]; exact hB _ h8.1
    refine G_eq (st' := [.int (nI cc9)]) rfl rfl rfl ?_
    refine G_bipush C dX7_namePassed_4 (v := nI 97) (by decide) 6 rfl ?_
    refine G_isub C dX7_namePassed_6 (v := fld cc9) rfl 7 rfl ?_
    refine G_istore_n C dX7_namePassed_7 (by decide) [(1, .int (fld cc9)), (0, .ref mo)] rfl 8 rfl ?_
    refine G_aload_n C dX7_namePassed_8 rfl 9 rfl ?_
    refine G_dup C dX7_namePassed_9 rfl 10 rfl ?_
    refine G_getf C dX7_namePassed_10 wF_X7 wf_X7_139 (f := 14) (by decide) (ci := 7) rfl 0 rfl rfl 13 rfl ?_
    refine G_iload_n C dX7_namePassed_13 rfl 14 rfl ?_
    refine G_cS C dX7_namePassed_14 (c_X7_isName l E (fld cc9) ) wm_X7_55 wt_X7_isName wn_X7 wc_X7_isName rfl rfl ⟨by decide, by decide, rfl⟩ rfl (Nat.le_of_ble_eq_true rfl) [] [0, 1] (wr := [(mo, .inr (7, [.ref ma0, .ref ma1, .ref ma2, .int (nI ns), .ref ma4, .ref ma5, .int (nI mlen), .ref ma7, .int (bI gw), .ref ma9, .ref ma10, .ref ma11, .ref ma12, .int (nI mm), .int (nI (nx Bt mlen pl)), .ref ma15, .int (nI wm), .long hh])), (ma5, .inl (E.2.1, 120, .inl (aN Bt)))]) rfl rfl rfl rfl rfl [0, 1] rfl [(mo, .inr (7, [.ref ma0, .ref ma1, .ref ma2, .int (nI ns), .ref ma4, .ref ma5, .int (nI mlen), .ref ma7, .int (bI gw), .ref ma9, .ref ma10, .ref ma11, .ref ma12, .int (nI mm), .int (nI (nx Bt mlen pl)), .ref ma15, .int (nI wm), .long hh])), (ma5, .inl (E.2.1, 120, .inl (aN Bt)))] rfl rfl [.int (bI (inb (fld cc9) 10)), .int (nI (nx Bt mlen pl)), .ref mo] rfl 17 rfl ?_
    refine G_if_eq C dX7_namePassed_17 24 rfl 20 rfl (show bI (inb (fld cc9) 10) = 0 ↔ nmc cc9 = false by rw [inb_fld cc9 hc8]; exact bI_0 _) (fun h_1 => ?_) (fun h_1 => ?_)
    · refine G_iconst C dX7_namePassed_24 (v := nI 0) rfl 25 rfl ?_
      refine G_iadd C dX7_namePassed_25 (v := nI (nx Bt mlen pl + 0)) (nI_add _ _) 26 rfl ?_
      refine G_putf C dX7_namePassed_26 wF_X7 wf_X7_139 (f := 14) (by decide) (ci := 7) rfl tyX7_ok nmX7 rfl 0 rfl rfl rfl (Nat.le_of_ble_eq_true rfl) [(mo, .inr (7, [.ref ma0, .ref ma1, .ref ma2, .int (nI ns), .ref ma4, .ref ma5, .int (nI mlen), .ref ma7, .int (bI gw), .ref ma9, .ref ma10, .ref ma11, .ref ma12, .int (nI mm), .int (nI (nx Bt mlen pl + 0)), .ref ma15, .int (nI wm), .long hh])), (ma5, .inl (E.2.1, 120, .inl (aN Bt)))] rfl 29 rfl ?_
      refine G_iload_n C dX7_namePassed_29 rfl 30 rfl ?_
      refine G_cS C dX7_namePassed_30 (c_X7_isName l E (fld cc9) ) wm_X7_55 wt_X7_isName wn_X7 wc_X7_isName rfl rfl ⟨by decide, by decide, rfl⟩ rfl (Nat.le_of_ble_eq_true rfl) [] [0, 1] (wr := [(mo, .inr (7, [.ref ma0, .ref ma1, .ref ma2, .int (nI ns), .ref ma4, .ref ma5, .int (nI mlen), .ref ma7, .int (bI gw), .ref ma9, .ref ma10, .ref ma11, .ref ma12, .int (nI mm), .int (nI (nx Bt mlen pl + 0)), .ref ma15, .int (nI wm), .long hh])), (ma5, .inl (E.2.1, 120, .inl (aN Bt)))]) rfl rfl rfl rfl rfl [0, 1] rfl [(mo, .inr (7, [.ref ma0, .ref ma1, .ref ma2, .int (nI ns), .ref ma4, .ref ma5, .int (nI mlen), .ref ma7, .int (bI gw), .ref ma9, .ref ma10, .ref ma11, .ref ma12, .int (nI mm), .int (nI (nx Bt mlen pl + 0)), .ref ma15, .int (nI wm), .long hh])), (ma5, .inl (E.2.1, 120, .inl (aN Bt)))] rfl rfl [.int (bI (inb (fld cc9) 10))] rfl 33 rfl ?_
      refine G_if_eq_t C dX7_namePassed_33 40 rfl (by rw [inb_fld cc9 hc8, bI_0]; exact h_1) ?_
      refine G_iconst C dX7_namePassed_40 (v := oI none) rfl 41 rfl ?_
      exact G_iret C hr dX7_namePassed_41 rfl () trivial (by unfold nmo; rw [hc]; simp [h_1]) (by unfold nmo; rw [hc]; simp [h_1])
    · refine G_iconst C dX7_namePassed_20 (v := nI 1) rfl 21 rfl ?_
      refine G_goto C dX7_namePassed_21 25 rfl ?_
      refine G_iadd C dX7_namePassed_25 (v := nI (nx Bt mlen pl + 1)) (nI_add _ _) 26 rfl ?_
      refine G_putf C dX7_namePassed_26 wF_X7 wf_X7_139 (f := 14) (by decide) (ci := 7) rfl tyX7_ok nmX7 rfl 0 rfl rfl rfl (Nat.le_of_ble_eq_true rfl) [(mo, .inr (7, [.ref ma0, .ref ma1, .ref ma2, .int (nI ns), .ref ma4, .ref ma5, .int (nI mlen), .ref ma7, .int (bI gw), .ref ma9, .ref ma10, .ref ma11, .ref ma12, .int (nI mm), .int (nI (nx Bt mlen pl + 1)), .ref ma15, .int (nI wm), .long hh])), (ma5, .inl (E.2.1, 120, .inl (aN Bt)))] rfl 29 rfl ?_
      refine G_iload_n C dX7_namePassed_29 rfl 30 rfl ?_
      refine G_cS C dX7_namePassed_30 (c_X7_isName l E (fld cc9) ) wm_X7_55 wt_X7_isName wn_X7 wc_X7_isName rfl rfl ⟨by decide, by decide, rfl⟩ rfl (Nat.le_of_ble_eq_true rfl) [] [0, 1] (wr := [(mo, .inr (7, [.ref ma0, .ref ma1, .ref ma2, .int (nI ns), .ref ma4, .ref ma5, .int (nI mlen), .ref ma7, .int (bI gw), .ref ma9, .ref ma10, .ref ma11, .ref ma12, .int (nI mm), .int (nI (nx Bt mlen pl + 1)), .ref ma15, .int (nI wm), .long hh])), (ma5, .inl (E.2.1, 120, .inl (aN Bt)))]) rfl rfl rfl rfl rfl [0, 1] rfl [(mo, .inr (7, [.ref ma0, .ref ma1, .ref ma2, .int (nI ns), .ref ma4, .ref ma5, .int (nI mlen), .ref ma7, .int (bI gw), .ref ma9, .ref ma10, .ref ma11, .ref ma12, .int (nI mm), .int (nI (nx Bt mlen pl + 1)), .ref ma15, .int (nI wm), .long hh])), (ma5, .inl (E.2.1, 120, .inl (aN Bt)))] rfl rfl [.int (bI (inb (fld cc9) 10))] rfl 33 rfl ?_
      refine G_if_eq_f C dX7_namePassed_33 40 rfl 36 rfl (by rw [inb_fld cc9 hc8, bI_0]; exact h_1) ?_
      refine G_iload_n C dX7_namePassed_36 rfl 37 rfl ?_
      refine G_goto C dX7_namePassed_37 41 rfl ?_
      exact G_iret C hr dX7_namePassed_41 rfl () trivial (by unfold nmo; rw [hc]; simp only [show nmc cc9 = true by simpa using h_1, if_true]; rw [fld_nm (by simpa using h_1)]; rfl) (by unfold nmo; rw [hc]; simp [h_1])

set_option maxHeartbeats 4000000 in
set_option maxRecDepth 100000 in
theorem c_X7_readsLine (l : Launch) (E : gE) (mo ma0 ma1 ma2 ma4 ma5 ma7 ma9 ma10 ma11 ma12 ma15 ns mlen mm pl wm : Nat) (gw : Bool) (hh : Int64) (Bt : Nat → Nat) (q0 : pS) (sr cx cy n : Nat) (Cd Fr : Nat → Nat) (hl : mlen ≤ 120) (hB : ∀ k, k < mlen → Bt k < 128) (hsim : Sim q0 Bt mlen pl (0, sr, cx, cy, n, Cd)) (hfk : fok n Cd Fr) (hnx : nx Bt mlen pl = pl) (hcn : ¬ nxc Bt mlen pl = none) : Fn l E yX7_readsLine cX7_readsLine 4 (some .boolean) { frames := 3, cells := 0, slots := 0, locals := 63 } [.ref mo] [(mo, .inr (7, [.ref ma0, .ref ma1, .ref ma2, .int (nI ns), .ref ma4, .ref ma5, .int (nI mlen), .ref ma7, .int (bI gw), .ref ma9, .ref ma10, .ref ma11, .ref ma12, .int (nI mm), .int (nI pl), .ref ma15, .int (nI wm), .long hh])), (ma1, .inl (E.2.1, 15, .inl (aN Fr))), (ma5, .inl (E.2.1, 120, .inl (aN Bt)))] (S := Bool × Nat × (Nat → Nat) × pS) (fun u => (u.1 = true → Sim q0 Bt mlen u.2.1 u.2.2.2 ∧ u.2.2.2.1 = 0 ∧ fok u.2.2.2.2.2.2.2.1 u.2.2.2.2.2.2.2.2 u.2.2.1 ∧ u.2.2.2.2.1 < 4 ∧ pl < u.2.1) ∧ (u.1 = false → pres q0 Bt mlen = some u.2.1)) (fun u => some (.int (bI u.1))) (fun u => [(mo, .inr (7, [.ref ma0, .ref ma1, .ref ma2, .int (nI ns), .ref ma4, .ref ma5, .int (nI mlen), .ref ma7, .int (bI gw), .ref ma9, .ref ma10, .ref ma11, .ref ma12, .int (nI mm), .int (nI u.2.1), .ref ma15, .int (nI wm), .long hh])), (ma1, .inl (E.2.1, 15, .inl (aN u.2.2.1))), (ma5, .inl (E.2.1, 120, .inl (aN Bt)))]) 0 0 := by
  refine Fn_ofL (own := RX7) (by decide) rfl rfl [(0, .ref mo)] rfl ?_
  intro p e s m below meth c A C hr hnm
  have hn14 : n ≤ 14 := hfk.2.1
  refine G_aload_n C dX7_readsLine_0 rfl 1 rfl ?_
  refine G_getf C dX7_readsLine_1 wF_X7 wf_X7_13 (f := 1) (by decide) (ci := 7) rfl 0 rfl rfl 4 rfl ?_
  refine G_iconst C dX7_readsLine_4 (v := nI 0) rfl 5 rfl ?_
  refine G_ialdN C dX7_readsLine_5 1 rfl rfl (by omega) 6 rfl ?_
  refine G_top (v' := .int (nI n)) (by rw [hfk.1]) ?_
  refine G_bipush C dX7_readsLine_6 (v := nI 14) (by decide) 8 rfl ?_
  refine G_icmp_ne C dX7_readsLine_8 13 rfl 11 rfl (nI_eq (by omega) (by omega)) (fun h_1 => ?_) (fun h_1 => ?_)
  · have h14n : ¬ 14 ≤ n := by omega
    refine G_aload_n C dX7_readsLine_13 rfl 14 rfl ?_
    refine G_bipush C dX7_readsLine_14 (v := nI 42) (by decide) 16 rfl ?_
    refine G_cV C dX7_readsLine_16 (c_X7_passes l E mo ma0 ma1 ma2 ma4 ma5 ma7 ma9 ma10 ma11 ma12 ma15 ns mlen mm pl wm gw hh Bt 42 (by first | assumption | omega) (by first | assumption | omega) (hsim.2.2) (by decide)) wm_X7_146 wi_X7_passes wsel_X7_passes wn_X7 wc_X7_passes rfl rfl ⟨by decide, by decide, rfl⟩ rfl (Nat.le_of_ble_eq_true rfl) 7 rfl rfl 0 rfl [0, 2] [1] (wr := [(ma1, .inl (E.2.1, 15, .inl (aN Fr)))]) rfl rfl rfl rfl rfl [1, 0, 2] rfl [(mo, .inr (7, [.ref ma0, .ref ma1, .ref ma2, .int (nI ns), .ref ma4, .ref ma5, .int (nI mlen), .ref ma7, .int (bI gw), .ref ma9, .ref ma10, .ref ma11, .ref ma12, .int (nI mm), .int (nI (nx Bt mlen pl + (if nxc Bt mlen pl = some 42 then 1 else 0))), .ref ma15, .int (nI wm), .long hh])), (ma1, .inl (E.2.1, 15, .inl (aN Fr))), (ma5, .inl (E.2.1, 120, .inl (aN Bt)))] rfl rfl [.int (bI (decide (nxc Bt mlen pl = some 42)))] rfl 19 rfl ?_
    refine G_if_eq C dX7_readsLine_19 26 rfl 22 rfl (bI_0 _) (fun h_2 => ?_) (fun h_2 => ?_)
    · have hc1 : ¬ nxc Bt mlen pl = some 42 := by simpa using h_2
      obtain ⟨p1, ep1⟩ : ∃ z, z = nx Bt mlen pl := ⟨_, rfl⟩
      have sp1 : Sim q0 Bt mlen p1 (0, sr, cx, cy, n, Cd) := by rw [ep1]; exact sim_nx hsim (by simp)
      refine G_eq (ws' := [(mo, .inr (7, [.ref ma0, .ref ma1, .ref ma2, .int (nI ns), .ref ma4, .ref ma5, .int (nI mlen), .ref ma7, .int (bI gw), .ref ma9, .ref ma10, .ref ma11, .ref ma12, .int (nI mm), .int (nI p1), .ref ma15, .int (nI wm), .long hh])), (ma1, .inl (E.2.1, 15, .inl (aN Fr))), (ma5, .inl (E.2.1, 120, .inl (aN Bt)))]) (by rw [if_neg hc1, ep1]; rfl) rfl rfl ?_
      have hxc1 : nxc Bt mlen p1 = nxc Bt mlen pl := by rw [ep1]; exact nxc_id hsim.2.2
      refine G_iconst C dX7_readsLine_26 (v := nI 1) rfl 27 rfl ?_
      refine G_istore_n C dX7_readsLine_27 (by decide) [(1, .int (nI 1)), (0, .ref mo)] rfl 28 rfl ?_
      refine G_aload_n C dX7_readsLine_28 rfl 29 rfl ?_
      refine G_cV C dX7_readsLine_29 (c_X7_namePassed l E mo ma0 ma1 ma2 ma4 ma5 ma7 ma9 ma10 ma11 ma12 ma15 ns mlen mm p1 wm gw hh Bt (by first | assumption | omega) (by first | assumption | omega) (sp1.2.2)) wm_X7_149 wi_X7_namePassed wsel_X7_namePassed wn_X7 wc_X7_namePassed rfl rfl ⟨by decide, by decide, rfl⟩ rfl (Nat.le_of_ble_eq_true rfl) 7 rfl rfl 0 rfl [0, 2] [1] (wr := [(ma1, .inl (E.2.1, 15, .inl (aN Fr)))]) rfl rfl rfl rfl rfl [1, 0, 2] rfl [(mo, .inr (7, [.ref ma0, .ref ma1, .ref ma2, .int (nI ns), .ref ma4, .ref ma5, .int (nI mlen), .ref ma7, .int (bI gw), .ref ma9, .ref ma10, .ref ma11, .ref ma12, .int (nI mm), .int (nI (nx Bt mlen p1 + (if nmo Bt mlen p1 = none then 0 else 1))), .ref ma15, .int (nI wm), .long hh])), (ma1, .inl (E.2.1, 15, .inl (aN Fr))), (ma5, .inl (E.2.1, 120, .inl (aN Bt)))] rfl rfl [.int (oI (nmo Bt mlen p1))] rfl 32 rfl ?_
      refine G_istore_n C dX7_readsLine_32 (by decide) [(2, .int (oI (nmo Bt mlen p1))), (1, .int (nI 1)), (0, .ref mo)] rfl 33 rfl ?_
      refine G_iload_n C dX7_readsLine_33 rfl 34 rfl ?_
      refine G_iconst C dX7_readsLine_34 (v := oI none) rfl 35 rfl ?_
      refine G_icmp_eq C dX7_readsLine_35 47 rfl 38 rfl (oI_none (fun g h9 => by obtain ⟨c9, -, h8, h7⟩ := nmo_s h9; have := nmc_of h8; omega)) (fun h_3 => ?_) (fun h_3 => ?_)
      · refine G_eq (ws' := [(mo, .inr (7, [.ref ma0, .ref ma1, .ref ma2, .int (nI ns), .ref ma4, .ref ma5, .int (nI mlen), .ref ma7, .int (bI gw), .ref ma9, .ref ma10, .ref ma11, .ref ma12, .int (nI mm), .int (nI (nx Bt mlen p1)), .ref ma15, .int (nI wm), .long hh])), (ma1, .inl (E.2.1, 15, .inl (aN Fr))), (ma5, .inl (E.2.1, 120, .inl (aN Bt)))]) (by rw [if_pos h_3]; rfl) rfl rfl ?_
        refine G_iconst C dX7_readsLine_47 (v := nI 0) rfl 48 rfl ?_
        exact G_iret C hr dX7_readsLine_48 (by decide) (false, nx Bt mlen p1, Fr, (0, sr, cx, cy, n, Cd)) ⟨fun h9 => (by cases h9), fun _ => (sim_bad sp1 (by simp) (Or.inr (by rw [hxc1]; exact hcn)) (fun c9 h9 => p0_bad h14n (fun h8 => hc1 (by rw [← hxc1, h9, h8])) (nmo_n h_3 c9 h9)))⟩ rfl rfl
      · obtain ⟨x1, hx1⟩ := Option.ne_none_iff_exists'.mp h_3
        obtain ⟨c1, hn1, hm1, e1⟩ := nmo_s hx1
        have hr1 := nmc_of hm1
        have h42 : ¬ c1 = 42 := by omega
        obtain ⟨p2, ep2⟩ : ∃ z, z = nx Bt mlen p1 + 1 := ⟨_, rfl⟩
        have sp2 : Sim q0 Bt mlen p2 (2, 1, c1, cy, n, Cd) := by rw [ep2]; exact (p0_name h14n h42 hm1) ▸ sim_ok sp1 (by simp) hn1 (by rw [p0_name h14n h42 hm1]; simp)
        refine G_eq (ws' := [(mo, .inr (7, [.ref ma0, .ref ma1, .ref ma2, .int (nI ns), .ref ma4, .ref ma5, .int (nI mlen), .ref ma7, .int (bI gw), .ref ma9, .ref ma10, .ref ma11, .ref ma12, .int (nI mm), .int (nI p2), .ref ma15, .int (nI wm), .long hh])), (ma1, .inl (E.2.1, 15, .inl (aN Fr))), (ma5, .inl (E.2.1, 120, .inl (aN Bt)))]) (by rw [if_neg (by rw [hx1]; simp), ep2]) rfl rfl ?_
        refine G_eq (ws' := [(mo, .inr (7, [.ref ma0, .ref ma1, .ref ma2, .int (nI ns), .ref ma4, .ref ma5, .int (nI mlen), .ref ma7, .int (bI gw), .ref ma9, .ref ma10, .ref ma11, .ref ma12, .int (nI mm), .int (nI p2), .ref ma15, .int (nI wm), .long hh])), (ma1, .inl (E.2.1, 15, .inl (aN Fr))), (ma5, .inl (E.2.1, 120, .inl (aN Bt)))]) (L' := [(2, .int (nI (c1 - 97))), (1, .int (nI 1)), (0, .ref mo)]) rfl (by rw [hx1, e1]; rfl) rfl ?_
        refine G_aload_n C dX7_readsLine_38 rfl 39 rfl ?_
        refine G_bipush C dX7_readsLine_39 (v := nI 61) (by decide) 41 rfl ?_
        refine G_cV C dX7_readsLine_41 (c_X7_passes l E mo ma0 ma1 ma2 ma4 ma5 ma7 ma9 ma10 ma11 ma12 ma15 ns mlen mm p2 wm gw hh Bt 61 (by first | assumption | omega) (by first | assumption | omega) (sp2.2.2) (by decide)) wm_X7_146 wi_X7_passes wsel_X7_passes wn_X7 wc_X7_passes rfl rfl ⟨by decide, by decide, rfl⟩ rfl (Nat.le_of_ble_eq_true rfl) 7 rfl rfl 0 rfl [0, 2] [1] (wr := [(ma1, .inl (E.2.1, 15, .inl (aN Fr)))]) rfl rfl rfl rfl rfl [1, 0, 2] rfl [(mo, .inr (7, [.ref ma0, .ref ma1, .ref ma2, .int (nI ns), .ref ma4, .ref ma5, .int (nI mlen), .ref ma7, .int (bI gw), .ref ma9, .ref ma10, .ref ma11, .ref ma12, .int (nI mm), .int (nI (nx Bt mlen p2 + (if nxc Bt mlen p2 = some 61 then 1 else 0))), .ref ma15, .int (nI wm), .long hh])), (ma1, .inl (E.2.1, 15, .inl (aN Fr))), (ma5, .inl (E.2.1, 120, .inl (aN Bt)))] rfl rfl [.int (bI (decide (nxc Bt mlen p2 = some 61)))] rfl 44 rfl ?_
        refine G_if_ne C dX7_readsLine_44 49 rfl 47 rfl (bI_0 _) (fun h_4 => ?_) (fun h_4 => ?_)
        · have hc2 : nxc Bt mlen p2 = some 61 := by simpa using h_4
          have e2q : pstep (2, 1, c1, cy, n, Cd) 61 = (3, 1, c1, cy, n, Cd) := p2_eq
          obtain ⟨p3, ep3⟩ : ∃ z, z = nx Bt mlen p2 + 1 := ⟨_, rfl⟩
          have sp3 : Sim q0 Bt mlen p3 (3, 1, c1, cy, n, Cd) := by rw [ep3]; exact e2q ▸ sim_ok sp2 (by simp) hc2 (by rw [e2q]; simp)
          refine G_eq (ws' := [(mo, .inr (7, [.ref ma0, .ref ma1, .ref ma2, .int (nI ns), .ref ma4, .ref ma5, .int (nI mlen), .ref ma7, .int (bI gw), .ref ma9, .ref ma10, .ref ma11, .ref ma12, .int (nI mm), .int (nI p3), .ref ma15, .int (nI wm), .long hh])), (ma1, .inl (E.2.1, 15, .inl (aN Fr))), (ma5, .inl (E.2.1, 120, .inl (aN Bt)))]) (by rw [if_pos hc2, ep3]) rfl rfl ?_
          refine G_iload_n C dX7_readsLine_49 rfl 50 rfl ?_
          refine G_iconst C dX7_readsLine_50 (v := nI 1) rfl 51 rfl ?_
          refine G_icmp_ne_f C dX7_readsLine_51 82 rfl 54 rfl (by decide) ?_
          refine G_aload_n C dX7_readsLine_54 rfl 55 rfl ?_
          refine G_bipush C dX7_readsLine_55 (v := nI 38) (by decide) 57 rfl ?_
          refine G_cV C dX7_readsLine_57 (c_X7_passes l E mo ma0 ma1 ma2 ma4 ma5 ma7 ma9 ma10 ma11 ma12 ma15 ns mlen mm p3 wm gw hh Bt 38 (by first | assumption | omega) (by first | assumption | omega) (sp3.2.2) (by decide)) wm_X7_146 wi_X7_passes wsel_X7_passes wn_X7 wc_X7_passes rfl rfl ⟨by decide, by decide, rfl⟩ rfl (Nat.le_of_ble_eq_true rfl) 7 rfl rfl 0 rfl [0, 2] [1] (wr := [(ma1, .inl (E.2.1, 15, .inl (aN Fr)))]) rfl rfl rfl rfl rfl [1, 0, 2] rfl [(mo, .inr (7, [.ref ma0, .ref ma1, .ref ma2, .int (nI ns), .ref ma4, .ref ma5, .int (nI mlen), .ref ma7, .int (bI gw), .ref ma9, .ref ma10, .ref ma11, .ref ma12, .int (nI mm), .int (nI (nx Bt mlen p3 + (if nxc Bt mlen p3 = some 38 then 1 else 0))), .ref ma15, .int (nI wm), .long hh])), (ma1, .inl (E.2.1, 15, .inl (aN Fr))), (ma5, .inl (E.2.1, 120, .inl (aN Bt)))] rfl rfl [.int (bI (decide (nxc Bt mlen p3 = some 38)))] rfl 60 rfl ?_
          refine G_if_eq C dX7_readsLine_60 67 rfl 63 rfl (bI_0 _) (fun h_5 => ?_) (fun h_5 => ?_)
          · have hc3 : ¬ nxc Bt mlen p3 = some 38 := by simpa using h_5
            obtain ⟨p4, ep4⟩ : ∃ z, z = nx Bt mlen p3 := ⟨_, rfl⟩
            have sp4 : Sim q0 Bt mlen p4 (3, 1, c1, cy, n, Cd) := by rw [ep4]; exact sim_nx sp3 (by simp)
            refine G_eq (ws' := [(mo, .inr (7, [.ref ma0, .ref ma1, .ref ma2, .int (nI ns), .ref ma4, .ref ma5, .int (nI mlen), .ref ma7, .int (bI gw), .ref ma9, .ref ma10, .ref ma11, .ref ma12, .int (nI mm), .int (nI p4), .ref ma15, .int (nI wm), .long hh])), (ma1, .inl (E.2.1, 15, .inl (aN Fr))), (ma5, .inl (E.2.1, 120, .inl (aN Bt)))]) (by rw [if_neg hc3, ep4]; rfl) rfl rfl ?_
            have hxc4 : nxc Bt mlen p4 = nxc Bt mlen p3 := by rw [ep4]; exact nxc_id sp3.2.2
            refine G_aload_n C dX7_readsLine_67 rfl 68 rfl ?_
            refine G_bipush C dX7_readsLine_68 (v := nI 42) (by decide) 70 rfl ?_
            refine G_cV C dX7_readsLine_70 (c_X7_passes l E mo ma0 ma1 ma2 ma4 ma5 ma7 ma9 ma10 ma11 ma12 ma15 ns mlen mm p4 wm gw hh Bt 42 (by first | assumption | omega) (by first | assumption | omega) (sp4.2.2) (by decide)) wm_X7_146 wi_X7_passes wsel_X7_passes wn_X7 wc_X7_passes rfl rfl ⟨by decide, by decide, rfl⟩ rfl (Nat.le_of_ble_eq_true rfl) 7 rfl rfl 0 rfl [0, 2] [1] (wr := [(ma1, .inl (E.2.1, 15, .inl (aN Fr)))]) rfl rfl rfl rfl rfl [1, 0, 2] rfl [(mo, .inr (7, [.ref ma0, .ref ma1, .ref ma2, .int (nI ns), .ref ma4, .ref ma5, .int (nI mlen), .ref ma7, .int (bI gw), .ref ma9, .ref ma10, .ref ma11, .ref ma12, .int (nI mm), .int (nI (nx Bt mlen p4 + (if nxc Bt mlen p4 = some 42 then 1 else 0))), .ref ma15, .int (nI wm), .long hh])), (ma1, .inl (E.2.1, 15, .inl (aN Fr))), (ma5, .inl (E.2.1, 120, .inl (aN Bt)))] rfl rfl [.int (bI (decide (nxc Bt mlen p4 = some 42)))] rfl 73 rfl ?_
            refine G_if_eq C dX7_readsLine_73 80 rfl 76 rfl (bI_0 _) (fun h_6 => ?_) (fun h_6 => ?_)
            · have hc4 : ¬ nxc Bt mlen p4 = some 42 := by simpa using h_6
              obtain ⟨p5, ep5⟩ : ∃ z, z = nx Bt mlen p4 := ⟨_, rfl⟩
              have sp5 : Sim q0 Bt mlen p5 (3, 1, c1, cy, n, Cd) := by rw [ep5]; exact sim_nx sp4 (by simp)
              refine G_eq (ws' := [(mo, .inr (7, [.ref ma0, .ref ma1, .ref ma2, .int (nI ns), .ref ma4, .ref ma5, .int (nI mlen), .ref ma7, .int (bI gw), .ref ma9, .ref ma10, .ref ma11, .ref ma12, .int (nI mm), .int (nI p5), .ref ma15, .int (nI wm), .long hh])), (ma1, .inl (E.2.1, 15, .inl (aN Fr))), (ma5, .inl (E.2.1, 120, .inl (aN Bt)))]) (by rw [if_neg hc4, ep5]; rfl) rfl rfl ?_
              have hxc5 : nxc Bt mlen p5 = nxc Bt mlen p4 := by rw [ep5]; exact nxc_id sp4.2.2
              refine G_iconst C dX7_readsLine_80 (v := nI 1) rfl 81 rfl ?_
              refine G_istore_n C dX7_readsLine_81 (by decide) [(1, .int (nI 1)), (2, .int (nI (c1 - 97))), (0, .ref mo)] rfl 82 rfl ?_
              refine G_aload_n C dX7_readsLine_82 rfl 83 rfl ?_
              refine G_cV C dX7_readsLine_83 (c_X7_namePassed l E mo ma0 ma1 ma2 ma4 ma5 ma7 ma9 ma10 ma11 ma12 ma15 ns mlen mm p5 wm gw hh Bt (by first | assumption | omega) (by first | assumption | omega) (sp5.2.2)) wm_X7_149 wi_X7_namePassed wsel_X7_namePassed wn_X7 wc_X7_namePassed rfl rfl ⟨by decide, by decide, rfl⟩ rfl (Nat.le_of_ble_eq_true rfl) 7 rfl rfl 0 rfl [0, 2] [1] (wr := [(ma1, .inl (E.2.1, 15, .inl (aN Fr)))]) rfl rfl rfl rfl rfl [1, 0, 2] rfl [(mo, .inr (7, [.ref ma0, .ref ma1, .ref ma2, .int (nI ns), .ref ma4, .ref ma5, .int (nI mlen), .ref ma7, .int (bI gw), .ref ma9, .ref ma10, .ref ma11, .ref ma12, .int (nI mm), .int (nI (nx Bt mlen p5 + (if nmo Bt mlen p5 = none then 0 else 1))), .ref ma15, .int (nI wm), .long hh])), (ma1, .inl (E.2.1, 15, .inl (aN Fr))), (ma5, .inl (E.2.1, 120, .inl (aN Bt)))] rfl rfl [.int (oI (nmo Bt mlen p5))] rfl 86 rfl ?_
              refine G_istore_n C dX7_readsLine_86 (by decide) [(3, .int (oI (nmo Bt mlen p5))), (1, .int (nI 1)), (2, .int (nI (c1 - 97))), (0, .ref mo)] rfl 87 rfl ?_
              refine G_iload_n C dX7_readsLine_87 rfl 88 rfl ?_
              refine G_iconst C dX7_readsLine_88 (v := oI none) rfl 89 rfl ?_
              refine G_icmp_eq C dX7_readsLine_89 101 rfl 92 rfl (oI_none (fun g h9 => by obtain ⟨c9, -, h8, h7⟩ := nmo_s h9; have := nmc_of h8; omega)) (fun h_7 => ?_) (fun h_7 => ?_)
              · refine G_eq (ws' := [(mo, .inr (7, [.ref ma0, .ref ma1, .ref ma2, .int (nI ns), .ref ma4, .ref ma5, .int (nI mlen), .ref ma7, .int (bI gw), .ref ma9, .ref ma10, .ref ma11, .ref ma12, .int (nI mm), .int (nI (nx Bt mlen p5)), .ref ma15, .int (nI wm), .long hh])), (ma1, .inl (E.2.1, 15, .inl (aN Fr))), (ma5, .inl (E.2.1, 120, .inl (aN Bt)))]) (by rw [if_pos h_7]; rfl) rfl rfl ?_
                refine G_iconst C dX7_readsLine_101 (v := nI 0) rfl 102 rfl ?_
                exact G_iret C hr dX7_readsLine_102 (by decide) (false, nx Bt mlen p5, Fr, (0, sr, cx, cy, n, Cd)) ⟨fun h9 => (by cases h9), fun _ => (sim_bad sp5 (by simp) (Or.inl (by simp)) (fun c9 h9 => p3_bad (fun h8 => hc3 (by rw [← hxc4, ← hxc5, h9, h8])) (fun h8 => hc4 (by rw [← hxc5, h9, h8])) (nmo_n h_7 c9 h9)))⟩ rfl rfl
              · obtain ⟨x2, hx2⟩ := Option.ne_none_iff_exists'.mp h_7
                obtain ⟨c2, hn2, hm2, e2⟩ := nmo_s hx2
                have hr2 := nmc_of hm2
                have h38 : ¬ c2 = 38 := by omega
                have h42b : ¬ c2 = 42 := by omega
                obtain ⟨p6, ep6⟩ : ∃ z, z = nx Bt mlen p5 + 1 := ⟨_, rfl⟩
                have sp6 : Sim q0 Bt mlen p6 (5, 1, c1, c2, n, Cd) := by rw [ep6]; exact (p3_name h38 h42b hm2) ▸ sim_ok sp5 (by simp) hn2 (by rw [p3_name h38 h42b hm2]; simp)
                refine G_eq (ws' := [(mo, .inr (7, [.ref ma0, .ref ma1, .ref ma2, .int (nI ns), .ref ma4, .ref ma5, .int (nI mlen), .ref ma7, .int (bI gw), .ref ma9, .ref ma10, .ref ma11, .ref ma12, .int (nI mm), .int (nI p6), .ref ma15, .int (nI wm), .long hh])), (ma1, .inl (E.2.1, 15, .inl (aN Fr))), (ma5, .inl (E.2.1, 120, .inl (aN Bt)))]) (by rw [if_neg (by rw [hx2]; simp), ep6]) rfl rfl ?_
                refine G_eq (ws' := [(mo, .inr (7, [.ref ma0, .ref ma1, .ref ma2, .int (nI ns), .ref ma4, .ref ma5, .int (nI mlen), .ref ma7, .int (bI gw), .ref ma9, .ref ma10, .ref ma11, .ref ma12, .int (nI mm), .int (nI p6), .ref ma15, .int (nI wm), .long hh])), (ma1, .inl (E.2.1, 15, .inl (aN Fr))), (ma5, .inl (E.2.1, 120, .inl (aN Bt)))]) (L' := [(3, .int (nI (c2 - 97))), (1, .int (nI 1)), (2, .int (nI (c1 - 97))), (0, .ref mo)]) rfl (by rw [hx2, e2]; rfl) rfl ?_
                refine G_aload_n C dX7_readsLine_92 rfl 93 rfl ?_
                refine G_bipush C dX7_readsLine_93 (v := nI 59) (by decide) 95 rfl ?_
                refine G_cV C dX7_readsLine_95 (c_X7_passes l E mo ma0 ma1 ma2 ma4 ma5 ma7 ma9 ma10 ma11 ma12 ma15 ns mlen mm p6 wm gw hh Bt 59 (by first | assumption | omega) (by first | assumption | omega) (sp6.2.2) (by decide)) wm_X7_146 wi_X7_passes wsel_X7_passes wn_X7 wc_X7_passes rfl rfl ⟨by decide, by decide, rfl⟩ rfl (Nat.le_of_ble_eq_true rfl) 7 rfl rfl 0 rfl [0, 2] [1] (wr := [(ma1, .inl (E.2.1, 15, .inl (aN Fr)))]) rfl rfl rfl rfl rfl [1, 0, 2] rfl [(mo, .inr (7, [.ref ma0, .ref ma1, .ref ma2, .int (nI ns), .ref ma4, .ref ma5, .int (nI mlen), .ref ma7, .int (bI gw), .ref ma9, .ref ma10, .ref ma11, .ref ma12, .int (nI mm), .int (nI (nx Bt mlen p6 + (if nxc Bt mlen p6 = some 59 then 1 else 0))), .ref ma15, .int (nI wm), .long hh])), (ma1, .inl (E.2.1, 15, .inl (aN Fr))), (ma5, .inl (E.2.1, 120, .inl (aN Bt)))] rfl rfl [.int (bI (decide (nxc Bt mlen p6 = some 59)))] rfl 98 rfl ?_
                refine G_if_ne C dX7_readsLine_98 103 rfl 101 rfl (bI_0 _) (fun h_8 => ?_) (fun h_8 => ?_)
                · have hc6 : nxc Bt mlen p6 = some 59 := by simpa using h_8
                  obtain ⟨p7, ep7⟩ : ∃ z, z = nx Bt mlen p6 + 1 := ⟨_, rfl⟩
                  have sp7 : Sim q0 Bt mlen p7 (0, 1, c1, c2, n + 1, va_up Cd n (ce (100 * 1 + 10 * (c1 - 97) + (c2 - 97)))) := by rw [ep7]; exact p5_semi ▸ sim_ok sp6 (by simp) hc6 (by rw [p5_semi]; simp)
                  refine G_eq (ws' := [(mo, .inr (7, [.ref ma0, .ref ma1, .ref ma2, .int (nI ns), .ref ma4, .ref ma5, .int (nI mlen), .ref ma7, .int (bI gw), .ref ma9, .ref ma10, .ref ma11, .ref ma12, .int (nI mm), .int (nI p7), .ref ma15, .int (nI wm), .long hh])), (ma1, .inl (E.2.1, 15, .inl (aN Fr))), (ma5, .inl (E.2.1, 120, .inl (aN Bt)))]) (by rw [if_pos hc6, ep7]) rfl rfl ?_
                  refine G_aload_n C dX7_readsLine_103 rfl 104 rfl ?_
                  refine G_getf C dX7_readsLine_104 wF_X7 wf_X7_13 (f := 1) (by decide) (ci := 7) rfl 0 rfl rfl 107 rfl ?_
                  refine G_iconst C dX7_readsLine_107 (v := nI 0) rfl 108 rfl ?_
                  refine G_dup2 C dX7_readsLine_108 rfl rfl 109 rfl ?_
                  refine G_ialdN C dX7_readsLine_109 1 rfl rfl (by omega) 110 rfl ?_
                  refine G_iconst C dX7_readsLine_110 (v := nI 1) rfl 111 rfl ?_
                  refine G_iadd C dX7_readsLine_111 (v := nI (Fr 0 + 1)) (nI_add _ _) 112 rfl ?_
                  refine G_iastN C dX7_readsLine_112 1 rfl rfl (x := Fr 0 + 1) (by omega) [(mo, .inr (7, [.ref ma0, .ref ma1, .ref ma2, .int (nI ns), .ref ma4, .ref ma5, .int (nI mlen), .ref ma7, .int (bI gw), .ref ma9, .ref ma10, .ref ma11, .ref ma12, .int (nI mm), .int (nI p7), .ref ma15, .int (nI wm), .long hh])), (ma1, .inl (E.2.1, 15, .inl (aN (va_up Fr 0 (Fr 0 + 1))))), (ma5, .inl (E.2.1, 120, .inl (aN Bt)))] rfl 113 rfl ?_
                  refine G_eq (ws' := [(mo, .inr (7, [.ref ma0, .ref ma1, .ref ma2, .int (nI ns), .ref ma4, .ref ma5, .int (nI mlen), .ref ma7, .int (bI gw), .ref ma9, .ref ma10, .ref ma11, .ref ma12, .int (nI mm), .int (nI p7), .ref ma15, .int (nI wm), .long hh])), (ma1, .inl (E.2.1, 15, .inl (aN (va_up Fr 0 (n + 1))))), (ma5, .inl (E.2.1, 120, .inl (aN Bt)))]) (by rw [hfk.1]) rfl rfl ?_
                  refine G_aload_n C dX7_readsLine_113 rfl 114 rfl ?_
                  refine G_getf C dX7_readsLine_114 wF_X7 wf_X7_13 (f := 1) (by decide) (ci := 7) rfl 0 rfl rfl 117 rfl ?_
                  refine G_aload_n C dX7_readsLine_117 rfl 118 rfl ?_
                  refine G_getf C dX7_readsLine_118 wF_X7 wf_X7_13 (f := 1) (by decide) (ci := 7) rfl 0 rfl rfl 121 rfl ?_
                  refine G_iconst C dX7_readsLine_121 (v := nI 0) rfl 122 rfl ?_
                  refine G_ialdN C dX7_readsLine_122 1 rfl rfl (by omega) 123 rfl ?_
                  refine G_top (v' := .int (nI (n + 1))) (by rw [up_s]) ?_
                  refine G_bipush C dX7_readsLine_123 (v := nI 100) (by decide) 125 rfl ?_
                  refine G_iload_n C dX7_readsLine_125 rfl 126 rfl ?_
                  refine G_imul C dX7_readsLine_126 (v := nI 100) (by decide) 127 rfl ?_
                  refine G_bipush C dX7_readsLine_127 (v := nI 10) (by decide) 129 rfl ?_
                  refine G_iload_n C dX7_readsLine_129 rfl 130 rfl ?_
                  refine G_imul C dX7_readsLine_130 (v := nI (10 * (c1 - 97))) (pk_mul _ _) 131 rfl ?_
                  refine G_iadd C dX7_readsLine_131 (v := nI (100 + (10 * (c1 - 97)))) (nI_add _ _) 132 rfl ?_
                  refine G_iload_n C dX7_readsLine_132 rfl 133 rfl ?_
                  refine G_iadd C dX7_readsLine_133 (v := nI (100 + (10 * (c1 - 97)) + (c2 - 97))) (nI_add _ _) 134 rfl ?_
                  refine G_iastN C dX7_readsLine_134 1 rfl rfl (x := 100 + (10 * (c1 - 97)) + (c2 - 97)) (by omega) [(mo, .inr (7, [.ref ma0, .ref ma1, .ref ma2, .int (nI ns), .ref ma4, .ref ma5, .int (nI mlen), .ref ma7, .int (bI gw), .ref ma9, .ref ma10, .ref ma11, .ref ma12, .int (nI mm), .int (nI p7), .ref ma15, .int (nI wm), .long hh])), (ma1, .inl (E.2.1, 15, .inl (aN (va_up (va_up Fr 0 (n + 1)) (n + 1) (100 + (10 * (c1 - 97)) + (c2 - 97)))))), (ma5, .inl (E.2.1, 120, .inl (aN Bt)))] rfl 135 rfl ?_
                  refine G_iconst C dX7_readsLine_135 (v := nI 1) rfl 136 rfl ?_
                  exact G_iret C hr dX7_readsLine_136 (by decide) (true, p7, va_up (va_up Fr 0 (n + 1)) (n + 1) (100 + (10 * (c1 - 97)) + (c2 - 97)), (0, 1, c1, c2, n + 1, va_up Cd n (ce (100 * 1 + 10 * (c1 - 97) + (c2 - 97))))) ⟨fun _ => ⟨sp7, rfl, fok_add hfk h14n (nm_v (by decide) hm1 hm2), (show (1 : Nat) < 4 by decide), (by show pl < p7; have z1 := (nx_le (Bt := Bt) hsim.2.2).1; have z2 := (nx_le (Bt := Bt) sp1.2.2).1; have z3 := (nx_le (Bt := Bt) sp2.2.2).1; have z4 := (nx_le (Bt := Bt) sp3.2.2).1; have z5 := (nx_le (Bt := Bt) sp4.2.2).1; have z6 := (nx_le (Bt := Bt) sp5.2.2).1; have z7 := (nx_le (Bt := Bt) sp6.2.2).1; omega)⟩, fun h9 => (by cases h9)⟩ rfl rfl
                · refine G_eq (ws' := [(mo, .inr (7, [.ref ma0, .ref ma1, .ref ma2, .int (nI ns), .ref ma4, .ref ma5, .int (nI mlen), .ref ma7, .int (bI gw), .ref ma9, .ref ma10, .ref ma11, .ref ma12, .int (nI mm), .int (nI (nx Bt mlen p6)), .ref ma15, .int (nI wm), .long hh])), (ma1, .inl (E.2.1, 15, .inl (aN Fr))), (ma5, .inl (E.2.1, 120, .inl (aN Bt)))]) (by rw [if_neg (by simpa using h_8)]; rfl) rfl rfl ?_
                  refine G_iconst C dX7_readsLine_101 (v := nI 0) rfl 102 rfl ?_
                  exact G_iret C hr dX7_readsLine_102 (by decide) (false, nx Bt mlen p6, Fr, (0, sr, cx, cy, n, Cd)) ⟨fun h9 => (by cases h9), fun _ => (sim_bad sp6 (by simp) (Or.inl (by simp)) (fun c9 h9 => p5_bad (fun h8 => by rw [h9, h8] at h_8; simp at h_8)))⟩ rfl rfl
            · have hc4 : nxc Bt mlen p4 = some 42 := by simpa using h_6
              obtain ⟨p5, ep5⟩ : ∃ z, z = nx Bt mlen p4 + 1 := ⟨_, rfl⟩
              have sp5 : Sim q0 Bt mlen p5 (4, 2, c1, cy, n, Cd) := by rw [ep5]; exact p3_star ▸ sim_ok sp4 (by simp) hc4 (by rw [p3_star]; simp)
              refine G_eq (ws' := [(mo, .inr (7, [.ref ma0, .ref ma1, .ref ma2, .int (nI ns), .ref ma4, .ref ma5, .int (nI mlen), .ref ma7, .int (bI gw), .ref ma9, .ref ma10, .ref ma11, .ref ma12, .int (nI mm), .int (nI p5), .ref ma15, .int (nI wm), .long hh])), (ma1, .inl (E.2.1, 15, .inl (aN Fr))), (ma5, .inl (E.2.1, 120, .inl (aN Bt)))]) (by rw [if_pos hc4, ep5]) rfl rfl ?_
              refine G_iconst C dX7_readsLine_76 (v := nI 2) rfl 77 rfl ?_
              refine G_goto C dX7_readsLine_77 81 rfl ?_
              refine G_istore_n C dX7_readsLine_81 (by decide) [(1, .int (nI 2)), (2, .int (nI (c1 - 97))), (0, .ref mo)] rfl 82 rfl ?_
              refine G_aload_n C dX7_readsLine_82 rfl 83 rfl ?_
              refine G_cV C dX7_readsLine_83 (c_X7_namePassed l E mo ma0 ma1 ma2 ma4 ma5 ma7 ma9 ma10 ma11 ma12 ma15 ns mlen mm p5 wm gw hh Bt (by first | assumption | omega) (by first | assumption | omega) (sp5.2.2)) wm_X7_149 wi_X7_namePassed wsel_X7_namePassed wn_X7 wc_X7_namePassed rfl rfl ⟨by decide, by decide, rfl⟩ rfl (Nat.le_of_ble_eq_true rfl) 7 rfl rfl 0 rfl [0, 2] [1] (wr := [(ma1, .inl (E.2.1, 15, .inl (aN Fr)))]) rfl rfl rfl rfl rfl [1, 0, 2] rfl [(mo, .inr (7, [.ref ma0, .ref ma1, .ref ma2, .int (nI ns), .ref ma4, .ref ma5, .int (nI mlen), .ref ma7, .int (bI gw), .ref ma9, .ref ma10, .ref ma11, .ref ma12, .int (nI mm), .int (nI (nx Bt mlen p5 + (if nmo Bt mlen p5 = none then 0 else 1))), .ref ma15, .int (nI wm), .long hh])), (ma1, .inl (E.2.1, 15, .inl (aN Fr))), (ma5, .inl (E.2.1, 120, .inl (aN Bt)))] rfl rfl [.int (oI (nmo Bt mlen p5))] rfl 86 rfl ?_
              refine G_istore_n C dX7_readsLine_86 (by decide) [(3, .int (oI (nmo Bt mlen p5))), (1, .int (nI 2)), (2, .int (nI (c1 - 97))), (0, .ref mo)] rfl 87 rfl ?_
              refine G_iload_n C dX7_readsLine_87 rfl 88 rfl ?_
              refine G_iconst C dX7_readsLine_88 (v := oI none) rfl 89 rfl ?_
              refine G_icmp_eq C dX7_readsLine_89 101 rfl 92 rfl (oI_none (fun g h9 => by obtain ⟨c9, -, h8, h7⟩ := nmo_s h9; have := nmc_of h8; omega)) (fun h_7 => ?_) (fun h_7 => ?_)
              · refine G_eq (ws' := [(mo, .inr (7, [.ref ma0, .ref ma1, .ref ma2, .int (nI ns), .ref ma4, .ref ma5, .int (nI mlen), .ref ma7, .int (bI gw), .ref ma9, .ref ma10, .ref ma11, .ref ma12, .int (nI mm), .int (nI (nx Bt mlen p5)), .ref ma15, .int (nI wm), .long hh])), (ma1, .inl (E.2.1, 15, .inl (aN Fr))), (ma5, .inl (E.2.1, 120, .inl (aN Bt)))]) (by rw [if_pos h_7]; rfl) rfl rfl ?_
                refine G_iconst C dX7_readsLine_101 (v := nI 0) rfl 102 rfl ?_
                exact G_iret C hr dX7_readsLine_102 (by decide) (false, nx Bt mlen p5, Fr, (0, sr, cx, cy, n, Cd)) ⟨fun h9 => (by cases h9), fun _ => (sim_bad sp5 (by simp) (Or.inl (by simp)) (fun c9 h9 => p4_bad (nmo_n h_7 c9 h9)))⟩ rfl rfl
              · obtain ⟨x2, hx2⟩ := Option.ne_none_iff_exists'.mp h_7
                obtain ⟨c2, hn2, hm2, e2⟩ := nmo_s hx2
                have hr2 := nmc_of hm2
                obtain ⟨p6, ep6⟩ : ∃ z, z = nx Bt mlen p5 + 1 := ⟨_, rfl⟩
                have sp6 : Sim q0 Bt mlen p6 (5, 2, c1, c2, n, Cd) := by rw [ep6]; exact (p4_name hm2) ▸ sim_ok sp5 (by simp) hn2 (by rw [p4_name hm2]; simp)
                refine G_eq (ws' := [(mo, .inr (7, [.ref ma0, .ref ma1, .ref ma2, .int (nI ns), .ref ma4, .ref ma5, .int (nI mlen), .ref ma7, .int (bI gw), .ref ma9, .ref ma10, .ref ma11, .ref ma12, .int (nI mm), .int (nI p6), .ref ma15, .int (nI wm), .long hh])), (ma1, .inl (E.2.1, 15, .inl (aN Fr))), (ma5, .inl (E.2.1, 120, .inl (aN Bt)))]) (by rw [if_neg (by rw [hx2]; simp), ep6]) rfl rfl ?_
                refine G_eq (ws' := [(mo, .inr (7, [.ref ma0, .ref ma1, .ref ma2, .int (nI ns), .ref ma4, .ref ma5, .int (nI mlen), .ref ma7, .int (bI gw), .ref ma9, .ref ma10, .ref ma11, .ref ma12, .int (nI mm), .int (nI p6), .ref ma15, .int (nI wm), .long hh])), (ma1, .inl (E.2.1, 15, .inl (aN Fr))), (ma5, .inl (E.2.1, 120, .inl (aN Bt)))]) (L' := [(3, .int (nI (c2 - 97))), (1, .int (nI 2)), (2, .int (nI (c1 - 97))), (0, .ref mo)]) rfl (by rw [hx2, e2]; rfl) rfl ?_
                refine G_aload_n C dX7_readsLine_92 rfl 93 rfl ?_
                refine G_bipush C dX7_readsLine_93 (v := nI 59) (by decide) 95 rfl ?_
                refine G_cV C dX7_readsLine_95 (c_X7_passes l E mo ma0 ma1 ma2 ma4 ma5 ma7 ma9 ma10 ma11 ma12 ma15 ns mlen mm p6 wm gw hh Bt 59 (by first | assumption | omega) (by first | assumption | omega) (sp6.2.2) (by decide)) wm_X7_146 wi_X7_passes wsel_X7_passes wn_X7 wc_X7_passes rfl rfl ⟨by decide, by decide, rfl⟩ rfl (Nat.le_of_ble_eq_true rfl) 7 rfl rfl 0 rfl [0, 2] [1] (wr := [(ma1, .inl (E.2.1, 15, .inl (aN Fr)))]) rfl rfl rfl rfl rfl [1, 0, 2] rfl [(mo, .inr (7, [.ref ma0, .ref ma1, .ref ma2, .int (nI ns), .ref ma4, .ref ma5, .int (nI mlen), .ref ma7, .int (bI gw), .ref ma9, .ref ma10, .ref ma11, .ref ma12, .int (nI mm), .int (nI (nx Bt mlen p6 + (if nxc Bt mlen p6 = some 59 then 1 else 0))), .ref ma15, .int (nI wm), .long hh])), (ma1, .inl (E.2.1, 15, .inl (aN Fr))), (ma5, .inl (E.2.1, 120, .inl (aN Bt)))] rfl rfl [.int (bI (decide (nxc Bt mlen p6 = some 59)))] rfl 98 rfl ?_
                refine G_if_ne C dX7_readsLine_98 103 rfl 101 rfl (bI_0 _) (fun h_8 => ?_) (fun h_8 => ?_)
                · have hc6 : nxc Bt mlen p6 = some 59 := by simpa using h_8
                  obtain ⟨p7, ep7⟩ : ∃ z, z = nx Bt mlen p6 + 1 := ⟨_, rfl⟩
                  have sp7 : Sim q0 Bt mlen p7 (0, 2, c1, c2, n + 1, va_up Cd n (ce (100 * 2 + 10 * (c1 - 97) + (c2 - 97)))) := by rw [ep7]; exact p5_semi ▸ sim_ok sp6 (by simp) hc6 (by rw [p5_semi]; simp)
                  refine G_eq (ws' := [(mo, .inr (7, [.ref ma0, .ref ma1, .ref ma2, .int (nI ns), .ref ma4, .ref ma5, .int (nI mlen), .ref ma7, .int (bI gw), .ref ma9, .ref ma10, .ref ma11, .ref ma12, .int (nI mm), .int (nI p7), .ref ma15, .int (nI wm), .long hh])), (ma1, .inl (E.2.1, 15, .inl (aN Fr))), (ma5, .inl (E.2.1, 120, .inl (aN Bt)))]) (by rw [if_pos hc6, ep7]) rfl rfl ?_
                  refine G_aload_n C dX7_readsLine_103 rfl 104 rfl ?_
                  refine G_getf C dX7_readsLine_104 wF_X7 wf_X7_13 (f := 1) (by decide) (ci := 7) rfl 0 rfl rfl 107 rfl ?_
                  refine G_iconst C dX7_readsLine_107 (v := nI 0) rfl 108 rfl ?_
                  refine G_dup2 C dX7_readsLine_108 rfl rfl 109 rfl ?_
                  refine G_ialdN C dX7_readsLine_109 1 rfl rfl (by omega) 110 rfl ?_
                  refine G_iconst C dX7_readsLine_110 (v := nI 1) rfl 111 rfl ?_
                  refine G_iadd C dX7_readsLine_111 (v := nI (Fr 0 + 1)) (nI_add _ _) 112 rfl ?_
                  refine G_iastN C dX7_readsLine_112 1 rfl rfl (x := Fr 0 + 1) (by omega) [(mo, .inr (7, [.ref ma0, .ref ma1, .ref ma2, .int (nI ns), .ref ma4, .ref ma5, .int (nI mlen), .ref ma7, .int (bI gw), .ref ma9, .ref ma10, .ref ma11, .ref ma12, .int (nI mm), .int (nI p7), .ref ma15, .int (nI wm), .long hh])), (ma1, .inl (E.2.1, 15, .inl (aN (va_up Fr 0 (Fr 0 + 1))))), (ma5, .inl (E.2.1, 120, .inl (aN Bt)))] rfl 113 rfl ?_
                  refine G_eq (ws' := [(mo, .inr (7, [.ref ma0, .ref ma1, .ref ma2, .int (nI ns), .ref ma4, .ref ma5, .int (nI mlen), .ref ma7, .int (bI gw), .ref ma9, .ref ma10, .ref ma11, .ref ma12, .int (nI mm), .int (nI p7), .ref ma15, .int (nI wm), .long hh])), (ma1, .inl (E.2.1, 15, .inl (aN (va_up Fr 0 (n + 1))))), (ma5, .inl (E.2.1, 120, .inl (aN Bt)))]) (by rw [hfk.1]) rfl rfl ?_
                  refine G_aload_n C dX7_readsLine_113 rfl 114 rfl ?_
                  refine G_getf C dX7_readsLine_114 wF_X7 wf_X7_13 (f := 1) (by decide) (ci := 7) rfl 0 rfl rfl 117 rfl ?_
                  refine G_aload_n C dX7_readsLine_117 rfl 118 rfl ?_
                  refine G_getf C dX7_readsLine_118 wF_X7 wf_X7_13 (f := 1) (by decide) (ci := 7) rfl 0 rfl rfl 121 rfl ?_
                  refine G_iconst C dX7_readsLine_121 (v := nI 0) rfl 122 rfl ?_
                  refine G_ialdN C dX7_readsLine_122 1 rfl rfl (by omega) 123 rfl ?_
                  refine G_top (v' := .int (nI (n + 1))) (by rw [up_s]) ?_
                  refine G_bipush C dX7_readsLine_123 (v := nI 100) (by decide) 125 rfl ?_
                  refine G_iload_n C dX7_readsLine_125 rfl 126 rfl ?_
                  refine G_imul C dX7_readsLine_126 (v := nI 200) (by decide) 127 rfl ?_
                  refine G_bipush C dX7_readsLine_127 (v := nI 10) (by decide) 129 rfl ?_
                  refine G_iload_n C dX7_readsLine_129 rfl 130 rfl ?_
                  refine G_imul C dX7_readsLine_130 (v := nI (10 * (c1 - 97))) (pk_mul _ _) 131 rfl ?_
                  refine G_iadd C dX7_readsLine_131 (v := nI (200 + (10 * (c1 - 97)))) (nI_add _ _) 132 rfl ?_
                  refine G_iload_n C dX7_readsLine_132 rfl 133 rfl ?_
                  refine G_iadd C dX7_readsLine_133 (v := nI (200 + (10 * (c1 - 97)) + (c2 - 97))) (nI_add _ _) 134 rfl ?_
                  refine G_iastN C dX7_readsLine_134 1 rfl rfl (x := 200 + (10 * (c1 - 97)) + (c2 - 97)) (by omega) [(mo, .inr (7, [.ref ma0, .ref ma1, .ref ma2, .int (nI ns), .ref ma4, .ref ma5, .int (nI mlen), .ref ma7, .int (bI gw), .ref ma9, .ref ma10, .ref ma11, .ref ma12, .int (nI mm), .int (nI p7), .ref ma15, .int (nI wm), .long hh])), (ma1, .inl (E.2.1, 15, .inl (aN (va_up (va_up Fr 0 (n + 1)) (n + 1) (200 + (10 * (c1 - 97)) + (c2 - 97)))))), (ma5, .inl (E.2.1, 120, .inl (aN Bt)))] rfl 135 rfl ?_
                  refine G_iconst C dX7_readsLine_135 (v := nI 1) rfl 136 rfl ?_
                  exact G_iret C hr dX7_readsLine_136 (by decide) (true, p7, va_up (va_up Fr 0 (n + 1)) (n + 1) (200 + (10 * (c1 - 97)) + (c2 - 97)), (0, 2, c1, c2, n + 1, va_up Cd n (ce (100 * 2 + 10 * (c1 - 97) + (c2 - 97))))) ⟨fun _ => ⟨sp7, rfl, fok_add hfk h14n (nm_v (by decide) hm1 hm2), (show (2 : Nat) < 4 by decide), (by show pl < p7; have z1 := (nx_le (Bt := Bt) hsim.2.2).1; have z2 := (nx_le (Bt := Bt) sp1.2.2).1; have z3 := (nx_le (Bt := Bt) sp2.2.2).1; have z4 := (nx_le (Bt := Bt) sp3.2.2).1; have z5 := (nx_le (Bt := Bt) sp4.2.2).1; have z6 := (nx_le (Bt := Bt) sp5.2.2).1; have z7 := (nx_le (Bt := Bt) sp6.2.2).1; omega)⟩, fun h9 => (by cases h9)⟩ rfl rfl
                · refine G_eq (ws' := [(mo, .inr (7, [.ref ma0, .ref ma1, .ref ma2, .int (nI ns), .ref ma4, .ref ma5, .int (nI mlen), .ref ma7, .int (bI gw), .ref ma9, .ref ma10, .ref ma11, .ref ma12, .int (nI mm), .int (nI (nx Bt mlen p6)), .ref ma15, .int (nI wm), .long hh])), (ma1, .inl (E.2.1, 15, .inl (aN Fr))), (ma5, .inl (E.2.1, 120, .inl (aN Bt)))]) (by rw [if_neg (by simpa using h_8)]; rfl) rfl rfl ?_
                  refine G_iconst C dX7_readsLine_101 (v := nI 0) rfl 102 rfl ?_
                  exact G_iret C hr dX7_readsLine_102 (by decide) (false, nx Bt mlen p6, Fr, (0, sr, cx, cy, n, Cd)) ⟨fun h9 => (by cases h9), fun _ => (sim_bad sp6 (by simp) (Or.inl (by simp)) (fun c9 h9 => p5_bad (fun h8 => by rw [h9, h8] at h_8; simp at h_8)))⟩ rfl rfl
          · have hc3 : nxc Bt mlen p3 = some 38 := by simpa using h_5
            obtain ⟨p4, ep4⟩ : ∃ z, z = nx Bt mlen p3 + 1 := ⟨_, rfl⟩
            have sp4 : Sim q0 Bt mlen p4 (4, 0, c1, cy, n, Cd) := by rw [ep4]; exact p3_amp ▸ sim_ok sp3 (by simp) hc3 (by rw [p3_amp]; simp)
            refine G_eq (ws' := [(mo, .inr (7, [.ref ma0, .ref ma1, .ref ma2, .int (nI ns), .ref ma4, .ref ma5, .int (nI mlen), .ref ma7, .int (bI gw), .ref ma9, .ref ma10, .ref ma11, .ref ma12, .int (nI mm), .int (nI p4), .ref ma15, .int (nI wm), .long hh])), (ma1, .inl (E.2.1, 15, .inl (aN Fr))), (ma5, .inl (E.2.1, 120, .inl (aN Bt)))]) (by rw [if_pos hc3, ep4]) rfl rfl ?_
            refine G_iconst C dX7_readsLine_63 (v := nI 0) rfl 64 rfl ?_
            refine G_goto C dX7_readsLine_64 81 rfl ?_
            refine G_istore_n C dX7_readsLine_81 (by decide) [(1, .int (nI 0)), (2, .int (nI (c1 - 97))), (0, .ref mo)] rfl 82 rfl ?_
            refine G_aload_n C dX7_readsLine_82 rfl 83 rfl ?_
            refine G_cV C dX7_readsLine_83 (c_X7_namePassed l E mo ma0 ma1 ma2 ma4 ma5 ma7 ma9 ma10 ma11 ma12 ma15 ns mlen mm p4 wm gw hh Bt (by first | assumption | omega) (by first | assumption | omega) (sp4.2.2)) wm_X7_149 wi_X7_namePassed wsel_X7_namePassed wn_X7 wc_X7_namePassed rfl rfl ⟨by decide, by decide, rfl⟩ rfl (Nat.le_of_ble_eq_true rfl) 7 rfl rfl 0 rfl [0, 2] [1] (wr := [(ma1, .inl (E.2.1, 15, .inl (aN Fr)))]) rfl rfl rfl rfl rfl [1, 0, 2] rfl [(mo, .inr (7, [.ref ma0, .ref ma1, .ref ma2, .int (nI ns), .ref ma4, .ref ma5, .int (nI mlen), .ref ma7, .int (bI gw), .ref ma9, .ref ma10, .ref ma11, .ref ma12, .int (nI mm), .int (nI (nx Bt mlen p4 + (if nmo Bt mlen p4 = none then 0 else 1))), .ref ma15, .int (nI wm), .long hh])), (ma1, .inl (E.2.1, 15, .inl (aN Fr))), (ma5, .inl (E.2.1, 120, .inl (aN Bt)))] rfl rfl [.int (oI (nmo Bt mlen p4))] rfl 86 rfl ?_
            refine G_istore_n C dX7_readsLine_86 (by decide) [(3, .int (oI (nmo Bt mlen p4))), (1, .int (nI 0)), (2, .int (nI (c1 - 97))), (0, .ref mo)] rfl 87 rfl ?_
            refine G_iload_n C dX7_readsLine_87 rfl 88 rfl ?_
            refine G_iconst C dX7_readsLine_88 (v := oI none) rfl 89 rfl ?_
            refine G_icmp_eq C dX7_readsLine_89 101 rfl 92 rfl (oI_none (fun g h9 => by obtain ⟨c9, -, h8, h7⟩ := nmo_s h9; have := nmc_of h8; omega)) (fun h_7 => ?_) (fun h_7 => ?_)
            · refine G_eq (ws' := [(mo, .inr (7, [.ref ma0, .ref ma1, .ref ma2, .int (nI ns), .ref ma4, .ref ma5, .int (nI mlen), .ref ma7, .int (bI gw), .ref ma9, .ref ma10, .ref ma11, .ref ma12, .int (nI mm), .int (nI (nx Bt mlen p4)), .ref ma15, .int (nI wm), .long hh])), (ma1, .inl (E.2.1, 15, .inl (aN Fr))), (ma5, .inl (E.2.1, 120, .inl (aN Bt)))]) (by rw [if_pos h_7]; rfl) rfl rfl ?_
              refine G_iconst C dX7_readsLine_101 (v := nI 0) rfl 102 rfl ?_
              exact G_iret C hr dX7_readsLine_102 (by decide) (false, nx Bt mlen p4, Fr, (0, sr, cx, cy, n, Cd)) ⟨fun h9 => (by cases h9), fun _ => (sim_bad sp4 (by simp) (Or.inl (by simp)) (fun c9 h9 => p4_bad (nmo_n h_7 c9 h9)))⟩ rfl rfl
            · obtain ⟨x2, hx2⟩ := Option.ne_none_iff_exists'.mp h_7
              obtain ⟨c2, hn2, hm2, e2⟩ := nmo_s hx2
              have hr2 := nmc_of hm2
              obtain ⟨p6, ep6⟩ : ∃ z, z = nx Bt mlen p4 + 1 := ⟨_, rfl⟩
              have sp6 : Sim q0 Bt mlen p6 (5, 0, c1, c2, n, Cd) := by rw [ep6]; exact (p4_name hm2) ▸ sim_ok sp4 (by simp) hn2 (by rw [p4_name hm2]; simp)
              refine G_eq (ws' := [(mo, .inr (7, [.ref ma0, .ref ma1, .ref ma2, .int (nI ns), .ref ma4, .ref ma5, .int (nI mlen), .ref ma7, .int (bI gw), .ref ma9, .ref ma10, .ref ma11, .ref ma12, .int (nI mm), .int (nI p6), .ref ma15, .int (nI wm), .long hh])), (ma1, .inl (E.2.1, 15, .inl (aN Fr))), (ma5, .inl (E.2.1, 120, .inl (aN Bt)))]) (by rw [if_neg (by rw [hx2]; simp), ep6]) rfl rfl ?_
              refine G_eq (ws' := [(mo, .inr (7, [.ref ma0, .ref ma1, .ref ma2, .int (nI ns), .ref ma4, .ref ma5, .int (nI mlen), .ref ma7, .int (bI gw), .ref ma9, .ref ma10, .ref ma11, .ref ma12, .int (nI mm), .int (nI p6), .ref ma15, .int (nI wm), .long hh])), (ma1, .inl (E.2.1, 15, .inl (aN Fr))), (ma5, .inl (E.2.1, 120, .inl (aN Bt)))]) (L' := [(3, .int (nI (c2 - 97))), (1, .int (nI 0)), (2, .int (nI (c1 - 97))), (0, .ref mo)]) rfl (by rw [hx2, e2]; rfl) rfl ?_
              refine G_aload_n C dX7_readsLine_92 rfl 93 rfl ?_
              refine G_bipush C dX7_readsLine_93 (v := nI 59) (by decide) 95 rfl ?_
              refine G_cV C dX7_readsLine_95 (c_X7_passes l E mo ma0 ma1 ma2 ma4 ma5 ma7 ma9 ma10 ma11 ma12 ma15 ns mlen mm p6 wm gw hh Bt 59 (by first | assumption | omega) (by first | assumption | omega) (sp6.2.2) (by decide)) wm_X7_146 wi_X7_passes wsel_X7_passes wn_X7 wc_X7_passes rfl rfl ⟨by decide, by decide, rfl⟩ rfl (Nat.le_of_ble_eq_true rfl) 7 rfl rfl 0 rfl [0, 2] [1] (wr := [(ma1, .inl (E.2.1, 15, .inl (aN Fr)))]) rfl rfl rfl rfl rfl [1, 0, 2] rfl [(mo, .inr (7, [.ref ma0, .ref ma1, .ref ma2, .int (nI ns), .ref ma4, .ref ma5, .int (nI mlen), .ref ma7, .int (bI gw), .ref ma9, .ref ma10, .ref ma11, .ref ma12, .int (nI mm), .int (nI (nx Bt mlen p6 + (if nxc Bt mlen p6 = some 59 then 1 else 0))), .ref ma15, .int (nI wm), .long hh])), (ma1, .inl (E.2.1, 15, .inl (aN Fr))), (ma5, .inl (E.2.1, 120, .inl (aN Bt)))] rfl rfl [.int (bI (decide (nxc Bt mlen p6 = some 59)))] rfl 98 rfl ?_
              refine G_if_ne C dX7_readsLine_98 103 rfl 101 rfl (bI_0 _) (fun h_8 => ?_) (fun h_8 => ?_)
              · have hc6 : nxc Bt mlen p6 = some 59 := by simpa using h_8
                obtain ⟨p7, ep7⟩ : ∃ z, z = nx Bt mlen p6 + 1 := ⟨_, rfl⟩
                have sp7 : Sim q0 Bt mlen p7 (0, 0, c1, c2, n + 1, va_up Cd n (ce (100 * 0 + 10 * (c1 - 97) + (c2 - 97)))) := by rw [ep7]; exact p5_semi ▸ sim_ok sp6 (by simp) hc6 (by rw [p5_semi]; simp)
                refine G_eq (ws' := [(mo, .inr (7, [.ref ma0, .ref ma1, .ref ma2, .int (nI ns), .ref ma4, .ref ma5, .int (nI mlen), .ref ma7, .int (bI gw), .ref ma9, .ref ma10, .ref ma11, .ref ma12, .int (nI mm), .int (nI p7), .ref ma15, .int (nI wm), .long hh])), (ma1, .inl (E.2.1, 15, .inl (aN Fr))), (ma5, .inl (E.2.1, 120, .inl (aN Bt)))]) (by rw [if_pos hc6, ep7]) rfl rfl ?_
                refine G_aload_n C dX7_readsLine_103 rfl 104 rfl ?_
                refine G_getf C dX7_readsLine_104 wF_X7 wf_X7_13 (f := 1) (by decide) (ci := 7) rfl 0 rfl rfl 107 rfl ?_
                refine G_iconst C dX7_readsLine_107 (v := nI 0) rfl 108 rfl ?_
                refine G_dup2 C dX7_readsLine_108 rfl rfl 109 rfl ?_
                refine G_ialdN C dX7_readsLine_109 1 rfl rfl (by omega) 110 rfl ?_
                refine G_iconst C dX7_readsLine_110 (v := nI 1) rfl 111 rfl ?_
                refine G_iadd C dX7_readsLine_111 (v := nI (Fr 0 + 1)) (nI_add _ _) 112 rfl ?_
                refine G_iastN C dX7_readsLine_112 1 rfl rfl (x := Fr 0 + 1) (by omega) [(mo, .inr (7, [.ref ma0, .ref ma1, .ref ma2, .int (nI ns), .ref ma4, .ref ma5, .int (nI mlen), .ref ma7, .int (bI gw), .ref ma9, .ref ma10, .ref ma11, .ref ma12, .int (nI mm), .int (nI p7), .ref ma15, .int (nI wm), .long hh])), (ma1, .inl (E.2.1, 15, .inl (aN (va_up Fr 0 (Fr 0 + 1))))), (ma5, .inl (E.2.1, 120, .inl (aN Bt)))] rfl 113 rfl ?_
                refine G_eq (ws' := [(mo, .inr (7, [.ref ma0, .ref ma1, .ref ma2, .int (nI ns), .ref ma4, .ref ma5, .int (nI mlen), .ref ma7, .int (bI gw), .ref ma9, .ref ma10, .ref ma11, .ref ma12, .int (nI mm), .int (nI p7), .ref ma15, .int (nI wm), .long hh])), (ma1, .inl (E.2.1, 15, .inl (aN (va_up Fr 0 (n + 1))))), (ma5, .inl (E.2.1, 120, .inl (aN Bt)))]) (by rw [hfk.1]) rfl rfl ?_
                refine G_aload_n C dX7_readsLine_113 rfl 114 rfl ?_
                refine G_getf C dX7_readsLine_114 wF_X7 wf_X7_13 (f := 1) (by decide) (ci := 7) rfl 0 rfl rfl 117 rfl ?_
                refine G_aload_n C dX7_readsLine_117 rfl 118 rfl ?_
                refine G_getf C dX7_readsLine_118 wF_X7 wf_X7_13 (f := 1) (by decide) (ci := 7) rfl 0 rfl rfl 121 rfl ?_
                refine G_iconst C dX7_readsLine_121 (v := nI 0) rfl 122 rfl ?_
                refine G_ialdN C dX7_readsLine_122 1 rfl rfl (by omega) 123 rfl ?_
                refine G_top (v' := .int (nI (n + 1))) (by rw [up_s]) ?_
                refine G_bipush C dX7_readsLine_123 (v := nI 100) (by decide) 125 rfl ?_
                refine G_iload_n C dX7_readsLine_125 rfl 126 rfl ?_
                refine G_imul C dX7_readsLine_126 (v := nI 0) (by decide) 127 rfl ?_
                refine G_bipush C dX7_readsLine_127 (v := nI 10) (by decide) 129 rfl ?_
                refine G_iload_n C dX7_readsLine_129 rfl 130 rfl ?_
                refine G_imul C dX7_readsLine_130 (v := nI (10 * (c1 - 97))) (pk_mul _ _) 131 rfl ?_
                refine G_iadd C dX7_readsLine_131 (v := nI (0 + (10 * (c1 - 97)))) (nI_add _ _) 132 rfl ?_
                refine G_iload_n C dX7_readsLine_132 rfl 133 rfl ?_
                refine G_iadd C dX7_readsLine_133 (v := nI (0 + (10 * (c1 - 97)) + (c2 - 97))) (nI_add _ _) 134 rfl ?_
                refine G_iastN C dX7_readsLine_134 1 rfl rfl (x := 0 + (10 * (c1 - 97)) + (c2 - 97)) (by omega) [(mo, .inr (7, [.ref ma0, .ref ma1, .ref ma2, .int (nI ns), .ref ma4, .ref ma5, .int (nI mlen), .ref ma7, .int (bI gw), .ref ma9, .ref ma10, .ref ma11, .ref ma12, .int (nI mm), .int (nI p7), .ref ma15, .int (nI wm), .long hh])), (ma1, .inl (E.2.1, 15, .inl (aN (va_up (va_up Fr 0 (n + 1)) (n + 1) (0 + (10 * (c1 - 97)) + (c2 - 97)))))), (ma5, .inl (E.2.1, 120, .inl (aN Bt)))] rfl 135 rfl ?_
                refine G_iconst C dX7_readsLine_135 (v := nI 1) rfl 136 rfl ?_
                exact G_iret C hr dX7_readsLine_136 (by decide) (true, p7, va_up (va_up Fr 0 (n + 1)) (n + 1) (0 + (10 * (c1 - 97)) + (c2 - 97)), (0, 0, c1, c2, n + 1, va_up Cd n (ce (100 * 0 + 10 * (c1 - 97) + (c2 - 97))))) ⟨fun _ => ⟨sp7, rfl, fok_add hfk h14n (nm_v (by decide) hm1 hm2), (show (0 : Nat) < 4 by decide), (by show pl < p7; have z1 := (nx_le (Bt := Bt) hsim.2.2).1; have z2 := (nx_le (Bt := Bt) sp1.2.2).1; have z3 := (nx_le (Bt := Bt) sp2.2.2).1; have z4 := (nx_le (Bt := Bt) sp3.2.2).1; have z5 := (nx_le (Bt := Bt) sp4.2.2).1; have z7 := (nx_le (Bt := Bt) sp6.2.2).1; omega)⟩, fun h9 => (by cases h9)⟩ rfl rfl
              · refine G_eq (ws' := [(mo, .inr (7, [.ref ma0, .ref ma1, .ref ma2, .int (nI ns), .ref ma4, .ref ma5, .int (nI mlen), .ref ma7, .int (bI gw), .ref ma9, .ref ma10, .ref ma11, .ref ma12, .int (nI mm), .int (nI (nx Bt mlen p6)), .ref ma15, .int (nI wm), .long hh])), (ma1, .inl (E.2.1, 15, .inl (aN Fr))), (ma5, .inl (E.2.1, 120, .inl (aN Bt)))]) (by rw [if_neg (by simpa using h_8)]; rfl) rfl rfl ?_
                refine G_iconst C dX7_readsLine_101 (v := nI 0) rfl 102 rfl ?_
                exact G_iret C hr dX7_readsLine_102 (by decide) (false, nx Bt mlen p6, Fr, (0, sr, cx, cy, n, Cd)) ⟨fun h9 => (by cases h9), fun _ => (sim_bad sp6 (by simp) (Or.inl (by simp)) (fun c9 h9 => p5_bad (fun h8 => by rw [h9, h8] at h_8; simp at h_8)))⟩ rfl rfl
        · refine G_eq (ws' := [(mo, .inr (7, [.ref ma0, .ref ma1, .ref ma2, .int (nI ns), .ref ma4, .ref ma5, .int (nI mlen), .ref ma7, .int (bI gw), .ref ma9, .ref ma10, .ref ma11, .ref ma12, .int (nI mm), .int (nI (nx Bt mlen p2)), .ref ma15, .int (nI wm), .long hh])), (ma1, .inl (E.2.1, 15, .inl (aN Fr))), (ma5, .inl (E.2.1, 120, .inl (aN Bt)))]) (by rw [if_neg (by simpa using h_4)]; rfl) rfl rfl ?_
          refine G_iconst C dX7_readsLine_47 (v := nI 0) rfl 48 rfl ?_
          exact G_iret C hr dX7_readsLine_48 (by decide) (false, nx Bt mlen p2, Fr, (0, sr, cx, cy, n, Cd)) ⟨fun h9 => (by cases h9), fun _ => (sim_bad sp2 (by simp) (Or.inl (by simp)) (fun c9 h9 => p2_bad (fun h8 => by rw [h9, h8] at h_4; simp at h_4)))⟩ rfl rfl
    · have hc1 : nxc Bt mlen pl = some 42 := by simpa using h_2
      obtain ⟨p1, ep1⟩ : ∃ z, z = nx Bt mlen pl + 1 := ⟨_, rfl⟩
      have sp1 : Sim q0 Bt mlen p1 (1, 3, cx, cy, n, Cd) := by rw [ep1]; exact (p0_star h14n) ▸ sim_ok hsim (by simp) hc1 (by rw [p0_star h14n]; simp)
      refine G_eq (ws' := [(mo, .inr (7, [.ref ma0, .ref ma1, .ref ma2, .int (nI ns), .ref ma4, .ref ma5, .int (nI mlen), .ref ma7, .int (bI gw), .ref ma9, .ref ma10, .ref ma11, .ref ma12, .int (nI mm), .int (nI p1), .ref ma15, .int (nI wm), .long hh])), (ma1, .inl (E.2.1, 15, .inl (aN Fr))), (ma5, .inl (E.2.1, 120, .inl (aN Bt)))]) (by rw [if_pos hc1, ep1]) rfl rfl ?_
      refine G_iconst C dX7_readsLine_22 (v := nI 3) rfl 23 rfl ?_
      refine G_goto C dX7_readsLine_23 27 rfl ?_
      refine G_istore_n C dX7_readsLine_27 (by decide) [(1, .int (nI 3)), (0, .ref mo)] rfl 28 rfl ?_
      refine G_aload_n C dX7_readsLine_28 rfl 29 rfl ?_
      refine G_cV C dX7_readsLine_29 (c_X7_namePassed l E mo ma0 ma1 ma2 ma4 ma5 ma7 ma9 ma10 ma11 ma12 ma15 ns mlen mm p1 wm gw hh Bt (by first | assumption | omega) (by first | assumption | omega) (sp1.2.2)) wm_X7_149 wi_X7_namePassed wsel_X7_namePassed wn_X7 wc_X7_namePassed rfl rfl ⟨by decide, by decide, rfl⟩ rfl (Nat.le_of_ble_eq_true rfl) 7 rfl rfl 0 rfl [0, 2] [1] (wr := [(ma1, .inl (E.2.1, 15, .inl (aN Fr)))]) rfl rfl rfl rfl rfl [1, 0, 2] rfl [(mo, .inr (7, [.ref ma0, .ref ma1, .ref ma2, .int (nI ns), .ref ma4, .ref ma5, .int (nI mlen), .ref ma7, .int (bI gw), .ref ma9, .ref ma10, .ref ma11, .ref ma12, .int (nI mm), .int (nI (nx Bt mlen p1 + (if nmo Bt mlen p1 = none then 0 else 1))), .ref ma15, .int (nI wm), .long hh])), (ma1, .inl (E.2.1, 15, .inl (aN Fr))), (ma5, .inl (E.2.1, 120, .inl (aN Bt)))] rfl rfl [.int (oI (nmo Bt mlen p1))] rfl 32 rfl ?_
      refine G_istore_n C dX7_readsLine_32 (by decide) [(2, .int (oI (nmo Bt mlen p1))), (1, .int (nI 3)), (0, .ref mo)] rfl 33 rfl ?_
      refine G_iload_n C dX7_readsLine_33 rfl 34 rfl ?_
      refine G_iconst C dX7_readsLine_34 (v := oI none) rfl 35 rfl ?_
      refine G_icmp_eq C dX7_readsLine_35 47 rfl 38 rfl (oI_none (fun g h9 => by obtain ⟨c9, -, h8, h7⟩ := nmo_s h9; have := nmc_of h8; omega)) (fun h_3 => ?_) (fun h_3 => ?_)
      · refine G_eq (ws' := [(mo, .inr (7, [.ref ma0, .ref ma1, .ref ma2, .int (nI ns), .ref ma4, .ref ma5, .int (nI mlen), .ref ma7, .int (bI gw), .ref ma9, .ref ma10, .ref ma11, .ref ma12, .int (nI mm), .int (nI (nx Bt mlen p1)), .ref ma15, .int (nI wm), .long hh])), (ma1, .inl (E.2.1, 15, .inl (aN Fr))), (ma5, .inl (E.2.1, 120, .inl (aN Bt)))]) (by rw [if_pos h_3]; rfl) rfl rfl ?_
        refine G_iconst C dX7_readsLine_47 (v := nI 0) rfl 48 rfl ?_
        exact G_iret C hr dX7_readsLine_48 (by decide) (false, nx Bt mlen p1, Fr, (0, sr, cx, cy, n, Cd)) ⟨fun h9 => (by cases h9), fun _ => (sim_bad sp1 (by simp) (Or.inl (by simp)) (fun c9 h9 => p1_bad (nmo_n h_3 c9 h9)))⟩ rfl rfl
      · obtain ⟨x1, hx1⟩ := Option.ne_none_iff_exists'.mp h_3
        obtain ⟨c1, hn1, hm1, e1⟩ := nmo_s hx1
        have hr1 := nmc_of hm1
        obtain ⟨p2, ep2⟩ : ∃ z, z = nx Bt mlen p1 + 1 := ⟨_, rfl⟩
        have sp2 : Sim q0 Bt mlen p2 (2, 3, c1, cy, n, Cd) := by rw [ep2]; exact (p1_name hm1) ▸ sim_ok sp1 (by simp) hn1 (by rw [p1_name hm1]; simp)
        refine G_eq (ws' := [(mo, .inr (7, [.ref ma0, .ref ma1, .ref ma2, .int (nI ns), .ref ma4, .ref ma5, .int (nI mlen), .ref ma7, .int (bI gw), .ref ma9, .ref ma10, .ref ma11, .ref ma12, .int (nI mm), .int (nI p2), .ref ma15, .int (nI wm), .long hh])), (ma1, .inl (E.2.1, 15, .inl (aN Fr))), (ma5, .inl (E.2.1, 120, .inl (aN Bt)))]) (by rw [if_neg (by rw [hx1]; simp), ep2]) rfl rfl ?_
        refine G_eq (ws' := [(mo, .inr (7, [.ref ma0, .ref ma1, .ref ma2, .int (nI ns), .ref ma4, .ref ma5, .int (nI mlen), .ref ma7, .int (bI gw), .ref ma9, .ref ma10, .ref ma11, .ref ma12, .int (nI mm), .int (nI p2), .ref ma15, .int (nI wm), .long hh])), (ma1, .inl (E.2.1, 15, .inl (aN Fr))), (ma5, .inl (E.2.1, 120, .inl (aN Bt)))]) (L' := [(2, .int (nI (c1 - 97))), (1, .int (nI 3)), (0, .ref mo)]) rfl (by rw [hx1, e1]; rfl) rfl ?_
        refine G_aload_n C dX7_readsLine_38 rfl 39 rfl ?_
        refine G_bipush C dX7_readsLine_39 (v := nI 61) (by decide) 41 rfl ?_
        refine G_cV C dX7_readsLine_41 (c_X7_passes l E mo ma0 ma1 ma2 ma4 ma5 ma7 ma9 ma10 ma11 ma12 ma15 ns mlen mm p2 wm gw hh Bt 61 (by first | assumption | omega) (by first | assumption | omega) (sp2.2.2) (by decide)) wm_X7_146 wi_X7_passes wsel_X7_passes wn_X7 wc_X7_passes rfl rfl ⟨by decide, by decide, rfl⟩ rfl (Nat.le_of_ble_eq_true rfl) 7 rfl rfl 0 rfl [0, 2] [1] (wr := [(ma1, .inl (E.2.1, 15, .inl (aN Fr)))]) rfl rfl rfl rfl rfl [1, 0, 2] rfl [(mo, .inr (7, [.ref ma0, .ref ma1, .ref ma2, .int (nI ns), .ref ma4, .ref ma5, .int (nI mlen), .ref ma7, .int (bI gw), .ref ma9, .ref ma10, .ref ma11, .ref ma12, .int (nI mm), .int (nI (nx Bt mlen p2 + (if nxc Bt mlen p2 = some 61 then 1 else 0))), .ref ma15, .int (nI wm), .long hh])), (ma1, .inl (E.2.1, 15, .inl (aN Fr))), (ma5, .inl (E.2.1, 120, .inl (aN Bt)))] rfl rfl [.int (bI (decide (nxc Bt mlen p2 = some 61)))] rfl 44 rfl ?_
        refine G_if_ne C dX7_readsLine_44 49 rfl 47 rfl (bI_0 _) (fun h_4 => ?_) (fun h_4 => ?_)
        · have hc2 : nxc Bt mlen p2 = some 61 := by simpa using h_4
          have e2q : pstep (2, 3, c1, cy, n, Cd) 61 = (4, 3, c1, cy, n, Cd) := p2_eq
          obtain ⟨p3, ep3⟩ : ∃ z, z = nx Bt mlen p2 + 1 := ⟨_, rfl⟩
          have sp3 : Sim q0 Bt mlen p3 (4, 3, c1, cy, n, Cd) := by rw [ep3]; exact e2q ▸ sim_ok sp2 (by simp) hc2 (by rw [e2q]; simp)
          refine G_eq (ws' := [(mo, .inr (7, [.ref ma0, .ref ma1, .ref ma2, .int (nI ns), .ref ma4, .ref ma5, .int (nI mlen), .ref ma7, .int (bI gw), .ref ma9, .ref ma10, .ref ma11, .ref ma12, .int (nI mm), .int (nI p3), .ref ma15, .int (nI wm), .long hh])), (ma1, .inl (E.2.1, 15, .inl (aN Fr))), (ma5, .inl (E.2.1, 120, .inl (aN Bt)))]) (by rw [if_pos hc2, ep3]) rfl rfl ?_
          refine G_iload_n C dX7_readsLine_49 rfl 50 rfl ?_
          refine G_iconst C dX7_readsLine_50 (v := nI 1) rfl 51 rfl ?_
          refine G_icmp_ne_t C dX7_readsLine_51 82 rfl (by decide) ?_
          refine G_aload_n C dX7_readsLine_82 rfl 83 rfl ?_
          refine G_cV C dX7_readsLine_83 (c_X7_namePassed l E mo ma0 ma1 ma2 ma4 ma5 ma7 ma9 ma10 ma11 ma12 ma15 ns mlen mm p3 wm gw hh Bt (by first | assumption | omega) (by first | assumption | omega) (sp3.2.2)) wm_X7_149 wi_X7_namePassed wsel_X7_namePassed wn_X7 wc_X7_namePassed rfl rfl ⟨by decide, by decide, rfl⟩ rfl (Nat.le_of_ble_eq_true rfl) 7 rfl rfl 0 rfl [0, 2] [1] (wr := [(ma1, .inl (E.2.1, 15, .inl (aN Fr)))]) rfl rfl rfl rfl rfl [1, 0, 2] rfl [(mo, .inr (7, [.ref ma0, .ref ma1, .ref ma2, .int (nI ns), .ref ma4, .ref ma5, .int (nI mlen), .ref ma7, .int (bI gw), .ref ma9, .ref ma10, .ref ma11, .ref ma12, .int (nI mm), .int (nI (nx Bt mlen p3 + (if nmo Bt mlen p3 = none then 0 else 1))), .ref ma15, .int (nI wm), .long hh])), (ma1, .inl (E.2.1, 15, .inl (aN Fr))), (ma5, .inl (E.2.1, 120, .inl (aN Bt)))] rfl rfl [.int (oI (nmo Bt mlen p3))] rfl 86 rfl ?_
          refine G_istore_n C dX7_readsLine_86 (by decide) [(3, .int (oI (nmo Bt mlen p3))), (2, .int (nI (c1 - 97))), (1, .int (nI 3)), (0, .ref mo)] rfl 87 rfl ?_
          refine G_iload_n C dX7_readsLine_87 rfl 88 rfl ?_
          refine G_iconst C dX7_readsLine_88 (v := oI none) rfl 89 rfl ?_
          refine G_icmp_eq C dX7_readsLine_89 101 rfl 92 rfl (oI_none (fun g h9 => by obtain ⟨c9, -, h8, h7⟩ := nmo_s h9; have := nmc_of h8; omega)) (fun h_7 => ?_) (fun h_7 => ?_)
          · refine G_eq (ws' := [(mo, .inr (7, [.ref ma0, .ref ma1, .ref ma2, .int (nI ns), .ref ma4, .ref ma5, .int (nI mlen), .ref ma7, .int (bI gw), .ref ma9, .ref ma10, .ref ma11, .ref ma12, .int (nI mm), .int (nI (nx Bt mlen p3)), .ref ma15, .int (nI wm), .long hh])), (ma1, .inl (E.2.1, 15, .inl (aN Fr))), (ma5, .inl (E.2.1, 120, .inl (aN Bt)))]) (by rw [if_pos h_7]; rfl) rfl rfl ?_
            refine G_iconst C dX7_readsLine_101 (v := nI 0) rfl 102 rfl ?_
            exact G_iret C hr dX7_readsLine_102 (by decide) (false, nx Bt mlen p3, Fr, (0, sr, cx, cy, n, Cd)) ⟨fun h9 => (by cases h9), fun _ => (sim_bad sp3 (by simp) (Or.inl (by simp)) (fun c9 h9 => p4_bad (nmo_n h_7 c9 h9)))⟩ rfl rfl
          · obtain ⟨x2, hx2⟩ := Option.ne_none_iff_exists'.mp h_7
            obtain ⟨c2, hn2, hm2, e2⟩ := nmo_s hx2
            have hr2 := nmc_of hm2
            obtain ⟨p6, ep6⟩ : ∃ z, z = nx Bt mlen p3 + 1 := ⟨_, rfl⟩
            have sp6 : Sim q0 Bt mlen p6 (5, 3, c1, c2, n, Cd) := by rw [ep6]; exact (p4_name hm2) ▸ sim_ok sp3 (by simp) hn2 (by rw [p4_name hm2]; simp)
            refine G_eq (ws' := [(mo, .inr (7, [.ref ma0, .ref ma1, .ref ma2, .int (nI ns), .ref ma4, .ref ma5, .int (nI mlen), .ref ma7, .int (bI gw), .ref ma9, .ref ma10, .ref ma11, .ref ma12, .int (nI mm), .int (nI p6), .ref ma15, .int (nI wm), .long hh])), (ma1, .inl (E.2.1, 15, .inl (aN Fr))), (ma5, .inl (E.2.1, 120, .inl (aN Bt)))]) (by rw [if_neg (by rw [hx2]; simp), ep6]) rfl rfl ?_
            refine G_eq (ws' := [(mo, .inr (7, [.ref ma0, .ref ma1, .ref ma2, .int (nI ns), .ref ma4, .ref ma5, .int (nI mlen), .ref ma7, .int (bI gw), .ref ma9, .ref ma10, .ref ma11, .ref ma12, .int (nI mm), .int (nI p6), .ref ma15, .int (nI wm), .long hh])), (ma1, .inl (E.2.1, 15, .inl (aN Fr))), (ma5, .inl (E.2.1, 120, .inl (aN Bt)))]) (L' := [(3, .int (nI (c2 - 97))), (2, .int (nI (c1 - 97))), (1, .int (nI 3)), (0, .ref mo)]) rfl (by rw [hx2, e2]; rfl) rfl ?_
            refine G_aload_n C dX7_readsLine_92 rfl 93 rfl ?_
            refine G_bipush C dX7_readsLine_93 (v := nI 59) (by decide) 95 rfl ?_
            refine G_cV C dX7_readsLine_95 (c_X7_passes l E mo ma0 ma1 ma2 ma4 ma5 ma7 ma9 ma10 ma11 ma12 ma15 ns mlen mm p6 wm gw hh Bt 59 (by first | assumption | omega) (by first | assumption | omega) (sp6.2.2) (by decide)) wm_X7_146 wi_X7_passes wsel_X7_passes wn_X7 wc_X7_passes rfl rfl ⟨by decide, by decide, rfl⟩ rfl (Nat.le_of_ble_eq_true rfl) 7 rfl rfl 0 rfl [0, 2] [1] (wr := [(ma1, .inl (E.2.1, 15, .inl (aN Fr)))]) rfl rfl rfl rfl rfl [1, 0, 2] rfl [(mo, .inr (7, [.ref ma0, .ref ma1, .ref ma2, .int (nI ns), .ref ma4, .ref ma5, .int (nI mlen), .ref ma7, .int (bI gw), .ref ma9, .ref ma10, .ref ma11, .ref ma12, .int (nI mm), .int (nI (nx Bt mlen p6 + (if nxc Bt mlen p6 = some 59 then 1 else 0))), .ref ma15, .int (nI wm), .long hh])), (ma1, .inl (E.2.1, 15, .inl (aN Fr))), (ma5, .inl (E.2.1, 120, .inl (aN Bt)))] rfl rfl [.int (bI (decide (nxc Bt mlen p6 = some 59)))] rfl 98 rfl ?_
            refine G_if_ne C dX7_readsLine_98 103 rfl 101 rfl (bI_0 _) (fun h_8 => ?_) (fun h_8 => ?_)
            · have hc6 : nxc Bt mlen p6 = some 59 := by simpa using h_8
              obtain ⟨p7, ep7⟩ : ∃ z, z = nx Bt mlen p6 + 1 := ⟨_, rfl⟩
              have sp7 : Sim q0 Bt mlen p7 (0, 3, c1, c2, n + 1, va_up Cd n (ce (100 * 3 + 10 * (c1 - 97) + (c2 - 97)))) := by rw [ep7]; exact p5_semi ▸ sim_ok sp6 (by simp) hc6 (by rw [p5_semi]; simp)
              refine G_eq (ws' := [(mo, .inr (7, [.ref ma0, .ref ma1, .ref ma2, .int (nI ns), .ref ma4, .ref ma5, .int (nI mlen), .ref ma7, .int (bI gw), .ref ma9, .ref ma10, .ref ma11, .ref ma12, .int (nI mm), .int (nI p7), .ref ma15, .int (nI wm), .long hh])), (ma1, .inl (E.2.1, 15, .inl (aN Fr))), (ma5, .inl (E.2.1, 120, .inl (aN Bt)))]) (by rw [if_pos hc6, ep7]) rfl rfl ?_
              refine G_aload_n C dX7_readsLine_103 rfl 104 rfl ?_
              refine G_getf C dX7_readsLine_104 wF_X7 wf_X7_13 (f := 1) (by decide) (ci := 7) rfl 0 rfl rfl 107 rfl ?_
              refine G_iconst C dX7_readsLine_107 (v := nI 0) rfl 108 rfl ?_
              refine G_dup2 C dX7_readsLine_108 rfl rfl 109 rfl ?_
              refine G_ialdN C dX7_readsLine_109 1 rfl rfl (by omega) 110 rfl ?_
              refine G_iconst C dX7_readsLine_110 (v := nI 1) rfl 111 rfl ?_
              refine G_iadd C dX7_readsLine_111 (v := nI (Fr 0 + 1)) (nI_add _ _) 112 rfl ?_
              refine G_iastN C dX7_readsLine_112 1 rfl rfl (x := Fr 0 + 1) (by omega) [(mo, .inr (7, [.ref ma0, .ref ma1, .ref ma2, .int (nI ns), .ref ma4, .ref ma5, .int (nI mlen), .ref ma7, .int (bI gw), .ref ma9, .ref ma10, .ref ma11, .ref ma12, .int (nI mm), .int (nI p7), .ref ma15, .int (nI wm), .long hh])), (ma1, .inl (E.2.1, 15, .inl (aN (va_up Fr 0 (Fr 0 + 1))))), (ma5, .inl (E.2.1, 120, .inl (aN Bt)))] rfl 113 rfl ?_
              refine G_eq (ws' := [(mo, .inr (7, [.ref ma0, .ref ma1, .ref ma2, .int (nI ns), .ref ma4, .ref ma5, .int (nI mlen), .ref ma7, .int (bI gw), .ref ma9, .ref ma10, .ref ma11, .ref ma12, .int (nI mm), .int (nI p7), .ref ma15, .int (nI wm), .long hh])), (ma1, .inl (E.2.1, 15, .inl (aN (va_up Fr 0 (n + 1))))), (ma5, .inl (E.2.1, 120, .inl (aN Bt)))]) (by rw [hfk.1]) rfl rfl ?_
              refine G_aload_n C dX7_readsLine_113 rfl 114 rfl ?_
              refine G_getf C dX7_readsLine_114 wF_X7 wf_X7_13 (f := 1) (by decide) (ci := 7) rfl 0 rfl rfl 117 rfl ?_
              refine G_aload_n C dX7_readsLine_117 rfl 118 rfl ?_
              refine G_getf C dX7_readsLine_118 wF_X7 wf_X7_13 (f := 1) (by decide) (ci := 7) rfl 0 rfl rfl 121 rfl ?_
              refine G_iconst C dX7_readsLine_121 (v := nI 0) rfl 122 rfl ?_
              refine G_ialdN C dX7_readsLine_122 1 rfl rfl (by omega) 123 rfl ?_
              refine G_top (v' := .int (nI (n + 1))) (by rw [up_s]) ?_
              refine G_bipush C dX7_readsLine_123 (v := nI 100) (by decide) 125 rfl ?_
              refine G_iload_n C dX7_readsLine_125 rfl 126 rfl ?_
              refine G_imul C dX7_readsLine_126 (v := nI 300) (by decide) 127 rfl ?_
              refine G_bipush C dX7_readsLine_127 (v := nI 10) (by decide) 129 rfl ?_
              refine G_iload_n C dX7_readsLine_129 rfl 130 rfl ?_
              refine G_imul C dX7_readsLine_130 (v := nI (10 * (c1 - 97))) (pk_mul _ _) 131 rfl ?_
              refine G_iadd C dX7_readsLine_131 (v := nI (300 + (10 * (c1 - 97)))) (nI_add _ _) 132 rfl ?_
              refine G_iload_n C dX7_readsLine_132 rfl 133 rfl ?_
              refine G_iadd C dX7_readsLine_133 (v := nI (300 + (10 * (c1 - 97)) + (c2 - 97))) (nI_add _ _) 134 rfl ?_
              refine G_iastN C dX7_readsLine_134 1 rfl rfl (x := 300 + (10 * (c1 - 97)) + (c2 - 97)) (by omega) [(mo, .inr (7, [.ref ma0, .ref ma1, .ref ma2, .int (nI ns), .ref ma4, .ref ma5, .int (nI mlen), .ref ma7, .int (bI gw), .ref ma9, .ref ma10, .ref ma11, .ref ma12, .int (nI mm), .int (nI p7), .ref ma15, .int (nI wm), .long hh])), (ma1, .inl (E.2.1, 15, .inl (aN (va_up (va_up Fr 0 (n + 1)) (n + 1) (300 + (10 * (c1 - 97)) + (c2 - 97)))))), (ma5, .inl (E.2.1, 120, .inl (aN Bt)))] rfl 135 rfl ?_
              refine G_iconst C dX7_readsLine_135 (v := nI 1) rfl 136 rfl ?_
              exact G_iret C hr dX7_readsLine_136 (by decide) (true, p7, va_up (va_up Fr 0 (n + 1)) (n + 1) (300 + (10 * (c1 - 97)) + (c2 - 97)), (0, 3, c1, c2, n + 1, va_up Cd n (ce (100 * 3 + 10 * (c1 - 97) + (c2 - 97))))) ⟨fun _ => ⟨sp7, rfl, fok_add hfk h14n (nm_v (by decide) hm1 hm2), (show (3 : Nat) < 4 by decide), (by show pl < p7; have z1 := (nx_le (Bt := Bt) hsim.2.2).1; have z2 := (nx_le (Bt := Bt) sp1.2.2).1; have z3 := (nx_le (Bt := Bt) sp2.2.2).1; have z4 := (nx_le (Bt := Bt) sp3.2.2).1; have z7 := (nx_le (Bt := Bt) sp6.2.2).1; omega)⟩, fun h9 => (by cases h9)⟩ rfl rfl
            · refine G_eq (ws' := [(mo, .inr (7, [.ref ma0, .ref ma1, .ref ma2, .int (nI ns), .ref ma4, .ref ma5, .int (nI mlen), .ref ma7, .int (bI gw), .ref ma9, .ref ma10, .ref ma11, .ref ma12, .int (nI mm), .int (nI (nx Bt mlen p6)), .ref ma15, .int (nI wm), .long hh])), (ma1, .inl (E.2.1, 15, .inl (aN Fr))), (ma5, .inl (E.2.1, 120, .inl (aN Bt)))]) (by rw [if_neg (by simpa using h_8)]; rfl) rfl rfl ?_
              refine G_iconst C dX7_readsLine_101 (v := nI 0) rfl 102 rfl ?_
              exact G_iret C hr dX7_readsLine_102 (by decide) (false, nx Bt mlen p6, Fr, (0, sr, cx, cy, n, Cd)) ⟨fun h9 => (by cases h9), fun _ => (sim_bad sp6 (by simp) (Or.inl (by simp)) (fun c9 h9 => p5_bad (fun h8 => by rw [h9, h8] at h_8; simp at h_8)))⟩ rfl rfl
        · refine G_eq (ws' := [(mo, .inr (7, [.ref ma0, .ref ma1, .ref ma2, .int (nI ns), .ref ma4, .ref ma5, .int (nI mlen), .ref ma7, .int (bI gw), .ref ma9, .ref ma10, .ref ma11, .ref ma12, .int (nI mm), .int (nI (nx Bt mlen p2)), .ref ma15, .int (nI wm), .long hh])), (ma1, .inl (E.2.1, 15, .inl (aN Fr))), (ma5, .inl (E.2.1, 120, .inl (aN Bt)))]) (by rw [if_neg (by simpa using h_4)]; rfl) rfl rfl ?_
          refine G_iconst C dX7_readsLine_47 (v := nI 0) rfl 48 rfl ?_
          exact G_iret C hr dX7_readsLine_48 (by decide) (false, nx Bt mlen p2, Fr, (0, sr, cx, cy, n, Cd)) ⟨fun h9 => (by cases h9), fun _ => (sim_bad sp2 (by simp) (Or.inl (by simp)) (fun c9 h9 => p2_bad (fun h8 => by rw [h9, h8] at h_4; simp at h_4)))⟩ rfl rfl
  · refine G_iconst C dX7_readsLine_11 (v := nI 0) rfl 12 rfl ?_
    exact G_iret C hr dX7_readsLine_12 (by decide) (false, pl, Fr, (0, sr, cx, cy, n, Cd)) ⟨fun h9 => (by cases h9), fun _ => (by have e9 := sim_bad hsim (by simp) (Or.inr hcn) (fun c9 _ => p0_full (by omega)); rw [hnx] at e9; exact e9)⟩ rfl rfl
