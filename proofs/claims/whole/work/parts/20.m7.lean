theorem pv_0 {sr cx cy : Nat} {Cd : Nat → Nat} (h : sr < 4) : pv (0, sr, cx, cy, 0, Cd) := by
  refine ⟨?_, ?_, ?_, ?_, ?_, ?_⟩ <;> simp only <;> omega
theorem pstep_lt (q : pS) (c : Nat) (h : pv q) : (pstep q c).1 < 2 ^ 31 := by
  have h1 : (pstep q c).1 ≤ 6 := by
    unfold pstep
    repeat' split
    all_goals simp
  omega
set_option maxHeartbeats 4000000 in
set_option maxRecDepth 100000 in
theorem c_X5_length (l : Launch) (E : gE) (to tb o len sr cx cy : Nat)  : FD l E yX5_length cX5_length 1 (some .int) { frames := 0, cells := 0, slots := 0, locals := 0 } [.ref to] [(to, .inr (5, [.ref tb, .ref o, .int (nI len), .int (nI sr), .int (fld cx), .int (fld cy)]))] (some (.int (nI len))) [(to, .inr (5, [.ref tb, .ref o, .int (nI len), .int (nI sr), .int (fld cx), .int (fld cy)]))] := by
  refine Fn_ofL (own := RX5) (by decide) rfl rfl [(0, .ref to)] rfl ?_
  intro p e s m below meth c A C hr hnm
  refine G_aload_n C dX5_length_0 rfl 1 rfl ?_
  refine G_getf C dX5_length_1 wF_X5 wf_X5_22 (f := 2) (by decide) (ci := 5) rfl 0 rfl rfl 4 rfl ?_
  exact G_iret C hr dX5_length_4 rfl () trivial rfl rfl

set_option maxHeartbeats 4000000 in
set_option maxRecDepth 100000 in
theorem c_X5_parsed (l : Launch) (E : gE) (to tb o len sr cx cy : Nat)  : FD l E yX5_parsed cX5_parsed 1 (some (.object "JoinedNames$Lines")) { frames := 0, cells := 0, slots := 0, locals := 0 } [.ref to] [(to, .inr (5, [.ref tb, .ref o, .int (nI len), .int (nI sr), .int (fld cx), .int (fld cy)]))] (some (.ref o)) [(to, .inr (5, [.ref tb, .ref o, .int (nI len), .int (nI sr), .int (fld cx), .int (fld cy)]))] := by
  refine Fn_ofL (own := RX5) (by decide) rfl rfl [(0, .ref to)] rfl ?_
  intro p e s m below meth c A C hr hnm
  refine G_aload_n C dX5_parsed_0 rfl 1 rfl ?_
  refine G_getf C dX5_parsed_1 wF_X5 wf_X5_18 (f := 1) (by decide) (ci := 5) rfl 0 rfl rfl 4 rfl ?_
  exact G_aret C hr dX5_parsed_4 () trivial rfl rfl

set_option maxHeartbeats 4000000 in
set_option maxRecDepth 100000 in
theorem c_X5_append (l : Launch) (E : gE) (to tb o len sr cx cy : Nat) (Bt : Nat → Nat) (cb : Nat) (hl : len < 120) : FD l E yX5_append cX5_append 2 none { frames := 0, cells := 0, slots := 0, locals := 0 } [.ref to, .int (nI cb)] [(to, .inr (5, [.ref tb, .ref o, .int (nI len), .int (nI sr), .int (fld cx), .int (fld cy)])), (tb, .inl (E.2.1, 120, .inl (aN Bt)))] none [(to, .inr (5, [.ref tb, .ref o, .int (nI (len + 1)), .int (nI sr), .int (fld cx), .int (fld cy)])), (tb, .inl (E.2.1, 120, .inl (aN (va_up Bt len cb))))] := by
  refine Fn_ofL (own := RX5) (by decide) rfl rfl [(0, .ref to), (1, .int (nI cb))] rfl ?_
  intro p e s m below meth c A C hr hnm
  refine G_aload_n C dX5_append_0 rfl 1 rfl ?_
  refine G_getf C dX5_append_1 wF_X5 wf_X5_22 (f := 2) (by decide) (ci := 5) rfl 0 rfl rfl 4 rfl ?_
  refine G_bipush C dX5_append_4 (v := nI 120) (by decide) 6 rfl ?_
  refine G_icmp_ge_f C dX5_append_6 29 rfl 9 rfl (by rw [nI_leI (by omega) (by omega)]; omega) ?_
  refine G_aload_n C dX5_append_9 rfl 10 rfl ?_
  refine G_getf C dX5_append_10 wF_X5 wf_X5_9 (f := 0) (by decide) (ci := 5) rfl 0 rfl rfl 13 rfl ?_
  refine G_aload_n C dX5_append_13 rfl 14 rfl ?_
  refine G_getf C dX5_append_14 wF_X5 wf_X5_22 (f := 2) (by decide) (ci := 5) rfl 0 rfl rfl 17 rfl ?_
  refine G_iload_n C dX5_append_17 rfl 18 rfl ?_
  refine G_iastN C dX5_append_18 1 rfl rfl (x := cb) (by omega) [(to, .inr (5, [.ref tb, .ref o, .int (nI len), .int (nI sr), .int (fld cx), .int (fld cy)])), (tb, .inl (E.2.1, 120, .inl (aN (va_up Bt len cb))))] rfl 19 rfl ?_
  refine G_aload_n C dX5_append_19 rfl 20 rfl ?_
  refine G_dup C dX5_append_20 rfl 21 rfl ?_
  refine G_getf C dX5_append_21 wF_X5 wf_X5_22 (f := 2) (by decide) (ci := 5) rfl 0 rfl rfl 24 rfl ?_
  refine G_iconst C dX5_append_24 (v := nI 1) rfl 25 rfl ?_
  refine G_iadd C dX5_append_25 (v := nI (len + 1)) (nI_add _ _) 26 rfl ?_
  refine G_putf C dX5_append_26 wF_X5 wf_X5_22 (f := 2) (by decide) (ci := 5) rfl tyX5_ok nmX5 rfl 0 rfl rfl rfl (Nat.le_of_ble_eq_true rfl) [(to, .inr (5, [.ref tb, .ref o, .int (nI (len + 1)), .int (nI sr), .int (fld cx), .int (fld cy)])), (tb, .inl (E.2.1, 120, .inl (aN (va_up Bt len cb))))] rfl 29 rfl ?_
  exact G_vret C hr dX5_append_29 () trivial rfl rfl

set_option maxHeartbeats 4000000 in
set_option maxRecDepth 100000 in
theorem c_X5_empty (l : Launch) (E : gE) (to tb o len sr cx cy : Nat)  : FD l E yX5_empty cX5_empty 1 none { frames := 0, cells := 0, slots := 0, locals := 0 } [.ref to] [(to, .inr (5, [.ref tb, .ref o, .int (nI len), .int (nI sr), .int (fld cx), .int (fld cy)]))] none [(to, .inr (5, [.ref tb, .ref o, .int (nI 0), .int (nI sr), .int (fld cx), .int (fld cy)]))] := by
  refine Fn_ofL (own := RX5) (by decide) rfl rfl [(0, .ref to)] rfl ?_
  intro p e s m below meth c A C hr hnm
  refine G_aload_n C dX5_empty_0 rfl 1 rfl ?_
  refine G_iconst C dX5_empty_1 (v := nI 0) rfl 2 rfl ?_
  refine G_putf C dX5_empty_2 wF_X5 wf_X5_22 (f := 2) (by decide) (ci := 5) rfl tyX5_ok nmX5 rfl 0 rfl rfl rfl (Nat.le_of_ble_eq_true rfl) [(to, .inr (5, [.ref tb, .ref o, .int (nI 0), .int (nI sr), .int (fld cx), .int (fld cy)]))] rfl 5 rfl ?_
  exact G_vret C hr dX5_empty_5 () trivial rfl rfl

set_option maxHeartbeats 4000000 in
set_option maxRecDepth 100000 in
theorem c_X5_behindLeftName (l : Launch) (E : gE) (to tb o len sr cx cy : Nat) (cb : Nat) (hcb : cb < 128) : FD l E yX5_behindLeftName cX5_behindLeftName 2 (some .int) { frames := 2, cells := 0, slots := 0, locals := 41 } [.ref to, .int (nI cb)] [(to, .inr (5, [.ref tb, .ref o, .int (nI len), .int (nI sr), .int (fld cx), .int (fld cy)]))] (some (.int (nI (if nmc cb = true then 2 else 6)))) [(to, .inr (5, [.ref tb, .ref o, .int (nI len), .int (nI sr), .int (fld cb), .int (fld cy)]))] := by
  refine Fn_ofL (own := RX5) (by decide) rfl rfl [(0, .ref to), (1, .int (nI cb))] rfl ?_
  intro p e s m below meth c A C hr hnm
  refine G_aload_n C dX5_behindLeftName_0 rfl 1 rfl ?_
  refine G_iload_n C dX5_behindLeftName_1 rfl 2 rfl ?_
  refine G_bipush C dX5_behindLeftName_2 (v := nI 97) (by decide) 4 rfl ?_
  refine G_isub C dX5_behindLeftName_4 (v := fld cb) rfl 5 rfl ?_
  refine G_putf C dX5_behindLeftName_5 wF_X5 wf_X5_56 (f := 4) (by decide) (ci := 5) rfl tyX5_ok nmX5 rfl 0 rfl rfl rfl (Nat.le_of_ble_eq_true rfl) [(to, .inr (5, [.ref tb, .ref o, .int (nI len), .int (nI sr), .int (fld cb), .int (fld cy)]))] rfl 8 rfl ?_
  refine G_aload_n C dX5_behindLeftName_8 rfl 9 rfl ?_
  refine G_getf C dX5_behindLeftName_9 wF_X5 wf_X5_56 (f := 4) (by decide) (ci := 5) rfl 0 rfl rfl 12 rfl ?_
  refine G_cSN C dX5_behindLeftName_12 (c_X6_isName l E (fld cb) ) wq_X5_59 wt_X6_isName wn_X6 wc_X6_isName rfl rfl ⟨by decide, by decide, rfl⟩ rfl (Nat.le_of_ble_eq_true rfl) [] [0] (wr := [(to, .inr (5, [.ref tb, .ref o, .int (nI len), .int (nI sr), .int (fld cb), .int (fld cy)]))]) rfl rfl rfl rfl rfl [0] rfl [(to, .inr (5, [.ref tb, .ref o, .int (nI len), .int (nI sr), .int (fld cb), .int (fld cy)]))] rfl rfl [.int (bI (inb (fld cb) 10))] rfl 15 rfl ?_
  refine G_if_eq C dX5_behindLeftName_15 22 rfl 18 rfl (show bI (inb (fld cb) 10) = 0 ↔ nmc cb = false by rw [inb_fld cb hcb]; exact bI_0 _) (fun h_1 => ?_) (fun h_1 => ?_)
  · refine G_bipush C dX5_behindLeftName_22 (v := nI 6) (by decide) 24 rfl ?_
    exact G_iret C hr dX5_behindLeftName_24 rfl () trivial (by simp [h_1]) rfl
  · refine G_iconst C dX5_behindLeftName_18 (v := nI 2) rfl 19 rfl ?_
    refine G_goto C dX5_behindLeftName_19 24 rfl ?_
    exact G_iret C hr dX5_behindLeftName_24 rfl () trivial (by simp [h_1]) rfl

set_option maxHeartbeats 4000000 in
set_option maxRecDepth 100000 in
theorem c_X5_behindRightName (l : Launch) (E : gE) (to tb o len sr cx cy : Nat) (cb : Nat) (hcb : cb < 128) : FD l E yX5_behindRightName cX5_behindRightName 2 (some .int) { frames := 2, cells := 0, slots := 0, locals := 41 } [.ref to, .int (nI cb)] [(to, .inr (5, [.ref tb, .ref o, .int (nI len), .int (nI sr), .int (fld cx), .int (fld cy)]))] (some (.int (nI (if nmc cb = true then 5 else 6)))) [(to, .inr (5, [.ref tb, .ref o, .int (nI len), .int (nI sr), .int (fld cx), .int (fld cb)]))] := by
  refine Fn_ofL (own := RX5) (by decide) rfl rfl [(0, .ref to), (1, .int (nI cb))] rfl ?_
  intro p e s m below meth c A C hr hnm
  refine G_aload_n C dX5_behindRightName_0 rfl 1 rfl ?_
  refine G_iload_n C dX5_behindRightName_1 rfl 2 rfl ?_
  refine G_bipush C dX5_behindRightName_2 (v := nI 97) (by decide) 4 rfl ?_
  refine G_isub C dX5_behindRightName_4 (v := fld cb) rfl 5 rfl ?_
  refine G_putf C dX5_behindRightName_5 wF_X5 wf_X5_63 (f := 5) (by decide) (ci := 5) rfl tyX5_ok nmX5 rfl 0 rfl rfl rfl (Nat.le_of_ble_eq_true rfl) [(to, .inr (5, [.ref tb, .ref o, .int (nI len), .int (nI sr), .int (fld cx), .int (fld cb)]))] rfl 8 rfl ?_
  refine G_aload_n C dX5_behindRightName_8 rfl 9 rfl ?_
  refine G_getf C dX5_behindRightName_9 wF_X5 wf_X5_63 (f := 5) (by decide) (ci := 5) rfl 0 rfl rfl 12 rfl ?_
  refine G_cSN C dX5_behindRightName_12 (c_X6_isName l E (fld cb) ) wq_X5_59 wt_X6_isName wn_X6 wc_X6_isName rfl rfl ⟨by decide, by decide, rfl⟩ rfl (Nat.le_of_ble_eq_true rfl) [] [0] (wr := [(to, .inr (5, [.ref tb, .ref o, .int (nI len), .int (nI sr), .int (fld cx), .int (fld cb)]))]) rfl rfl rfl rfl rfl [0] rfl [(to, .inr (5, [.ref tb, .ref o, .int (nI len), .int (nI sr), .int (fld cx), .int (fld cb)]))] rfl rfl [.int (bI (inb (fld cb) 10))] rfl 15 rfl ?_
  refine G_if_eq C dX5_behindRightName_15 22 rfl 18 rfl (show bI (inb (fld cb) 10) = 0 ↔ nmc cb = false by rw [inb_fld cb hcb]; exact bI_0 _) (fun h_1 => ?_) (fun h_1 => ?_)
  · refine G_bipush C dX5_behindRightName_22 (v := nI 6) (by decide) 24 rfl ?_
    exact G_iret C hr dX5_behindRightName_24 rfl () trivial (by simp [h_1]) rfl
  · refine G_iconst C dX5_behindRightName_18 (v := nI 5) rfl 19 rfl ?_
    refine G_goto C dX5_behindRightName_19 24 rfl ?_
    exact G_iret C hr dX5_behindRightName_24 rfl () trivial (by simp [h_1]) rfl

set_option maxHeartbeats 4000000 in
set_option maxRecDepth 100000 in
theorem c_X5_behindStart (l : Launch) (E : gE) (to tb o len sr cx cy : Nat) (a n : Nat) (Cd : Nat → Nat) (cb : Nat) (hcb : cb < 128) (hn : n ≤ 14) : FD l E yX5_behindStart cX5_behindStart 2 (some .int) { frames := 3, cells := 0, slots := 0, locals := 62 } [.ref to, .int (nI cb)] [(to, .inr (5, [.ref tb, .ref o, .int (nI len), .int (nI sr), .int (fld cx), .int (fld cy)])), (o, .inr (2, [.ref a, .int (nI n)])), (a, .inl (E.2.1, 14, .inl (aN Cd)))] (some (.int (nI ((pstep (0, sr, cx, cy, n, Cd) cb).1)))) [(to, .inr (5, [.ref tb, .ref o, .int (nI len), .int (nI ((pstep (0, sr, cx, cy, n, Cd) cb).2.1)), .int (fld (pstep (0, sr, cx, cy, n, Cd) cb).2.2.1), .int (fld (pstep (0, sr, cx, cy, n, Cd) cb).2.2.2.1)])), (o, .inr (2, [.ref a, .int (nI ((pstep (0, sr, cx, cy, n, Cd) cb).2.2.2.2.1))])), (a, .inl (E.2.1, 14, .inl (aN ((pstep (0, sr, cx, cy, n, Cd) cb).2.2.2.2.2))))] := by
  refine Fn_ofL (own := RX5) (by decide) rfl rfl [(0, .ref to), (1, .int (nI cb))] rfl ?_
  intro p e s m below meth c A C hr hnm
  refine G_aload_n C dX5_behindStart_0 rfl 1 rfl ?_
  refine G_getf C dX5_behindStart_1 wF_X5 wf_X5_18 (f := 1) (by decide) (ci := 5) rfl 0 rfl rfl 4 rfl ?_
  refine G_cV C dX5_behindStart_4 (c_X2_size l E o a n Cd ) wm_X5_52 wi_X2_size wsel_X2_size wn_X2 wc_X2_size rfl rfl ⟨by decide, by decide, rfl⟩ rfl (Nat.le_of_ble_eq_true rfl) 2 rfl rfl 0 rfl [1, 2] [0] (wr := [(to, .inr (5, [.ref tb, .ref o, .int (nI len), .int (nI sr), .int (fld cx), .int (fld cy)]))]) rfl rfl rfl rfl rfl [0, 1, 2] rfl [(to, .inr (5, [.ref tb, .ref o, .int (nI len), .int (nI sr), .int (fld cx), .int (fld cy)])), (o, .inr (2, [.ref a, .int (nI n)])), (a, .inl (E.2.1, 14, .inl (aN Cd)))] rfl rfl [.int (nI n)] rfl 7 rfl ?_
  refine G_bipush C dX5_behindStart_7 (v := nI 14) (by decide) 9 rfl ?_
  refine G_icmp_lt C dX5_behindStart_9 15 rfl 12 rfl (nI_ltI (by omega) (by omega)) (fun h_1 => ?_) (fun h_1 => ?_)
  · refine G_aload_n C dX5_behindStart_15 rfl 16 rfl ?_
    refine G_iload_n C dX5_behindStart_16 rfl 17 rfl ?_
    refine G_bipush C dX5_behindStart_17 (v := nI 42) (by decide) 19 rfl ?_
    refine G_icmp_ne C dX5_behindStart_19 26 rfl 22 rfl (nI_eq (by omega) (by omega)) (fun h_2 => ?_) (fun h_2 => ?_)
    · refine G_iconst C dX5_behindStart_26 (v := nI 1) rfl 27 rfl ?_
      refine G_putf C dX5_behindStart_27 wF_X5 wf_X5_40 (f := 3) (by decide) (ci := 5) rfl tyX5_ok nmX5 rfl 0 rfl rfl rfl (Nat.le_of_ble_eq_true rfl) [(to, .inr (5, [.ref tb, .ref o, .int (nI len), .int (nI 1), .int (fld cx), .int (fld cy)])), (o, .inr (2, [.ref a, .int (nI n)])), (a, .inl (E.2.1, 14, .inl (aN Cd)))] rfl 30 rfl ?_
      refine G_iload_n C dX5_behindStart_30 rfl 31 rfl ?_
      refine G_bipush C dX5_behindStart_31 (v := nI 42) (by decide) 33 rfl ?_
      refine G_icmp_ne_t C dX5_behindStart_33 40 rfl (by rw [nI_eq (by omega) (by omega)]; exact h_2) ?_
      refine G_aload_n C dX5_behindStart_40 rfl 41 rfl ?_
      refine G_iload_n C dX5_behindStart_41 rfl 42 rfl ?_
      refine G_cV C dX5_behindStart_42 (c_X5_behindLeftName l E to tb o len 1 cx cy cb (by first | assumption | omega)) wm_X5_37 wi_X5_behindLeftName wsel_X5_behindLeftName wn_X5 wc_X5_behindLeftName rfl rfl ⟨by decide, by decide, rfl⟩ rfl (Nat.le_of_ble_eq_true rfl) 5 rfl rfl 0 rfl [0] [1, 2] (wr := [(o, .inr (2, [.ref a, .int (nI n)])), (a, .inl (E.2.1, 14, .inl (aN Cd)))]) rfl rfl rfl rfl rfl [2, 0, 1] rfl [(to, .inr (5, [.ref tb, .ref o, .int (nI len), .int (nI 1), .int (fld cb), .int (fld cy)])), (o, .inr (2, [.ref a, .int (nI n)])), (a, .inl (E.2.1, 14, .inl (aN Cd)))] rfl rfl [.int (nI (if nmc cb = true then 2 else 6))] rfl 45 rfl ?_
      exact G_iret C hr dX5_behindStart_45 rfl () trivial (by simp [pstep, show ¬ 14 ≤ n by omega, h_2]) (by simp [pstep, show ¬ 14 ≤ n by omega, h_2])
    · refine G_iconst C dX5_behindStart_22 (v := nI 3) rfl 23 rfl ?_
      refine G_goto C dX5_behindStart_23 27 rfl ?_
      refine G_putf C dX5_behindStart_27 wF_X5 wf_X5_40 (f := 3) (by decide) (ci := 5) rfl tyX5_ok nmX5 rfl 0 rfl rfl rfl (Nat.le_of_ble_eq_true rfl) [(to, .inr (5, [.ref tb, .ref o, .int (nI len), .int (nI 3), .int (fld cx), .int (fld cy)])), (o, .inr (2, [.ref a, .int (nI n)])), (a, .inl (E.2.1, 14, .inl (aN Cd)))] rfl 30 rfl ?_
      refine G_iload_n C dX5_behindStart_30 rfl 31 rfl ?_
      refine G_bipush C dX5_behindStart_31 (v := nI 42) (by decide) 33 rfl ?_
      refine G_icmp_ne_f C dX5_behindStart_33 40 rfl 36 rfl (by rw [nI_eq (by omega) (by omega)]; exact h_2) ?_
      refine G_iconst C dX5_behindStart_36 (v := nI 1) rfl 37 rfl ?_
      refine G_goto C dX5_behindStart_37 45 rfl ?_
      exact G_iret C hr dX5_behindStart_45 rfl () trivial (by simp [pstep, show ¬ 14 ≤ n by omega, h_2]) (by simp [pstep, show ¬ 14 ≤ n by omega, h_2])
  · refine G_bipush C dX5_behindStart_12 (v := nI 6) (by decide) 14 rfl ?_
    exact G_iret C hr dX5_behindStart_14 rfl () trivial (by simp [pstep, show 14 ≤ n by omega]) (by simp [pstep, show 14 ≤ n by omega])

set_option maxHeartbeats 4000000 in
set_option maxRecDepth 100000 in
theorem c_X5_behindRightSide (l : Launch) (E : gE) (to tb o len sr cx cy : Nat) (a n : Nat) (Cd : Nat → Nat) (cb : Nat) (hcb : cb < 128) : FD l E yX5_behindRightSide cX5_behindRightSide 2 (some .int) { frames := 3, cells := 0, slots := 0, locals := 62 } [.ref to, .int (nI cb)] [(to, .inr (5, [.ref tb, .ref o, .int (nI len), .int (nI sr), .int (fld cx), .int (fld cy)])), (o, .inr (2, [.ref a, .int (nI n)])), (a, .inl (E.2.1, 14, .inl (aN Cd)))] (some (.int (nI ((pstep (3, sr, cx, cy, n, Cd) cb).1)))) [(to, .inr (5, [.ref tb, .ref o, .int (nI len), .int (nI ((pstep (3, sr, cx, cy, n, Cd) cb).2.1)), .int (fld (pstep (3, sr, cx, cy, n, Cd) cb).2.2.1), .int (fld (pstep (3, sr, cx, cy, n, Cd) cb).2.2.2.1)])), (o, .inr (2, [.ref a, .int (nI ((pstep (3, sr, cx, cy, n, Cd) cb).2.2.2.2.1))])), (a, .inl (E.2.1, 14, .inl (aN ((pstep (3, sr, cx, cy, n, Cd) cb).2.2.2.2.2))))] := by
  refine Fn_ofL (own := RX5) (by decide) rfl rfl [(0, .ref to), (1, .int (nI cb))] rfl ?_
  intro p e s m below meth c A C hr hnm
  refine G_iload_n C dX5_behindRightSide_0 rfl 1 rfl ?_
  refine G_bipush C dX5_behindRightSide_1 (v := nI 38) (by decide) 3 rfl ?_
  refine G_icmp_eq C dX5_behindRightSide_3 12 rfl 6 rfl (nI_eq (by omega) (by omega)) (fun h_1 => ?_) (fun h_1 => ?_)
  · refine G_aload_n C dX5_behindRightSide_12 rfl 13 rfl ?_
    refine G_iload_n C dX5_behindRightSide_13 rfl 14 rfl ?_
    refine G_bipush C dX5_behindRightSide_14 (v := nI 38) (by decide) 16 rfl ?_
    refine G_icmp_ne_f C dX5_behindRightSide_16 23 rfl 19 rfl (by rw [nI_eq (by omega) (by omega)]; exact h_1) ?_
    refine G_iconst C dX5_behindRightSide_19 (v := nI 0) rfl 20 rfl ?_
    refine G_goto C dX5_behindRightSide_20 24 rfl ?_
    refine G_putf C dX5_behindRightSide_24 wF_X5 wf_X5_40 (f := 3) (by decide) (ci := 5) rfl tyX5_ok nmX5 rfl 0 rfl rfl rfl (Nat.le_of_ble_eq_true rfl) [(to, .inr (5, [.ref tb, .ref o, .int (nI len), .int (nI 0), .int (fld cx), .int (fld cy)])), (o, .inr (2, [.ref a, .int (nI n)])), (a, .inl (E.2.1, 14, .inl (aN Cd)))] rfl 27 rfl ?_
    refine G_iconst C dX5_behindRightSide_27 (v := nI 4) rfl 28 rfl ?_
    exact G_iret C hr dX5_behindRightSide_28 rfl () trivial (by first | (simp [pstep, h_1]; done) | (simp [pstep, h_1, h_2]; done)) (by first | (simp [pstep, h_1]; done) | (simp [pstep, h_1, h_2]; done))
  · refine G_iload_n C dX5_behindRightSide_6 rfl 7 rfl ?_
    refine G_bipush C dX5_behindRightSide_7 (v := nI 42) (by decide) 9 rfl ?_
    refine G_icmp_ne C dX5_behindRightSide_9 29 rfl 12 rfl (nI_eq (by omega) (by omega)) (fun h_2 => ?_) (fun h_2 => ?_)
    · refine G_aload_n C dX5_behindRightSide_29 rfl 30 rfl ?_
      refine G_iload_n C dX5_behindRightSide_30 rfl 31 rfl ?_
      refine G_cV C dX5_behindRightSide_31 (c_X5_behindRightName l E to tb o len sr cx cy cb (by first | assumption | omega)) wm_X5_46 wi_X5_behindRightName wsel_X5_behindRightName wn_X5 wc_X5_behindRightName rfl rfl ⟨by decide, by decide, rfl⟩ rfl (Nat.le_of_ble_eq_true rfl) 5 rfl rfl 0 rfl [0] [1, 2] (wr := [(o, .inr (2, [.ref a, .int (nI n)])), (a, .inl (E.2.1, 14, .inl (aN Cd)))]) rfl rfl rfl rfl rfl [2, 0, 1] rfl [(to, .inr (5, [.ref tb, .ref o, .int (nI len), .int (nI sr), .int (fld cx), .int (fld cb)])), (o, .inr (2, [.ref a, .int (nI n)])), (a, .inl (E.2.1, 14, .inl (aN Cd)))] rfl rfl [.int (nI (if nmc cb = true then 5 else 6))] rfl 34 rfl ?_
      exact G_iret C hr dX5_behindRightSide_34 rfl () trivial (by first | (simp [pstep, h_1]; done) | (simp [pstep, h_1, h_2]; done)) (by first | (simp [pstep, h_1]; done) | (simp [pstep, h_1, h_2]; done))
    · refine G_aload_n C dX5_behindRightSide_12 rfl 13 rfl ?_
      refine G_iload_n C dX5_behindRightSide_13 rfl 14 rfl ?_
      refine G_bipush C dX5_behindRightSide_14 (v := nI 38) (by decide) 16 rfl ?_
      refine G_icmp_ne_t C dX5_behindRightSide_16 23 rfl (by rw [nI_eq (by omega) (by omega)]; exact h_1) ?_
      refine G_iconst C dX5_behindRightSide_23 (v := nI 2) rfl 24 rfl ?_
      refine G_putf C dX5_behindRightSide_24 wF_X5 wf_X5_40 (f := 3) (by decide) (ci := 5) rfl tyX5_ok nmX5 rfl 0 rfl rfl rfl (Nat.le_of_ble_eq_true rfl) [(to, .inr (5, [.ref tb, .ref o, .int (nI len), .int (nI 2), .int (fld cx), .int (fld cy)])), (o, .inr (2, [.ref a, .int (nI n)])), (a, .inl (E.2.1, 14, .inl (aN Cd)))] rfl 27 rfl ?_
      refine G_iconst C dX5_behindRightSide_27 (v := nI 4) rfl 28 rfl ?_
      exact G_iret C hr dX5_behindRightSide_28 rfl () trivial (by first | (simp [pstep, h_1]; done) | (simp [pstep, h_1, h_2]; done)) (by first | (simp [pstep, h_1]; done) | (simp [pstep, h_1, h_2]; done))

set_option maxHeartbeats 4000000 in
set_option maxRecDepth 100000 in
theorem c_X5_behindEnd (l : Launch) (E : gE) (to tb o len sr cx cy : Nat) (a n : Nat) (Cd : Nat → Nat) (cb : Nat) (hcb : cb < 128) (hn : n < 14) (hsr : sr < 4) (hcx : nmc cx = true) (hcy : nmc cy = true) : FD l E yX5_behindEnd cX5_behindEnd 2 (some .int) { frames := 1, cells := 0, slots := 0, locals := 23 } [.ref to, .int (nI cb)] [(to, .inr (5, [.ref tb, .ref o, .int (nI len), .int (nI sr), .int (fld cx), .int (fld cy)])), (o, .inr (2, [.ref a, .int (nI n)])), (a, .inl (E.2.1, 14, .inl (aN Cd)))] (some (.int (nI ((pstep (5, sr, cx, cy, n, Cd) cb).1)))) [(to, .inr (5, [.ref tb, .ref o, .int (nI len), .int (nI ((pstep (5, sr, cx, cy, n, Cd) cb).2.1)), .int (fld (pstep (5, sr, cx, cy, n, Cd) cb).2.2.1), .int (fld (pstep (5, sr, cx, cy, n, Cd) cb).2.2.2.1)])), (o, .inr (2, [.ref a, .int (nI ((pstep (5, sr, cx, cy, n, Cd) cb).2.2.2.2.1))])), (a, .inl (E.2.1, 14, .inl (aN ((pstep (5, sr, cx, cy, n, Cd) cb).2.2.2.2.2))))] := by
  refine Fn_ofL (own := RX5) (by decide) rfl rfl [(0, .ref to), (1, .int (nI cb))] rfl ?_
  intro p e s m below meth c A C hr hnm
  have hx1 := nmc_of hcx
  have hy1 := nmc_of hcy
  refine G_iload_n C dX5_behindEnd_0 rfl 1 rfl ?_
  refine G_bipush C dX5_behindEnd_1 (v := nI 59) (by decide) 3 rfl ?_
  refine G_icmp_eq C dX5_behindEnd_3 9 rfl 6 rfl (nI_eq (by omega) (by omega)) (fun h_1 => ?_) (fun h_1 => ?_)
  · refine G_eq (ws' := [(to, .inr (5, [.ref tb, .ref o, .int (nI len), .int (nI sr), .int (nI (cx - 97)), .int (nI (cy - 97))])), (o, .inr (2, [.ref a, .int (nI n)])), (a, .inl (E.2.1, 14, .inl (aN Cd)))]) (by rw [fld_nm hcx, fld_nm hcy]) rfl rfl ?_
    refine G_aload_n C dX5_behindEnd_9 rfl 10 rfl ?_
    refine G_getf C dX5_behindEnd_10 wF_X5 wf_X5_18 (f := 1) (by decide) (ci := 5) rfl 0 rfl rfl 13 rfl ?_
    refine G_aload_n C dX5_behindEnd_13 rfl 14 rfl ?_
    refine G_getf C dX5_behindEnd_14 wF_X5 wf_X5_40 (f := 3) (by decide) (ci := 5) rfl 0 rfl rfl 17 rfl ?_
    refine G_aload_n C dX5_behindEnd_17 rfl 18 rfl ?_
    refine G_getf C dX5_behindEnd_18 wF_X5 wf_X5_56 (f := 4) (by decide) (ci := 5) rfl 0 rfl rfl 21 rfl ?_
    refine G_aload_n C dX5_behindEnd_21 rfl 22 rfl ?_
    refine G_getf C dX5_behindEnd_22 wF_X5 wf_X5_63 (f := 5) (by decide) (ci := 5) rfl 0 rfl rfl 25 rfl ?_
    refine G_cV C dX5_behindEnd_25 (c_X2_append l E o a n Cd sr (cx - 97) (cy - 97) (by first | assumption | omega) (by first | assumption | omega) (by first | assumption | omega) (by first | assumption | omega)) wm_X5_66 wi_X2_append wsel_X2_append wn_X2 wc_X2_append rfl rfl ⟨by decide, by decide, rfl⟩ rfl (Nat.le_of_ble_eq_true rfl) 2 rfl rfl 0 rfl [1, 2] [0] (wr := [(to, .inr (5, [.ref tb, .ref o, .int (nI len), .int (nI sr), .int (nI (cx - 97)), .int (nI (cy - 97))]))]) rfl rfl rfl rfl rfl [0, 1, 2] rfl [(to, .inr (5, [.ref tb, .ref o, .int (nI len), .int (nI sr), .int (nI (cx - 97)), .int (nI (cy - 97))])), (o, .inr (2, [.ref a, .int (nI (n + 1))])), (a, .inl (E.2.1, 14, .inl (aN (va_up Cd n (ce (100 * sr + 10 * (cx - 97) + (cy - 97)))))))] rfl rfl [] rfl 28 rfl ?_
    refine G_iconst C dX5_behindEnd_28 (v := nI 0) rfl 29 rfl ?_
    exact G_iret C hr dX5_behindEnd_29 rfl () trivial (by simp [pstep, h_1]) (by simp [pstep, h_1, fld_nm hcx, fld_nm hcy])
  · refine G_bipush C dX5_behindEnd_6 (v := nI 6) (by decide) 8 rfl ?_
    exact G_iret C hr dX5_behindEnd_8 rfl () trivial (by simp [pstep, h_1]) (by simp [pstep, h_1])

set_option maxHeartbeats 4000000 in
set_option maxRecDepth 100000 in
theorem c_X5_stepBehind (l : Launch) (E : gE) (to tb o len sr cx cy : Nat) (a n : Nat) (Cd : Nat → Nat) (stp cb : Nat) (hcb : cb < 128) (hv : pv (stp, sr, cx, cy, n, Cd)) : FD l E yX5_stepBehind cX5_stepBehind 3 (some .int) { frames := 4, cells := 0, slots := 0, locals := 83 } [.ref to, .int (nI stp), .int (nI cb)] [(to, .inr (5, [.ref tb, .ref o, .int (nI len), .int (nI sr), .int (fld cx), .int (fld cy)])), (o, .inr (2, [.ref a, .int (nI n)])), (a, .inl (E.2.1, 14, .inl (aN Cd)))] (some (.int (nI ((pstep (stp, sr, cx, cy, n, Cd) cb).1)))) [(to, .inr (5, [.ref tb, .ref o, .int (nI len), .int (nI ((pstep (stp, sr, cx, cy, n, Cd) cb).2.1)), .int (fld (pstep (stp, sr, cx, cy, n, Cd) cb).2.2.1), .int (fld (pstep (stp, sr, cx, cy, n, Cd) cb).2.2.2.1)])), (o, .inr (2, [.ref a, .int (nI ((pstep (stp, sr, cx, cy, n, Cd) cb).2.2.2.2.1))])), (a, .inl (E.2.1, 14, .inl (aN ((pstep (stp, sr, cx, cy, n, Cd) cb).2.2.2.2.2))))] := by
  refine Fn_ofL (own := RX5) (by decide) rfl rfl [(0, .ref to), (1, .int (nI stp)), (2, .int (nI cb))] rfl ?_
  intro p e s m below meth c A C hr hnm
  obtain ⟨hs5, hn, hsr, hcx, hcy, hn2⟩ := hv
  dsimp only at hs5 hn hsr hcx hcy hn2
  rcases (show stp = 0 ∨ stp = 1 ∨ stp = 2 ∨ stp = 3 ∨ stp = 4 ∨ stp = 5 by omega) with rfl | rfl | rfl | rfl | rfl | rfl
  · refine G_iload_n C dX5_stepBehind_0 rfl 1 rfl ?_
    refine G_tabIn C dX5_stepBehind_1 (35) (by decide) (by decide) rfl 36 rfl ?_
    refine G_aload_n C dX5_stepBehind_36 rfl 37 rfl ?_
    refine G_iload_n C dX5_stepBehind_37 rfl 38 rfl ?_
    refine G_cV C dX5_stepBehind_38 (c_X5_behindStart l E to tb o len sr cx cy a n Cd cb (by first | assumption | omega) (by first | assumption | omega)) wm_X5_33 wi_X5_behindStart wsel_X5_behindStart wn_X5 wc_X5_behindStart rfl rfl ⟨by decide, by decide, rfl⟩ rfl (Nat.le_of_ble_eq_true rfl) 5 rfl rfl 0 rfl [0, 1, 2] [] (wr := []) rfl rfl rfl rfl rfl [0, 1, 2] rfl [(to, .inr (5, [.ref tb, .ref o, .int (nI len), .int (nI ((pstep (0, sr, cx, cy, n, Cd) cb).2.1)), .int (fld (pstep (0, sr, cx, cy, n, Cd) cb).2.2.1), .int (fld (pstep (0, sr, cx, cy, n, Cd) cb).2.2.2.1)])), (o, .inr (2, [.ref a, .int (nI ((pstep (0, sr, cx, cy, n, Cd) cb).2.2.2.2.1))])), (a, .inl (E.2.1, 14, .inl (aN ((pstep (0, sr, cx, cy, n, Cd) cb).2.2.2.2.2))))] rfl rfl [.int (nI ((pstep (0, sr, cx, cy, n, Cd) cb).1))] rfl 41 rfl ?_
    exact G_iret C hr dX5_stepBehind_41 rfl () trivial (by first | rfl | (simp [pstep]; done) | (simp [pstep, h_1]; done) | (simp [pstep, h_1, h_2]; done)) (by first | rfl | (simp [pstep]; done) | (simp [pstep, h_1]; done) | (simp [pstep, h_1, h_2]; done))
  · refine G_iload_n C dX5_stepBehind_0 rfl 1 rfl ?_
    refine G_tabIn C dX5_stepBehind_1 (41) (by decide) (by decide) rfl 42 rfl ?_
    refine G_aload_n C dX5_stepBehind_42 rfl 43 rfl ?_
    refine G_iload_n C dX5_stepBehind_43 rfl 44 rfl ?_
    refine G_cV C dX5_stepBehind_44 (c_X5_behindLeftName l E to tb o len sr cx cy cb (by first | assumption | omega)) wm_X5_37 wi_X5_behindLeftName wsel_X5_behindLeftName wn_X5 wc_X5_behindLeftName rfl rfl ⟨by decide, by decide, rfl⟩ rfl (Nat.le_of_ble_eq_true rfl) 5 rfl rfl 0 rfl [0] [1, 2] (wr := [(o, .inr (2, [.ref a, .int (nI n)])), (a, .inl (E.2.1, 14, .inl (aN Cd)))]) rfl rfl rfl rfl rfl [2, 0, 1] rfl [(to, .inr (5, [.ref tb, .ref o, .int (nI len), .int (nI sr), .int (fld cb), .int (fld cy)])), (o, .inr (2, [.ref a, .int (nI n)])), (a, .inl (E.2.1, 14, .inl (aN Cd)))] rfl rfl [.int (nI (if nmc cb = true then 2 else 6))] rfl 47 rfl ?_
    exact G_iret C hr dX5_stepBehind_47 rfl () trivial (by first | rfl | (simp [pstep]; done) | (simp [pstep, h_1]; done) | (simp [pstep, h_1, h_2]; done)) (by first | rfl | (simp [pstep]; done) | (simp [pstep, h_1]; done) | (simp [pstep, h_1, h_2]; done))
  · refine G_iload_n C dX5_stepBehind_0 rfl 1 rfl ?_
    refine G_tabIn C dX5_stepBehind_1 (47) (by decide) (by decide) rfl 48 rfl ?_
    refine G_iload_n C dX5_stepBehind_48 rfl 49 rfl ?_
    refine G_bipush C dX5_stepBehind_49 (v := nI 61) (by decide) 51 rfl ?_
    refine G_icmp_ne C dX5_stepBehind_51 70 rfl 54 rfl (nI_eq (by omega) (by omega)) (fun h_1 => ?_) (fun h_1 => ?_)
    · refine G_bipush C dX5_stepBehind_70 (v := nI 6) (by decide) 72 rfl ?_
      exact G_iret C hr dX5_stepBehind_72 rfl () trivial (by first | rfl | (simp [pstep]; done) | (simp [pstep, h_1]; done) | (simp [pstep, h_1, h_2]; done)) (by first | rfl | (simp [pstep]; done) | (simp [pstep, h_1]; done) | (simp [pstep, h_1, h_2]; done))
    · refine G_aload_n C dX5_stepBehind_54 rfl 55 rfl ?_
      refine G_getf C dX5_stepBehind_55 wF_X5 wf_X5_40 (f := 3) (by decide) (ci := 5) rfl 0 rfl rfl 58 rfl ?_
      refine G_iconst C dX5_stepBehind_58 (v := nI 3) rfl 59 rfl ?_
      refine G_icmp_ne C dX5_stepBehind_59 66 rfl 62 rfl (nI_eq (by omega) (by omega)) (fun h_2 => ?_) (fun h_2 => ?_)
      · refine G_iconst C dX5_stepBehind_66 (v := nI 3) rfl 67 rfl ?_
        refine G_goto C dX5_stepBehind_67 72 rfl ?_
        exact G_iret C hr dX5_stepBehind_72 rfl () trivial (by first | rfl | (simp [pstep]; done) | (simp [pstep, h_1]; done) | (simp [pstep, h_1, h_2]; done)) (by first | rfl | (simp [pstep]; done) | (simp [pstep, h_1]; done) | (simp [pstep, h_1, h_2]; done))
      · refine G_iconst C dX5_stepBehind_62 (v := nI 4) rfl 63 rfl ?_
        refine G_goto C dX5_stepBehind_63 72 rfl ?_
        exact G_iret C hr dX5_stepBehind_72 rfl () trivial (by first | rfl | (simp [pstep]; done) | (simp [pstep, h_1]; done) | (simp [pstep, h_1, h_2]; done)) (by first | rfl | (simp [pstep]; done) | (simp [pstep, h_1]; done) | (simp [pstep, h_1, h_2]; done))
  · refine G_iload_n C dX5_stepBehind_0 rfl 1 rfl ?_
    refine G_tabIn C dX5_stepBehind_1 (72) (by decide) (by decide) rfl 73 rfl ?_
    refine G_aload_n C dX5_stepBehind_73 rfl 74 rfl ?_
    refine G_iload_n C dX5_stepBehind_74 rfl 75 rfl ?_
    refine G_cV C dX5_stepBehind_75 (c_X5_behindRightSide l E to tb o len sr cx cy a n Cd cb (by first | assumption | omega)) wm_X5_43 wi_X5_behindRightSide wsel_X5_behindRightSide wn_X5 wc_X5_behindRightSide rfl rfl ⟨by decide, by decide, rfl⟩ rfl (Nat.le_of_ble_eq_true rfl) 5 rfl rfl 0 rfl [0, 1, 2] [] (wr := []) rfl rfl rfl rfl rfl [0, 1, 2] rfl [(to, .inr (5, [.ref tb, .ref o, .int (nI len), .int (nI ((pstep (3, sr, cx, cy, n, Cd) cb).2.1)), .int (fld (pstep (3, sr, cx, cy, n, Cd) cb).2.2.1), .int (fld (pstep (3, sr, cx, cy, n, Cd) cb).2.2.2.1)])), (o, .inr (2, [.ref a, .int (nI ((pstep (3, sr, cx, cy, n, Cd) cb).2.2.2.2.1))])), (a, .inl (E.2.1, 14, .inl (aN ((pstep (3, sr, cx, cy, n, Cd) cb).2.2.2.2.2))))] rfl rfl [.int (nI ((pstep (3, sr, cx, cy, n, Cd) cb).1))] rfl 78 rfl ?_
    exact G_iret C hr dX5_stepBehind_78 rfl () trivial (by first | rfl | (simp [pstep]; done) | (simp [pstep, h_1]; done) | (simp [pstep, h_1, h_2]; done)) (by first | rfl | (simp [pstep]; done) | (simp [pstep, h_1]; done) | (simp [pstep, h_1, h_2]; done))
  · refine G_iload_n C dX5_stepBehind_0 rfl 1 rfl ?_
    refine G_tabIn C dX5_stepBehind_1 (78) (by decide) (by decide) rfl 79 rfl ?_
    refine G_aload_n C dX5_stepBehind_79 rfl 80 rfl ?_
    refine G_iload_n C dX5_stepBehind_80 rfl 81 rfl ?_
    refine G_cV C dX5_stepBehind_81 (c_X5_behindRightName l E to tb o len sr cx cy cb (by first | assumption | omega)) wm_X5_46 wi_X5_behindRightName wsel_X5_behindRightName wn_X5 wc_X5_behindRightName rfl rfl ⟨by decide, by decide, rfl⟩ rfl (Nat.le_of_ble_eq_true rfl) 5 rfl rfl 0 rfl [0] [1, 2] (wr := [(o, .inr (2, [.ref a, .int (nI n)])), (a, .inl (E.2.1, 14, .inl (aN Cd)))]) rfl rfl rfl rfl rfl [2, 0, 1] rfl [(to, .inr (5, [.ref tb, .ref o, .int (nI len), .int (nI sr), .int (fld cx), .int (fld cb)])), (o, .inr (2, [.ref a, .int (nI n)])), (a, .inl (E.2.1, 14, .inl (aN Cd)))] rfl rfl [.int (nI (if nmc cb = true then 5 else 6))] rfl 84 rfl ?_
    exact G_iret C hr dX5_stepBehind_84 rfl () trivial (by first | rfl | (simp [pstep]; done) | (simp [pstep, h_1]; done) | (simp [pstep, h_1, h_2]; done)) (by first | rfl | (simp [pstep]; done) | (simp [pstep, h_1]; done) | (simp [pstep, h_1, h_2]; done))
  · refine G_iload_n C dX5_stepBehind_0 rfl 1 rfl ?_
    refine G_tabOut C dX5_stepBehind_1 (by decide) 85 rfl ?_
    refine G_aload_n C dX5_stepBehind_85 rfl 86 rfl ?_
    refine G_iload_n C dX5_stepBehind_86 rfl 87 rfl ?_
    refine G_cV C dX5_stepBehind_87 (c_X5_behindEnd l E to tb o len sr cx cy a n Cd cb (by first | assumption | omega) (hn2 (by omega)) (by first | assumption | omega) (hcx (by omega)) (hcy (by omega))) wm_X5_49 wi_X5_behindEnd wsel_X5_behindEnd wn_X5 wc_X5_behindEnd rfl rfl ⟨by decide, by decide, rfl⟩ rfl (Nat.le_of_ble_eq_true rfl) 5 rfl rfl 0 rfl [0, 1, 2] [] (wr := []) rfl rfl rfl rfl rfl [0, 1, 2] rfl [(to, .inr (5, [.ref tb, .ref o, .int (nI len), .int (nI ((pstep (5, sr, cx, cy, n, Cd) cb).2.1)), .int (fld (pstep (5, sr, cx, cy, n, Cd) cb).2.2.1), .int (fld (pstep (5, sr, cx, cy, n, Cd) cb).2.2.2.1)])), (o, .inr (2, [.ref a, .int (nI ((pstep (5, sr, cx, cy, n, Cd) cb).2.2.2.2.1))])), (a, .inl (E.2.1, 14, .inl (aN ((pstep (5, sr, cx, cy, n, Cd) cb).2.2.2.2.2))))] rfl rfl [.int (nI ((pstep (5, sr, cx, cy, n, Cd) cb).1))] rfl 90 rfl ?_
    exact G_iret C hr dX5_stepBehind_90 rfl () trivial (by first | rfl | (simp [pstep]; done) | (simp [pstep, h_1]; done) | (simp [pstep, h_1, h_2]; done)) (by first | rfl | (simp [pstep]; done) | (simp [pstep, h_1]; done) | (simp [pstep, h_1, h_2]; done))

set_option maxHeartbeats 4000000 in
set_option maxRecDepth 100000 in
theorem c_X5_parse (l : Launch) (E : gE) (to tb o len sr cx cy : Nat) (a n : Nat) (Cd : Nat → Nat) (Bt : Nat → Nat) (hl : len ≤ 120) (hB : ∀ k, k < len → Bt k < 128) (hsr : sr < 4) : FD l E yX5_parse cX5_parse 3 (some .int) { frames := 5, cells := 0, slots := 0, locals := 105 } [.ref to] [(to, .inr (5, [.ref tb, .ref o, .int (nI len), .int (nI sr), .int (fld cx), .int (fld cy)])), (tb, .inl (E.2.1, 120, .inl (aN Bt))), (o, .inr (2, [.ref a, .int (nI n)])), (a, .inl (E.2.1, 14, .inl (aN Cd)))] (some (.int (oI (pres (0, sr, cx, cy, 0, Cd) Bt len)))) [(to, .inr (5, [.ref tb, .ref o, .int (nI len), .int (nI ((pk (0, sr, cx, cy, 0, Cd) Bt (pend (0, sr, cx, cy, 0, Cd) Bt len)).2.1)), .int (fld (pk (0, sr, cx, cy, 0, Cd) Bt (pend (0, sr, cx, cy, 0, Cd) Bt len)).2.2.1), .int (fld (pk (0, sr, cx, cy, 0, Cd) Bt (pend (0, sr, cx, cy, 0, Cd) Bt len)).2.2.2.1)])), (tb, .inl (E.2.1, 120, .inl (aN Bt))), (o, .inr (2, [.ref a, .int (nI ((pk (0, sr, cx, cy, 0, Cd) Bt (pend (0, sr, cx, cy, 0, Cd) Bt len)).2.2.2.2.1))])), (a, .inl (E.2.1, 14, .inl (aN ((pk (0, sr, cx, cy, 0, Cd) Bt (pend (0, sr, cx, cy, 0, Cd) Bt len)).2.2.2.2.2))))] := by
  refine Fn_ofL (own := RX5) (by decide) rfl rfl [(0, .ref to)] rfl ?_
  intro p e s m below meth c A C hr hnm
  refine G_aload_n C dX5_parse_0 rfl 1 rfl ?_
  refine G_getf C dX5_parse_1 wF_X5 wf_X5_18 (f := 1) (by decide) (ci := 5) rfl 0 rfl rfl 4 rfl ?_
  refine G_cV C dX5_parse_4 (c_X2_removeAll l E o a n Cd ) wm_X5_26 wi_X2_removeAll wsel_X2_removeAll wn_X2 wc_X2_removeAll rfl rfl ⟨by decide, by decide, rfl⟩ rfl (Nat.le_of_ble_eq_true rfl) 2 rfl rfl 0 rfl [2, 3] [0, 1] (wr := [(to, .inr (5, [.ref tb, .ref o, .int (nI len), .int (nI sr), .int (fld cx), .int (fld cy)])), (tb, .inl (E.2.1, 120, .inl (aN Bt)))]) rfl rfl rfl rfl rfl [0, 1, 2, 3] rfl [(to, .inr (5, [.ref tb, .ref o, .int (nI len), .int (nI sr), .int (fld cx), .int (fld cy)])), (tb, .inl (E.2.1, 120, .inl (aN Bt))), (o, .inr (2, [.ref a, .int (nI 0)])), (a, .inl (E.2.1, 14, .inl (aN Cd)))] rfl rfl [] rfl 7 rfl ?_
  refine G_iconst C dX5_parse_7 (v := nI 0) rfl 8 rfl ?_
  refine G_istore_n C dX5_parse_8 (by decide) [(1, .int (nI 0)), (0, .ref to)] rfl 9 rfl ?_
  refine G_iconst C dX5_parse_9 (v := nI 0) rfl 10 rfl ?_
  refine G_istore_n C dX5_parse_10 (by decide) [(2, .int (nI 0)), (1, .int (nI 0)), (0, .ref to)] rfl 11 rfl ?_
  refine G_sel [1, 0, 2] [(1, .int (nI 0)), (2, .int (nI 0)), (0, .ref to)] rfl ?_
  refine G_while (X := Nat) (Wf := fun k => [(to, .inr (5, [.ref tb, .ref o, .int (nI len), .int (nI ((pk (0, sr, cx, cy, 0, Cd) Bt k).2.1)), .int (fld (pk (0, sr, cx, cy, 0, Cd) Bt k).2.2.1), .int (fld (pk (0, sr, cx, cy, 0, Cd) Bt k).2.2.2.1)])), (tb, .inl (E.2.1, 120, .inl (aN Bt))), (o, .inr (2, [.ref a, .int (nI ((pk (0, sr, cx, cy, 0, Cd) Bt k).2.2.2.2.1))])), (a, .inl (E.2.1, 14, .inl (aN ((pk (0, sr, cx, cy, 0, Cd) Bt k).2.2.2.2.2))))]) (Lf := fun k => [(1, .int (nI ((pk (0, sr, cx, cy, 0, Cd) Bt k).1))), (2, .int (nI k)), (0, .ref to)]) (Sf := fun _ => []) (fun k => k ≤ len ∧ pflt (0, sr, cx, cy, 0, Cd) Bt k = none) (fun k => len - k) (fun k hi ih => ?_) 0 ⟨Nat.zero_le _, rfl⟩
  obtain ⟨hk, hf⟩ := hi
  have hv := pv_pk (q0 := (0, sr, cx, cy, 0, Cd)) (pv_0 hsr) (Bt := Bt) k hf
  refine G_iload_n C dX5_parse_11 rfl 12 rfl ?_
  refine G_aload_n C dX5_parse_12 rfl 13 rfl ?_
  refine G_getf C dX5_parse_13 wF_X5 wf_X5_22 (f := 2) (by decide) (ci := 5) rfl 0 rfl rfl 16 rfl ?_
  refine G_icmp_ge C dX5_parse_16 56 rfl 19 rfl (nI_leI (by omega) (by omega)) (fun h_1 => ?_) (fun h_1 => ?_)
  · refine G_iload_n C dX5_parse_56 rfl 57 rfl ?_
    refine G_if_ne C dX5_parse_57 64 rfl 60 rfl (n_eq0 (by have := hv.1; omega)) (fun h_4 => ?_) (fun h_4 => ?_)
    · refine G_aload_n C dX5_parse_64 rfl 65 rfl ?_
      refine G_getf C dX5_parse_65 wF_X5 wf_X5_22 (f := 2) (by decide) (ci := 5) rfl 0 rfl rfl 68 rfl ?_
      exact G_iret C hr dX5_parse_68 rfl () trivial (by have hfk : pflt (0, sr, cx, cy, 0, Cd) Bt len = none := (by rw [show len = k by omega]; exact hf); simp only [pres, hfk]; rw [show len = k by omega]; simp [h_4, oI]) (by have hfk : pflt (0, sr, cx, cy, 0, Cd) Bt len = none := (by rw [show len = k by omega]; exact hf); simp only [pend, hfk]; rw [show len = k by omega])
    · refine G_iconst C dX5_parse_60 (v := oI none) rfl 61 rfl ?_
      refine G_goto C dX5_parse_61 68 rfl ?_
      exact G_iret C hr dX5_parse_68 rfl () trivial (by have hfk : pflt (0, sr, cx, cy, 0, Cd) Bt len = none := (by rw [show len = k by omega]; exact hf); simp only [pres, hfk]; rw [show len = k by omega]; simp [h_4, oI]) (by have hfk : pflt (0, sr, cx, cy, 0, Cd) Bt len = none := (by rw [show len = k by omega]; exact hf); simp only [pend, hfk]; rw [show len = k by omega])
  · refine G_aload_n C dX5_parse_19 rfl 20 rfl ?_
    refine G_getf C dX5_parse_20 wF_X5 wf_X5_9 (f := 0) (by decide) (ci := 5) rfl 0 rfl rfl 23 rfl ?_
    refine G_iload_n C dX5_parse_23 rfl 24 rfl ?_
    refine G_ialdN C dX5_parse_24 1 rfl rfl (by omega) 25 rfl ?_
    refine G_bipush C dX5_parse_25 (v := nI 32) (by decide) 27 rfl ?_
    refine G_icmp_eq C dX5_parse_27 42 rfl 30 rfl (nI_eq (by have := hB k (by omega); omega) (by omega)) (fun h_2 => ?_) (fun h_2 => ?_)
    · refine G_iload_n C dX5_parse_42 rfl 43 rfl ?_
      refine G_bipush C dX5_parse_43 (v := nI 6) (by decide) 45 rfl ?_
      refine G_icmp_ne_t C dX5_parse_45 50 rfl (by rw [nI_eq (by have := hv.1; omega) (by omega)]; have := hv.1; omega) ?_
      refine G_iinc C dX5_parse_50 1 rfl (nI_1 _) (by decide) [(2, .int (nI (k + 1))), (1, .int (nI ((pk (0, sr, cx, cy, 0, Cd) Bt k).1))), (0, .ref to)] rfl 53 rfl ?_
      refine G_goto C dX5_parse_53 11 rfl ?_
      refine G_sel [1, 0, 2] [(1, .int (nI ((pk (0, sr, cx, cy, 0, Cd) Bt k).1))), (2, .int (nI (k + 1))), (0, .ref to)] rfl ?_
      refine G_eq (ws' := [(to, .inr (5, [.ref tb, .ref o, .int (nI len), .int (nI ((pk (0, sr, cx, cy, 0, Cd) Bt (k + 1)).2.1)), .int (fld (pk (0, sr, cx, cy, 0, Cd) Bt (k + 1)).2.2.1), .int (fld (pk (0, sr, cx, cy, 0, Cd) Bt (k + 1)).2.2.2.1)])), (tb, .inl (E.2.1, 120, .inl (aN Bt))), (o, .inr (2, [.ref a, .int (nI ((pk (0, sr, cx, cy, 0, Cd) Bt (k + 1)).2.2.2.2.1))])), (a, .inl (E.2.1, 14, .inl (aN ((pk (0, sr, cx, cy, 0, Cd) Bt (k + 1)).2.2.2.2.2))))]) (L' := [(1, .int (nI ((pk (0, sr, cx, cy, 0, Cd) Bt (k + 1)).1))), (2, .int (nI (k + 1))), (0, .ref to)]) (by simp only [pk]; rw [if_pos h_2]) (by simp only [pk]; rw [if_pos h_2]) rfl ?_
      exact ih (k + 1) ⟨by omega, pflt_s hf (by simp only [pk]; rw [if_pos h_2]; exact fun e => absurd hv.1 (by rw [e]; omega))⟩ (by omega)
    · refine G_aload_n C dX5_parse_30 rfl 31 rfl ?_
      refine G_iload_n C dX5_parse_31 rfl 32 rfl ?_
      refine G_aload_n C dX5_parse_32 rfl 33 rfl ?_
      refine G_getf C dX5_parse_33 wF_X5 wf_X5_9 (f := 0) (by decide) (ci := 5) rfl 0 rfl rfl 36 rfl ?_
      refine G_iload_n C dX5_parse_36 rfl 37 rfl ?_
      refine G_ialdN C dX5_parse_37 1 rfl rfl (by omega) 38 rfl ?_
      refine G_cV C dX5_parse_38 (c_X5_stepBehind l E to tb o len ((pk (0, sr, cx, cy, 0, Cd) Bt k).2.1) ((pk (0, sr, cx, cy, 0, Cd) Bt k).2.2.1) ((pk (0, sr, cx, cy, 0, Cd) Bt k).2.2.2.1) a ((pk (0, sr, cx, cy, 0, Cd) Bt k).2.2.2.2.1) ((pk (0, sr, cx, cy, 0, Cd) Bt k).2.2.2.2.2) ((pk (0, sr, cx, cy, 0, Cd) Bt k).1) (Bt k) (hB k (by omega)) hv) wm_X5_29 wi_X5_stepBehind wsel_X5_stepBehind wn_X5 wc_X5_stepBehind rfl rfl ⟨by decide, by decide, rfl⟩ rfl (Nat.le_of_ble_eq_true rfl) 5 rfl rfl 0 rfl [0, 2, 3] [1] (wr := [(tb, .inl (E.2.1, 120, .inl (aN Bt)))]) rfl rfl rfl rfl rfl [1, 0, 2, 3] rfl [(to, .inr (5, [.ref tb, .ref o, .int (nI len), .int (nI ((pstep (((pk (0, sr, cx, cy, 0, Cd) Bt k).1), ((pk (0, sr, cx, cy, 0, Cd) Bt k).2.1), ((pk (0, sr, cx, cy, 0, Cd) Bt k).2.2.1), ((pk (0, sr, cx, cy, 0, Cd) Bt k).2.2.2.1), ((pk (0, sr, cx, cy, 0, Cd) Bt k).2.2.2.2.1), ((pk (0, sr, cx, cy, 0, Cd) Bt k).2.2.2.2.2)) (Bt k)).2.1)), .int (fld (pstep (((pk (0, sr, cx, cy, 0, Cd) Bt k).1), ((pk (0, sr, cx, cy, 0, Cd) Bt k).2.1), ((pk (0, sr, cx, cy, 0, Cd) Bt k).2.2.1), ((pk (0, sr, cx, cy, 0, Cd) Bt k).2.2.2.1), ((pk (0, sr, cx, cy, 0, Cd) Bt k).2.2.2.2.1), ((pk (0, sr, cx, cy, 0, Cd) Bt k).2.2.2.2.2)) (Bt k)).2.2.1), .int (fld (pstep (((pk (0, sr, cx, cy, 0, Cd) Bt k).1), ((pk (0, sr, cx, cy, 0, Cd) Bt k).2.1), ((pk (0, sr, cx, cy, 0, Cd) Bt k).2.2.1), ((pk (0, sr, cx, cy, 0, Cd) Bt k).2.2.2.1), ((pk (0, sr, cx, cy, 0, Cd) Bt k).2.2.2.2.1), ((pk (0, sr, cx, cy, 0, Cd) Bt k).2.2.2.2.2)) (Bt k)).2.2.2.1)])), (tb, .inl (E.2.1, 120, .inl (aN Bt))), (o, .inr (2, [.ref a, .int (nI ((pstep (((pk (0, sr, cx, cy, 0, Cd) Bt k).1), ((pk (0, sr, cx, cy, 0, Cd) Bt k).2.1), ((pk (0, sr, cx, cy, 0, Cd) Bt k).2.2.1), ((pk (0, sr, cx, cy, 0, Cd) Bt k).2.2.2.1), ((pk (0, sr, cx, cy, 0, Cd) Bt k).2.2.2.2.1), ((pk (0, sr, cx, cy, 0, Cd) Bt k).2.2.2.2.2)) (Bt k)).2.2.2.2.1))])), (a, .inl (E.2.1, 14, .inl (aN ((pstep (((pk (0, sr, cx, cy, 0, Cd) Bt k).1), ((pk (0, sr, cx, cy, 0, Cd) Bt k).2.1), ((pk (0, sr, cx, cy, 0, Cd) Bt k).2.2.1), ((pk (0, sr, cx, cy, 0, Cd) Bt k).2.2.2.1), ((pk (0, sr, cx, cy, 0, Cd) Bt k).2.2.2.2.1), ((pk (0, sr, cx, cy, 0, Cd) Bt k).2.2.2.2.2)) (Bt k)).2.2.2.2.2))))] rfl rfl [.int (nI ((pstep (((pk (0, sr, cx, cy, 0, Cd) Bt k).1), ((pk (0, sr, cx, cy, 0, Cd) Bt k).2.1), ((pk (0, sr, cx, cy, 0, Cd) Bt k).2.2.1), ((pk (0, sr, cx, cy, 0, Cd) Bt k).2.2.2.1), ((pk (0, sr, cx, cy, 0, Cd) Bt k).2.2.2.2.1), ((pk (0, sr, cx, cy, 0, Cd) Bt k).2.2.2.2.2)) (Bt k)).1))] rfl 41 rfl ?_
      refine G_istore_n C dX5_parse_41 (by decide) [(1, .int (nI ((pstep (((pk (0, sr, cx, cy, 0, Cd) Bt k).1), ((pk (0, sr, cx, cy, 0, Cd) Bt k).2.1), ((pk (0, sr, cx, cy, 0, Cd) Bt k).2.2.1), ((pk (0, sr, cx, cy, 0, Cd) Bt k).2.2.2.1), ((pk (0, sr, cx, cy, 0, Cd) Bt k).2.2.2.2.1), ((pk (0, sr, cx, cy, 0, Cd) Bt k).2.2.2.2.2)) (Bt k)).1))), (2, .int (nI k)), (0, .ref to)] rfl 42 rfl ?_
      refine G_iload_n C dX5_parse_42 rfl 43 rfl ?_
      refine G_bipush C dX5_parse_43 (v := nI 6) (by decide) 45 rfl ?_
      refine G_icmp_ne C dX5_parse_45 50 rfl 48 rfl (nI_eq (pstep_lt _ _ hv) (by omega)) (fun h_3 => ?_) (fun h_3 => ?_)
      · refine G_iinc C dX5_parse_50 1 rfl (nI_1 _) (by decide) [(2, .int (nI (k + 1))), (1, .int (nI ((pstep (((pk (0, sr, cx, cy, 0, Cd) Bt k).1), ((pk (0, sr, cx, cy, 0, Cd) Bt k).2.1), ((pk (0, sr, cx, cy, 0, Cd) Bt k).2.2.1), ((pk (0, sr, cx, cy, 0, Cd) Bt k).2.2.2.1), ((pk (0, sr, cx, cy, 0, Cd) Bt k).2.2.2.2.1), ((pk (0, sr, cx, cy, 0, Cd) Bt k).2.2.2.2.2)) (Bt k)).1))), (0, .ref to)] rfl 53 rfl ?_
        refine G_goto C dX5_parse_53 11 rfl ?_
        refine G_sel [1, 0, 2] [(1, .int (nI ((pstep (((pk (0, sr, cx, cy, 0, Cd) Bt k).1), ((pk (0, sr, cx, cy, 0, Cd) Bt k).2.1), ((pk (0, sr, cx, cy, 0, Cd) Bt k).2.2.1), ((pk (0, sr, cx, cy, 0, Cd) Bt k).2.2.2.1), ((pk (0, sr, cx, cy, 0, Cd) Bt k).2.2.2.2.1), ((pk (0, sr, cx, cy, 0, Cd) Bt k).2.2.2.2.2)) (Bt k)).1))), (2, .int (nI (k + 1))), (0, .ref to)] rfl ?_
        refine G_eq (ws' := [(to, .inr (5, [.ref tb, .ref o, .int (nI len), .int (nI ((pk (0, sr, cx, cy, 0, Cd) Bt (k + 1)).2.1)), .int (fld (pk (0, sr, cx, cy, 0, Cd) Bt (k + 1)).2.2.1), .int (fld (pk (0, sr, cx, cy, 0, Cd) Bt (k + 1)).2.2.2.1)])), (tb, .inl (E.2.1, 120, .inl (aN Bt))), (o, .inr (2, [.ref a, .int (nI ((pk (0, sr, cx, cy, 0, Cd) Bt (k + 1)).2.2.2.2.1))])), (a, .inl (E.2.1, 14, .inl (aN ((pk (0, sr, cx, cy, 0, Cd) Bt (k + 1)).2.2.2.2.2))))]) (L' := [(1, .int (nI ((pk (0, sr, cx, cy, 0, Cd) Bt (k + 1)).1))), (2, .int (nI (k + 1))), (0, .ref to)]) (by simp only [pk]; rw [if_neg h_2]) (by simp only [pk]; rw [if_neg h_2]) rfl ?_
        exact ih (k + 1) ⟨by omega, pflt_s hf (by simp only [pk]; rw [if_neg h_2]; exact h_3)⟩ (by omega)
      · refine G_iload_n C dX5_parse_48 rfl 49 rfl ?_
        exact G_iret C hr dX5_parse_49 rfl () trivial (by have hfk : pflt (0, sr, cx, cy, 0, Cd) Bt len = some k := (by have e := pflt_stay (pflt_f hf (by simp only [pk]; rw [if_neg h_2]; exact h_3)) (len - (k + 1)); rw [show k + 1 + (len - (k + 1)) = len by omega] at e; exact e); simp only [pres, hfk]; rfl) (by have hfk : pflt (0, sr, cx, cy, 0, Cd) Bt len = some k := (by have e := pflt_stay (pflt_f hf (by simp only [pk]; rw [if_neg h_2]; exact h_3)) (len - (k + 1)); rw [show k + 1 + (len - (k + 1)) = len by omega] at e; exact e); simp only [pend, hfk, pk, if_neg h_2])
