set_option maxHeartbeats 4000000 in
set_option maxRecDepth 100000 in
theorem c_X7_within (l : Launch) (E : gE) (v lo hi : Int32)  : FD l E yX7_within cX7_within 3 (some .boolean) { frames := 0, cells := 0, slots := 0, locals := 0 } [.int v, .int lo, .int hi] [] (some (.int (bI (decide (lo.toInt ≤ v.toInt ∧ v.toInt ≤ hi.toInt))))) [] := by
  refine Fn_ofL (own := RX7) (by decide) rfl rfl [(0, .int v), (1, .int lo), (2, .int hi)] rfl ?_
  intro p e s m below meth c A C hr hnm
  refine G_iload_n C dX7_within_0 rfl 1 rfl ?_
  refine G_iload_n C dX7_within_1 rfl 2 rfl ?_
  refine G_icmp_lt C dX7_within_2 14 rfl 5 rfl (i_lt _ _) (fun h_1 => ?_) (fun h_1 => ?_)
  · refine G_iconst C dX7_within_14 (v := nI 0) rfl 15 rfl ?_
    exact G_iret C hr dX7_within_15 (by decide) () trivial (bI_r0 (by omega)) rfl
  · refine G_iload_n C dX7_within_5 rfl 6 rfl ?_
    refine G_iload_n C dX7_within_6 rfl 7 rfl ?_
    refine G_icmp_gt C dX7_within_7 14 rfl 10 rfl (i_lt _ _) (fun h_2 => ?_) (fun h_2 => ?_)
    · refine G_iconst C dX7_within_14 (v := nI 0) rfl 15 rfl ?_
      exact G_iret C hr dX7_within_15 (by decide) () trivial (bI_r0 (by omega)) rfl
    · refine G_iconst C dX7_within_10 (v := nI 1) rfl 11 rfl ?_
      refine G_goto C dX7_within_11 15 rfl ?_
      exact G_iret C hr dX7_within_15 (by decide) () trivial (bI_r1 (by omega)) rfl

set_option maxHeartbeats 4000000 in
set_option maxRecDepth 100000 in
theorem c_X6_below (l : Launch) (E : gE) (v : Int32) (b : Nat) (hb : b < 2 ^ 31) : FD l E yX6_below cX6_below 2 (some .boolean) { frames := 0, cells := 0, slots := 0, locals := 0 } [.int v, .int (nI b)] [] (some (.int (bI (decide (0 ≤ v.toInt ∧ v.toInt < b))))) [] := by
  refine Fn_ofL (own := RX6) (by decide) rfl rfl [(0, .int v), (1, .int (nI b))] rfl ?_
  intro p e s m below meth c A C hr hnm
  refine G_iload_n C dX6_below_0 rfl 1 rfl ?_
  refine G_if_lt C dX6_below_1 13 rfl 4 rfl (i_lt0 _) (fun h_1 => ?_) (fun h_1 => ?_)
  · refine G_iconst C dX6_below_13 (v := nI 0) rfl 14 rfl ?_
    exact G_iret C hr dX6_below_14 (by decide) () trivial (bI_r0 (by omega)) rfl
  · refine G_iload_n C dX6_below_4 rfl 5 rfl ?_
    refine G_iload_n C dX6_below_5 rfl 6 rfl ?_
    refine G_icmp_ge C dX6_below_6 13 rfl 9 rfl (i_Nle _ (by omega)) (fun h_2 => ?_) (fun h_2 => ?_)
    · refine G_iconst C dX6_below_13 (v := nI 0) rfl 14 rfl ?_
      exact G_iret C hr dX6_below_14 (by decide) () trivial (bI_r0 (by omega)) rfl
    · refine G_iconst C dX6_below_9 (v := nI 1) rfl 10 rfl ?_
      refine G_goto C dX6_below_10 14 rfl ?_
      exact G_iret C hr dX6_below_14 (by decide) () trivial (bI_r1 (by omega)) rfl

set_option maxHeartbeats 4000000 in
set_option maxRecDepth 100000 in
theorem c_X6_isName (l : Launch) (E : gE) (v : Int32)  : FD l E yX6_isName cX6_isName 1 (some .boolean) { frames := 1, cells := 0, slots := 0, locals := 21 } [.int v] [] (some (.int (bI (inb v 10)))) [] := by
  refine Fn_ofL (own := RX6) (by decide) rfl rfl [(0, .int v)] rfl ?_
  intro p e s m below meth c A C hr hnm
  refine G_iload_n C dX6_isName_0 rfl 1 rfl ?_
  refine G_bipush C dX6_isName_1 (v := nI 10) (by decide) 3 rfl ?_
  refine G_cS C dX6_isName_3 (c_X6_below l E v 10 (by first | assumption | omega)) wm_X6_51 wt_X6_below wn_X6 wc_X6_below rfl rfl ⟨by decide, by decide, rfl⟩ rfl (Nat.le_of_ble_eq_true rfl) [] [] (wr := []) rfl rfl rfl rfl rfl [] rfl [] rfl rfl [.int (bI (decide (0 ≤ v.toInt ∧ v.toInt < 10)))] rfl 6 rfl ?_
  exact G_iret C hr dX6_isName_6 (bI_nar _) () trivial rfl rfl

set_option maxHeartbeats 4000000 in
set_option maxRecDepth 100000 in
theorem c_X6_isRounds (l : Launch) (E : gE) (v : Int32)  : FD l E yX6_isRounds cX6_isRounds 1 (some .boolean) { frames := 1, cells := 0, slots := 0, locals := 21 } [.int v] [] (some (.int (bI (inb v 10)))) [] := by
  refine Fn_ofL (own := RX6) (by decide) rfl rfl [(0, .int v)] rfl ?_
  intro p e s m below meth c A C hr hnm
  refine G_iload_n C dX6_isRounds_0 rfl 1 rfl ?_
  refine G_bipush C dX6_isRounds_1 (v := nI 10) (by decide) 3 rfl ?_
  refine G_cS C dX6_isRounds_3 (c_X6_below l E v 10 (by first | assumption | omega)) wm_X6_51 wt_X6_below wn_X6 wc_X6_below rfl rfl ⟨by decide, by decide, rfl⟩ rfl (Nat.le_of_ble_eq_true rfl) [] [] (wr := []) rfl rfl rfl rfl rfl [] rfl [] rfl rfl [.int (bI (decide (0 ≤ v.toInt ∧ v.toInt < 10)))] rfl 6 rfl ?_
  exact G_iret C hr dX6_isRounds_6 (bI_nar _) () trivial rfl rfl

set_option maxHeartbeats 4000000 in
set_option maxRecDepth 100000 in
theorem c_X6_asNumber (l : Launch) (E : gE) (b : Bool)  : FD l E yX6_asNumber cX6_asNumber 1 (some .int) { frames := 0, cells := 0, slots := 0, locals := 0 } [.int (bI b)] [] (some (.int (bI b))) [] := by
  refine Fn_ofL (own := RX6) (by decide) rfl rfl [(0, .int (bI b))] rfl ?_
  intro p e s m below meth c A C hr hnm
  refine G_iload_n C dX6_asNumber_0 rfl 1 rfl ?_
  refine G_if_eq C dX6_asNumber_1 8 rfl 4 rfl (bI_0 _) (fun h_1 => ?_) (fun h_1 => ?_)
  · refine G_iconst C dX6_asNumber_8 (v := nI 0) rfl 9 rfl ?_
    exact G_iret C hr dX6_asNumber_9 rfl () trivial (bI_rf (by simp [*])) rfl
  · refine G_iconst C dX6_asNumber_4 (v := nI 1) rfl 5 rfl ?_
    refine G_goto C dX6_asNumber_5 9 rfl ?_
    exact G_iret C hr dX6_asNumber_9 rfl () trivial (bI_rt (by simp [*])) rfl

set_option maxHeartbeats 4000000 in
set_option maxRecDepth 100000 in
theorem c_X6_bit (l : Launch) (E : gE) (x : Nat) (hx : x < 31) : FD l E yX6_bit cX6_bit 1 (some .int) { frames := 0, cells := 0, slots := 0, locals := 0 } [.int (nI x)] [] (some (.int (nI (2 ^ x)))) [] := by
  refine Fn_ofL (own := RX6) (by decide) rfl rfl [(0, .int (nI x))] rfl ?_
  intro p e s m below meth c A C hr hnm
  refine G_iconst C dX6_bit_0 (v := nI 1) rfl 1 rfl ?_
  refine G_iload_n C dX6_bit_1 rfl 2 rfl ?_
  refine G_ishl C dX6_bit_2 (v := nI (2 ^ x)) (nI_bit _ (by omega)) 3 rfl ?_
  exact G_iret C hr dX6_bit_3 rfl () trivial rfl rfl

set_option maxHeartbeats 4000000 in
set_option maxRecDepth 100000 in
theorem c_X2_size (l : Launch) (E : gE) (o a n : Nat) (Cd : Nat → Nat)  : FD l E yX2_size cX2_size 1 (some .int) { frames := 0, cells := 0, slots := 0, locals := 0 } [.ref o] [(o, .inr (2, [.ref a, .int (nI n)])), (a, .inl (E.2.1, 14, .inl (aN Cd)))] (some (.int (nI n))) [(o, .inr (2, [.ref a, .int (nI n)])), (a, .inl (E.2.1, 14, .inl (aN Cd)))] := by
  refine Fn_ofL (own := RX2) (by decide) rfl rfl [(0, .ref o)] rfl ?_
  intro p e s m below meth c A C hr hnm
  refine G_aload_n C dX2_size_0 rfl 1 rfl ?_
  refine G_getf C dX2_size_1 wF_X2 wf_X2_15 (f := 1) (by decide) (ci := 2) rfl 0 rfl rfl 4 rfl ?_
  exact G_iret C hr dX2_size_4 rfl () trivial rfl rfl

set_option maxHeartbeats 4000000 in
set_option maxRecDepth 100000 in
theorem c_X2_sortAt (l : Launch) (E : gE) (o a n : Nat) (Cd : Nat → Nat) (i v : Nat) (hi : i < 14) (hc : Cd i = ce v) (hv : v < 400) : FD l E yX2_sortAt cX2_sortAt 2 (some .int) { frames := 0, cells := 0, slots := 0, locals := 0 } [.ref o, .int (nI i)] [(o, .inr (2, [.ref a, .int (nI n)])), (a, .inl (E.2.1, 14, .inl (aN Cd)))] (some (.int (nI (v / 100)))) [(o, .inr (2, [.ref a, .int (nI n)])), (a, .inl (E.2.1, 14, .inl (aN Cd)))] := by
  refine Fn_ofL (own := RX2) (by decide) rfl rfl [(0, .ref o), (1, .int (nI i))] rfl ?_
  intro p e s m below meth c A C hr hnm
  refine G_aload_n C dX2_sortAt_0 rfl 1 rfl ?_
  refine G_getf C dX2_sortAt_1 wF_X2 wf_X2_9 (f := 0) (by decide) (ci := 2) rfl 0 rfl rfl 4 rfl ?_
  refine G_iload_n C dX2_sortAt_4 rfl 5 rfl ?_
  refine G_ialdN C dX2_sortAt_5 1 rfl rfl (by omega) 6 rfl ?_
  refine G_bipush C dX2_sortAt_6 (v := nI 8) (by decide) 8 rfl ?_
  refine G_ishr C dX2_sortAt_8 (v := nI (v / 100)) (ce_sort hc hv) 9 rfl ?_
  exact G_iret C hr dX2_sortAt_9 rfl () trivial rfl rfl

set_option maxHeartbeats 4000000 in
set_option maxRecDepth 100000 in
theorem c_X2_leftAt (l : Launch) (E : gE) (o a n : Nat) (Cd : Nat → Nat) (i v : Nat) (hi : i < 14) (hc : Cd i = ce v) (hv : v < 400) : FD l E yX2_leftAt cX2_leftAt 2 (some .int) { frames := 0, cells := 0, slots := 0, locals := 0 } [.ref o, .int (nI i)] [(o, .inr (2, [.ref a, .int (nI n)])), (a, .inl (E.2.1, 14, .inl (aN Cd)))] (some (.int (nI (v / 10 % 10)))) [(o, .inr (2, [.ref a, .int (nI n)])), (a, .inl (E.2.1, 14, .inl (aN Cd)))] := by
  refine Fn_ofL (own := RX2) (by decide) rfl rfl [(0, .ref o), (1, .int (nI i))] rfl ?_
  intro p e s m below meth c A C hr hnm
  refine G_aload_n C dX2_leftAt_0 rfl 1 rfl ?_
  refine G_getf C dX2_leftAt_1 wF_X2 wf_X2_9 (f := 0) (by decide) (ci := 2) rfl 0 rfl rfl 4 rfl ?_
  refine G_iload_n C dX2_leftAt_4 rfl 5 rfl ?_
  refine G_ialdN C dX2_leftAt_5 1 rfl rfl (by omega) 6 rfl ?_
  refine G_iconst C dX2_leftAt_6 (v := nI 4) rfl 7 rfl ?_
  refine G_ishr C dX2_leftAt_7 (v := (nI (Cd i)) >>> ((nI 4) &&& 31)) rfl 8 rfl ?_
  refine G_bipush C dX2_leftAt_8 (v := nI 15) (by decide) 10 rfl ?_
  refine G_iand C dX2_leftAt_10 (v := nI (v / 10 % 10)) (ce_left hc hv) 11 rfl ?_
  exact G_iret C hr dX2_leftAt_11 rfl () trivial rfl rfl

set_option maxHeartbeats 4000000 in
set_option maxRecDepth 100000 in
theorem c_X2_rightAt (l : Launch) (E : gE) (o a n : Nat) (Cd : Nat → Nat) (i v : Nat) (hi : i < 14) (hc : Cd i = ce v) (hv : v < 400) : FD l E yX2_rightAt cX2_rightAt 2 (some .int) { frames := 0, cells := 0, slots := 0, locals := 0 } [.ref o, .int (nI i)] [(o, .inr (2, [.ref a, .int (nI n)])), (a, .inl (E.2.1, 14, .inl (aN Cd)))] (some (.int (nI (v % 10)))) [(o, .inr (2, [.ref a, .int (nI n)])), (a, .inl (E.2.1, 14, .inl (aN Cd)))] := by
  refine Fn_ofL (own := RX2) (by decide) rfl rfl [(0, .ref o), (1, .int (nI i))] rfl ?_
  intro p e s m below meth c A C hr hnm
  refine G_aload_n C dX2_rightAt_0 rfl 1 rfl ?_
  refine G_getf C dX2_rightAt_1 wF_X2 wf_X2_9 (f := 0) (by decide) (ci := 2) rfl 0 rfl rfl 4 rfl ?_
  refine G_iload_n C dX2_rightAt_4 rfl 5 rfl ?_
  refine G_ialdN C dX2_rightAt_5 1 rfl rfl (by omega) 6 rfl ?_
  refine G_bipush C dX2_rightAt_6 (v := nI 15) (by decide) 8 rfl ?_
  refine G_iand C dX2_rightAt_8 (v := nI (v % 10)) (ce_right hc hv) 9 rfl ?_
  exact G_iret C hr dX2_rightAt_9 rfl () trivial rfl rfl
