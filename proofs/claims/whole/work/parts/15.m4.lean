set_option maxHeartbeats 4000000 in
set_option maxRecDepth 100000 in
theorem c_X6_as1 (l : Launch) (E : gE)   : FD l E yX6_asNumber cX6_asNumber 1 (some .int) { frames := 0, cells := 0, slots := 0, locals := 0 } [.int (nI 1)] [] (some (.int (nI 1))) [] := by
  refine Fn_ofL (own := RX6) (by decide) rfl rfl [(0, .int (nI 1))] rfl ?_
  intro p e s m below meth c A C hr hnm
  refine G_iload_n C dX6_asNumber_0 rfl 1 rfl ?_
  refine G_if_eq_f C dX6_asNumber_1 8 rfl 4 rfl (by decide) ?_
  refine G_iconst C dX6_asNumber_4 (v := nI 1) rfl 5 rfl ?_
  refine G_goto C dX6_asNumber_5 9 rfl ?_
  exact G_iret C hr dX6_asNumber_9 rfl () trivial rfl rfl

set_option maxHeartbeats 4000000 in
set_option maxRecDepth 100000 in
theorem c_X6_as0 (l : Launch) (E : gE)   : FD l E yX6_asNumber cX6_asNumber 1 (some .int) { frames := 0, cells := 0, slots := 0, locals := 0 } [.int (nI 0)] [] (some (.int (nI 0))) [] := by
  refine Fn_ofL (own := RX6) (by decide) rfl rfl [(0, .int (nI 0))] rfl ?_
  intro p e s m below meth c A C hr hnm
  refine G_iload_n C dX6_asNumber_0 rfl 1 rfl ?_
  refine G_if_eq_t C dX6_asNumber_1 8 rfl (by decide) ?_
  refine G_iconst C dX6_asNumber_8 (v := nI 0) rfl 9 rfl ?_
  exact G_iret C hr dX6_asNumber_9 rfl () trivial rfl rfl

set_option maxHeartbeats 4000000 in
set_option maxRecDepth 100000 in
theorem c_X0_groupOf (l : Launch) (E : gE) (co cg ct : Nat) (Gp : Nat → Nat) (Tt : Nat → Option Nat) (x : Nat) (hx : x < 10) : FD l E yX0_groupOf cX0_groupOf 2 (some .int) { frames := 0, cells := 0, slots := 0, locals := 0 } [.ref co, .int (nI x)] [(co, .inr (0, [.ref cg, .ref ct])), (cg, .inl (E.2.1, 10, .inl (aN Gp))), (ct, .inl (E.2.1, 10, .inl (aO Tt)))] (some (.int (nI (Gp x)))) [(co, .inr (0, [.ref cg, .ref ct])), (cg, .inl (E.2.1, 10, .inl (aN Gp))), (ct, .inl (E.2.1, 10, .inl (aO Tt)))] := by
  refine Fn_ofL (own := RX0) (by decide) rfl rfl [(0, .ref co), (1, .int (nI x))] rfl ?_
  intro p e s m below meth c A C hr hnm
  refine G_aload_n C dX0_groupOf_0 rfl 1 rfl ?_
  refine G_getf C dX0_groupOf_1 wF_X0 wf_X0_9 (f := 0) (by decide) (ci := 0) rfl 0 rfl rfl 4 rfl ?_
  refine G_iload_n C dX0_groupOf_4 rfl 5 rfl ?_
  refine G_ialdN C dX0_groupOf_5 1 rfl rfl (by omega) 6 rfl ?_
  exact G_iret C hr dX0_groupOf_6 rfl () trivial rfl rfl

set_option maxHeartbeats 4000000 in
set_option maxRecDepth 100000 in
theorem c_X0_targetOf (l : Launch) (E : gE) (co cg ct : Nat) (Gp : Nat → Nat) (Tt : Nat → Option Nat) (t : Option Nat) (ht : ook t) : FD l E yX0_targetOf cX0_targetOf 2 (some .int) { frames := 0, cells := 0, slots := 0, locals := 0 } [.ref co, .int (oI t)] [(co, .inr (0, [.ref cg, .ref ct])), (cg, .inl (E.2.1, 10, .inl (aN Gp))), (ct, .inl (E.2.1, 10, .inl (aO Tt)))] (some (.int (oI (t.bind Tt)))) [(co, .inr (0, [.ref cg, .ref ct])), (cg, .inl (E.2.1, 10, .inl (aN Gp))), (ct, .inl (E.2.1, 10, .inl (aO Tt)))] := by
  refine Fn_ofL (own := RX0) (by decide) rfl rfl [(0, .ref co), (1, .int (oI t))] rfl ?_
  intro p e s m below meth c A C hr hnm
  cases t with
  | none =>
    refine G_iload_n C dX0_targetOf_0 rfl 1 rfl ?_
    refine G_iconst C dX0_targetOf_1 (v := oI none) rfl 2 rfl ?_
    refine G_icmp_ne_f C dX0_targetOf_2 9 rfl 5 rfl (by decide) ?_
    refine G_iconst C dX0_targetOf_5 (v := oI none) rfl 6 rfl ?_
    refine G_goto C dX0_targetOf_6 15 rfl ?_
    exact G_iret C hr dX0_targetOf_15 rfl () trivial rfl rfl
  | some g =>
    have hg : g < 10 := ht g rfl
    refine G_eq (L' := [(0, .ref co), (1, .int (nI g))]) rfl rfl rfl ?_
    refine G_iload_n C dX0_targetOf_0 rfl 1 rfl ?_
    refine G_iconst C dX0_targetOf_1 (v := oI none) rfl 2 rfl ?_
    refine G_icmp_ne_t C dX0_targetOf_2 9 rfl (oI_ne (by omega)) ?_
    refine G_aload_n C dX0_targetOf_9 rfl 10 rfl ?_
    refine G_getf C dX0_targetOf_10 wF_X0 wf_X0_15 (f := 1) (by decide) (ci := 0) rfl 0 rfl rfl 13 rfl ?_
    refine G_iload_n C dX0_targetOf_13 rfl 14 rfl ?_
    refine G_ialdO C dX0_targetOf_14 2 rfl rfl (by omega) 15 rfl ?_
    exact G_iret C hr dX0_targetOf_15 rfl () trivial rfl rfl

set_option maxHeartbeats 4000000 in
set_option maxRecDepth 100000 in
theorem c_X0_membersOf (l : Launch) (E : gE) (co cg ct : Nat) (Gp : Nat → Nat) (Tt : Nat → Option Nat) (t : Option Nat) (hG : gok Gp) (ht : ook t) : FD l E yX0_membersOf cX0_membersOf 4 (some .int) { frames := 1, cells := 0, slots := 0, locals := 20 } [.ref co, .int (oI t)] [(co, .inr (0, [.ref cg, .ref ct])), (cg, .inl (E.2.1, 10, .inl (aN Gp))), (ct, .inl (E.2.1, 10, .inl (aO Tt)))] (some (.int (nI (mem Gp t 10)))) [(co, .inr (0, [.ref cg, .ref ct])), (cg, .inl (E.2.1, 10, .inl (aN Gp))), (ct, .inl (E.2.1, 10, .inl (aO Tt)))] := by
  refine Fn_ofL (own := RX0) (by decide) rfl rfl [(0, .ref co), (1, .int (oI t))] rfl ?_
  intro p e s m below meth c A C hr hnm
  refine G_iconst C dX0_membersOf_0 (v := nI 0) rfl 1 rfl ?_
  refine G_istore_n C dX0_membersOf_1 (by decide) [(2, .int (nI 0)), (0, .ref co), (1, .int (oI t))] rfl 2 rfl ?_
  refine G_iconst C dX0_membersOf_2 (v := nI 0) rfl 3 rfl ?_
  refine G_istore_n C dX0_membersOf_3 (by decide) [(3, .int (nI 0)), (2, .int (nI 0)), (0, .ref co), (1, .int (oI t))] rfl 4 rfl ?_
  refine G_sel [1, 0, 2, 3] [(2, .int (nI 0)), (3, .int (nI 0)), (0, .ref co), (1, .int (oI t))] rfl ?_
  refine G_while (X := Nat) (Wf := fun i => [(co, .inr (0, [.ref cg, .ref ct])), (cg, .inl (E.2.1, 10, .inl (aN Gp))), (ct, .inl (E.2.1, 10, .inl (aO Tt)))]) (Lf := fun i => [(2, .int (nI (mem Gp t i))), (3, .int (nI i)), (0, .ref co), (1, .int (oI t))]) (Sf := fun _ => []) (fun i => i ≤ 10) (fun i => 10 - i) (fun i hi ih => ?_) 0 (by omega)
  refine G_iload_n C dX0_membersOf_4 rfl 5 rfl ?_
  refine G_bipush C dX0_membersOf_5 (v := nI 10) (by decide) 7 rfl ?_
  refine G_icmp_ge C dX0_membersOf_7 33 rfl 10 rfl (nI_leI (by omega) (by omega)) (fun h_1 => ?_) (fun h_1 => ?_)
  · refine G_iload_n C dX0_membersOf_33 rfl 34 rfl ?_
    exact G_iret C hr dX0_membersOf_34 rfl () trivial (by rw [show i = 10 by omega]) rfl
  · refine G_aload_n C dX0_membersOf_10 rfl 11 rfl ?_
    refine G_getf C dX0_membersOf_11 wF_X0 wf_X0_9 (f := 0) (by decide) (ci := 0) rfl 0 rfl rfl 14 rfl ?_
    refine G_iload_n C dX0_membersOf_14 rfl 15 rfl ?_
    refine G_ialdN C dX0_membersOf_15 1 rfl rfl (by omega) 16 rfl ?_
    refine G_iload_n C dX0_membersOf_16 rfl 17 rfl ?_
    refine G_icmp_ne C dX0_membersOf_17 27 rfl 20 rfl (oI_eq (t := some (Gp i)) (u := t) (ook.b (ook_s (hG i (by omega)))) ht.b) (fun h_2 => ?_) (fun h_2 => ?_)
    · refine G_iinc C dX0_membersOf_27 1 rfl (nI_1 _) (by decide) [(3, .int (nI (i + 1))), (2, .int (nI (mem Gp t i))), (0, .ref co), (1, .int (oI t))] rfl 30 rfl ?_
      refine G_goto C dX0_membersOf_30 4 rfl ?_
      refine G_sel [1, 0, 2, 3] [(2, .int (nI (mem Gp t i))), (3, .int (nI (i + 1))), (0, .ref co), (1, .int (oI t))] rfl ?_
      refine G_eq (ws' := [(co, .inr (0, [.ref cg, .ref ct])), (cg, .inl (E.2.1, 10, .inl (aN Gp))), (ct, .inl (E.2.1, 10, .inl (aO Tt)))]) (L' := [(2, .int (nI (mem Gp t (i + 1)))), (3, .int (nI (i + 1))), (0, .ref co), (1, .int (oI t))]) rfl (by simp [mem, h_2]) rfl ?_
      exact ih (i + 1) (by omega) (by omega)
    · refine G_iload_n C dX0_membersOf_20 rfl 21 rfl ?_
      refine G_iload_n C dX0_membersOf_21 rfl 22 rfl ?_
      refine G_cSN C dX0_membersOf_22 (c_X6_bit l E i (by first | assumption | omega)) wq_X0_22 wt_X6_bit wn_X6 wc_X6_bit rfl rfl ⟨by decide, by decide, rfl⟩ rfl (Nat.le_of_ble_eq_true rfl) [] [0, 1, 2] (wr := [(co, .inr (0, [.ref cg, .ref ct])), (cg, .inl (E.2.1, 10, .inl (aN Gp))), (ct, .inl (E.2.1, 10, .inl (aO Tt)))]) rfl rfl rfl rfl rfl [0, 1, 2] rfl [(co, .inr (0, [.ref cg, .ref ct])), (cg, .inl (E.2.1, 10, .inl (aN Gp))), (ct, .inl (E.2.1, 10, .inl (aO Tt)))] rfl rfl [.int (nI (2 ^ i)), .int (nI (mem Gp t i))] rfl 25 rfl ?_
      refine G_ior C dX0_membersOf_25 (v := nI ((mem Gp t i) ||| (2 ^ i))) (fa_or _ _) 26 rfl ?_
      refine G_istore_n C dX0_membersOf_26 (by decide) [(2, .int (nI ((mem Gp t i) ||| (2 ^ i)))), (3, .int (nI i)), (0, .ref co), (1, .int (oI t))] rfl 27 rfl ?_
      refine G_iinc C dX0_membersOf_27 1 rfl (nI_1 _) (by decide) [(3, .int (nI (i + 1))), (2, .int (nI ((mem Gp t i) ||| (2 ^ i)))), (0, .ref co), (1, .int (oI t))] rfl 30 rfl ?_
      refine G_goto C dX0_membersOf_30 4 rfl ?_
      refine G_sel [1, 0, 2, 3] [(2, .int (nI ((mem Gp t i) ||| (2 ^ i)))), (3, .int (nI (i + 1))), (0, .ref co), (1, .int (oI t))] rfl ?_
      refine G_eq (ws' := [(co, .inr (0, [.ref cg, .ref ct])), (cg, .inl (E.2.1, 10, .inl (aN Gp))), (ct, .inl (E.2.1, 10, .inl (aO Tt)))]) (L' := [(2, .int (nI (mem Gp t (i + 1)))), (3, .int (nI (i + 1))), (0, .ref co), (1, .int (oI t))]) rfl (by simp [mem, h_2]) rfl ?_
      exact ih (i + 1) (by omega) (by omega)

set_option maxHeartbeats 4000000 in
set_option maxRecDepth 100000 in
theorem c_X0_setOf (l : Launch) (E : gE) (co cg ct : Nat) (Gp : Nat → Nat) (Tt : Nat → Option Nat) (x : Nat) (hG : gok Gp) (hT : tok Tt) (hx : x < 10) : FD l E yX0_setOf cX0_setOf 2 (some .int) { frames := 2, cells := 0, slots := 0, locals := 43 } [.ref co, .int (nI x)] [(co, .inr (0, [.ref cg, .ref ct])), (cg, .inl (E.2.1, 10, .inl (aN Gp))), (ct, .inl (E.2.1, 10, .inl (aO Tt)))] (some (.int (nI (mem Gp (Tt (Gp x)) 10)))) [(co, .inr (0, [.ref cg, .ref ct])), (cg, .inl (E.2.1, 10, .inl (aN Gp))), (ct, .inl (E.2.1, 10, .inl (aO Tt)))] := by
  refine Fn_ofL (own := RX0) (by decide) rfl rfl [(0, .ref co), (1, .int (nI x))] rfl ?_
  intro p e s m below meth c A C hr hnm
  refine G_aload_n C dX0_setOf_0 rfl 1 rfl ?_
  refine G_aload_n C dX0_setOf_1 rfl 2 rfl ?_
  refine G_getf C dX0_setOf_2 wF_X0 wf_X0_15 (f := 1) (by decide) (ci := 0) rfl 0 rfl rfl 5 rfl ?_
  refine G_aload_n C dX0_setOf_5 rfl 6 rfl ?_
  refine G_getf C dX0_setOf_6 wF_X0 wf_X0_9 (f := 0) (by decide) (ci := 0) rfl 0 rfl rfl 9 rfl ?_
  refine G_iload_n C dX0_setOf_9 rfl 10 rfl ?_
  refine G_ialdN C dX0_setOf_10 1 rfl rfl (by omega) 11 rfl ?_
  refine G_ialdO C dX0_setOf_11 2 rfl rfl (hG _ hx) 12 rfl ?_
  refine G_cV C dX0_setOf_12 (c_X0_membersOf l E co cg ct Gp Tt (Tt (Gp x)) (by first | assumption | omega) (hT _ (hG _ hx))) wm_X0_18 wi_X0_membersOf wsel_X0_membersOf wn_X0 wc_X0_membersOf rfl rfl ⟨by decide, by decide, rfl⟩ rfl (Nat.le_of_ble_eq_true rfl) 0 rfl rfl 0 rfl [0, 1, 2] [] (wr := []) rfl rfl rfl rfl rfl [0, 1, 2] rfl [(co, .inr (0, [.ref cg, .ref ct])), (cg, .inl (E.2.1, 10, .inl (aN Gp))), (ct, .inl (E.2.1, 10, .inl (aO Tt)))] rfl rfl [.int (nI (mem Gp (Tt (Gp x)) 10))] rfl 15 rfl ?_
  exact G_iret C hr dX0_setOf_15 rfl () trivial rfl rfl

set_option maxHeartbeats 4000000 in
set_option maxRecDepth 100000 in
theorem c_X0_groupCount (l : Launch) (E : gE) (co cg ct : Nat) (Gp : Nat → Nat) (Tt : Nat → Option Nat) (hG : gok Gp) (hT : tok Tt) : FD l E yX0_groupCount cX0_groupCount 3 (some .int) { frames := 1, cells := 0, slots := 0, locals := 20 } [.ref co] [(co, .inr (0, [.ref cg, .ref ct])), (cg, .inl (E.2.1, 10, .inl (aN Gp))), (ct, .inl (E.2.1, 10, .inl (aO Tt)))] (some (.int (nI (gcn Gp 10)))) [(co, .inr (0, [.ref cg, .ref ct])), (cg, .inl (E.2.1, 10, .inl (aN Gp))), (ct, .inl (E.2.1, 10, .inl (aO Tt)))] := by
  refine Fn_ofL (own := RX0) (by decide) rfl rfl [(0, .ref co)] rfl ?_
  intro p e s m below meth c A C hr hnm
  refine G_iconst C dX0_groupCount_0 (v := nI 0) rfl 1 rfl ?_
  refine G_istore_n C dX0_groupCount_1 (by decide) [(1, .int (nI 0)), (0, .ref co)] rfl 2 rfl ?_
  refine G_iconst C dX0_groupCount_2 (v := nI 0) rfl 3 rfl ?_
  refine G_istore_n C dX0_groupCount_3 (by decide) [(2, .int (nI 0)), (1, .int (nI 0)), (0, .ref co)] rfl 4 rfl ?_
  refine G_sel [1, 0, 2] [(1, .int (nI 0)), (2, .int (nI 0)), (0, .ref co)] rfl ?_
  refine G_while (X := Nat) (Wf := fun i => [(co, .inr (0, [.ref cg, .ref ct])), (cg, .inl (E.2.1, 10, .inl (aN Gp))), (ct, .inl (E.2.1, 10, .inl (aO Tt)))]) (Lf := fun i => [(1, .int (nI (gcn Gp i))), (2, .int (nI i)), (0, .ref co)]) (Sf := fun _ => []) (fun i => i ≤ 10) (fun i => 10 - i) (fun i hi ih => ?_) 0 (by omega)
  refine G_iload_n C dX0_groupCount_4 rfl 5 rfl ?_
  refine G_bipush C dX0_groupCount_5 (v := nI 10) (by decide) 7 rfl ?_
  refine G_icmp_ge C dX0_groupCount_7 37 rfl 10 rfl (nI_leI (by omega) (by omega)) (fun h_1 => ?_) (fun h_1 => ?_)
  · refine G_iload_n C dX0_groupCount_37 rfl 38 rfl ?_
    exact G_iret C hr dX0_groupCount_38 rfl () trivial (by rw [show i = 10 by omega]) rfl
  · refine G_iload_n C dX0_groupCount_10 rfl 11 rfl ?_
    refine G_aload_n C dX0_groupCount_11 rfl 12 rfl ?_
    refine G_getf C dX0_groupCount_12 wF_X0 wf_X0_9 (f := 0) (by decide) (ci := 0) rfl 0 rfl rfl 15 rfl ?_
    refine G_iload_n C dX0_groupCount_15 rfl 16 rfl ?_
    refine G_ialdN C dX0_groupCount_16 1 rfl rfl (by omega) 17 rfl ?_
    refine G_iload_n C dX0_groupCount_17 rfl 18 rfl ?_
    refine G_icmp_ne C dX0_groupCount_18 25 rfl 21 rfl (nI_eq (Nat.lt_trans (hG i (by omega)) (by decide)) (by omega)) (fun h_2 => ?_) (fun h_2 => ?_)
    · refine G_iconst C dX0_groupCount_25 (v := nI 0) rfl 26 rfl ?_
      refine G_cSN C dX0_groupCount_26 (c_X6_as0 l E  ) wq_X0_25 wt_X6_asNumber wn_X6 wc_X6_asNumber rfl rfl ⟨by decide, by decide, rfl⟩ rfl (Nat.le_of_ble_eq_true rfl) [] [0, 1, 2] (wr := [(co, .inr (0, [.ref cg, .ref ct])), (cg, .inl (E.2.1, 10, .inl (aN Gp))), (ct, .inl (E.2.1, 10, .inl (aO Tt)))]) rfl rfl rfl rfl rfl [0, 1, 2] rfl [(co, .inr (0, [.ref cg, .ref ct])), (cg, .inl (E.2.1, 10, .inl (aN Gp))), (ct, .inl (E.2.1, 10, .inl (aO Tt)))] rfl rfl [.int (nI 0), .int (nI (gcn Gp i))] rfl 29 rfl ?_
      refine G_iadd C dX0_groupCount_29 (v := nI (gcn Gp i + 0)) (nI_add _ _) 30 rfl ?_
      refine G_istore_n C dX0_groupCount_30 (by decide) [(1, .int (nI (gcn Gp i + 0))), (2, .int (nI i)), (0, .ref co)] rfl 31 rfl ?_
      refine G_iinc C dX0_groupCount_31 1 rfl (nI_1 _) (by decide) [(2, .int (nI (i + 1))), (1, .int (nI (gcn Gp i + 0))), (0, .ref co)] rfl 34 rfl ?_
      refine G_goto C dX0_groupCount_34 4 rfl ?_
      refine G_sel [1, 0, 2] [(1, .int (nI (gcn Gp i + 0))), (2, .int (nI (i + 1))), (0, .ref co)] rfl ?_
      refine G_eq (ws' := [(co, .inr (0, [.ref cg, .ref ct])), (cg, .inl (E.2.1, 10, .inl (aN Gp))), (ct, .inl (E.2.1, 10, .inl (aO Tt)))]) (L' := [(1, .int (nI (gcn Gp (i + 1)))), (2, .int (nI (i + 1))), (0, .ref co)]) rfl (by simp [gcn, h_2]) rfl ?_
      exact ih (i + 1) (by omega) (by omega)
    · refine G_iconst C dX0_groupCount_21 (v := nI 1) rfl 22 rfl ?_
      refine G_goto C dX0_groupCount_22 26 rfl ?_
      refine G_cSN C dX0_groupCount_26 (c_X6_as1 l E  ) wq_X0_25 wt_X6_asNumber wn_X6 wc_X6_asNumber rfl rfl ⟨by decide, by decide, rfl⟩ rfl (Nat.le_of_ble_eq_true rfl) [] [0, 1, 2] (wr := [(co, .inr (0, [.ref cg, .ref ct])), (cg, .inl (E.2.1, 10, .inl (aN Gp))), (ct, .inl (E.2.1, 10, .inl (aO Tt)))]) rfl rfl rfl rfl rfl [0, 1, 2] rfl [(co, .inr (0, [.ref cg, .ref ct])), (cg, .inl (E.2.1, 10, .inl (aN Gp))), (ct, .inl (E.2.1, 10, .inl (aO Tt)))] rfl rfl [.int (nI 1), .int (nI (gcn Gp i))] rfl 29 rfl ?_
      refine G_iadd C dX0_groupCount_29 (v := nI (gcn Gp i + 1)) (nI_add _ _) 30 rfl ?_
      refine G_istore_n C dX0_groupCount_30 (by decide) [(1, .int (nI (gcn Gp i + 1))), (2, .int (nI i)), (0, .ref co)] rfl 31 rfl ?_
      refine G_iinc C dX0_groupCount_31 1 rfl (nI_1 _) (by decide) [(2, .int (nI (i + 1))), (1, .int (nI (gcn Gp i + 1))), (0, .ref co)] rfl 34 rfl ?_
      refine G_goto C dX0_groupCount_34 4 rfl ?_
      refine G_sel [1, 0, 2] [(1, .int (nI (gcn Gp i + 1))), (2, .int (nI (i + 1))), (0, .ref co)] rfl ?_
      refine G_eq (ws' := [(co, .inr (0, [.ref cg, .ref ct])), (cg, .inl (E.2.1, 10, .inl (aN Gp))), (ct, .inl (E.2.1, 10, .inl (aO Tt)))]) (L' := [(1, .int (nI (gcn Gp (i + 1)))), (2, .int (nI (i + 1))), (0, .ref co)]) rfl (by simp [gcn, h_2]) rfl ?_
      exact ih (i + 1) (by omega) (by omega)

set_option maxHeartbeats 4000000 in
set_option maxRecDepth 100000 in
theorem c_X0_pointingCount (l : Launch) (E : gE) (co cg ct : Nat) (Gp : Nat → Nat) (Tt : Nat → Option Nat) (hG : gok Gp) (hT : tok Tt) : FD l E yX0_pointingCount cX0_pointingCount 3 (some .int) { frames := 1, cells := 0, slots := 0, locals := 20 } [.ref co] [(co, .inr (0, [.ref cg, .ref ct])), (cg, .inl (E.2.1, 10, .inl (aN Gp))), (ct, .inl (E.2.1, 10, .inl (aO Tt)))] (some (.int (nI (pnc Tt 10)))) [(co, .inr (0, [.ref cg, .ref ct])), (cg, .inl (E.2.1, 10, .inl (aN Gp))), (ct, .inl (E.2.1, 10, .inl (aO Tt)))] := by
  refine Fn_ofL (own := RX0) (by decide) rfl rfl [(0, .ref co)] rfl ?_
  intro p e s m below meth c A C hr hnm
  refine G_iconst C dX0_pointingCount_0 (v := nI 0) rfl 1 rfl ?_
  refine G_istore_n C dX0_pointingCount_1 (by decide) [(1, .int (nI 0)), (0, .ref co)] rfl 2 rfl ?_
  refine G_iconst C dX0_pointingCount_2 (v := nI 0) rfl 3 rfl ?_
  refine G_istore_n C dX0_pointingCount_3 (by decide) [(2, .int (nI 0)), (1, .int (nI 0)), (0, .ref co)] rfl 4 rfl ?_
  refine G_sel [1, 0, 2] [(1, .int (nI 0)), (2, .int (nI 0)), (0, .ref co)] rfl ?_
  refine G_while (X := Nat) (Wf := fun i => [(co, .inr (0, [.ref cg, .ref ct])), (cg, .inl (E.2.1, 10, .inl (aN Gp))), (ct, .inl (E.2.1, 10, .inl (aO Tt)))]) (Lf := fun i => [(1, .int (nI (pnc Tt i))), (2, .int (nI i)), (0, .ref co)]) (Sf := fun _ => []) (fun i => i ≤ 10) (fun i => 10 - i) (fun i hi ih => ?_) 0 (by omega)
  refine G_iload_n C dX0_pointingCount_4 rfl 5 rfl ?_
  refine G_bipush C dX0_pointingCount_5 (v := nI 10) (by decide) 7 rfl ?_
  refine G_icmp_ge C dX0_pointingCount_7 37 rfl 10 rfl (nI_leI (by omega) (by omega)) (fun h_1 => ?_) (fun h_1 => ?_)
  · refine G_iload_n C dX0_pointingCount_37 rfl 38 rfl ?_
    exact G_iret C hr dX0_pointingCount_38 rfl () trivial (by rw [show i = 10 by omega]) rfl
  · refine G_iload_n C dX0_pointingCount_10 rfl 11 rfl ?_
    refine G_aload_n C dX0_pointingCount_11 rfl 12 rfl ?_
    refine G_getf C dX0_pointingCount_12 wF_X0 wf_X0_15 (f := 1) (by decide) (ci := 0) rfl 0 rfl rfl 15 rfl ?_
    refine G_iload_n C dX0_pointingCount_15 rfl 16 rfl ?_
    refine G_ialdO C dX0_pointingCount_16 2 rfl rfl (by omega) 17 rfl ?_
    refine G_iconst C dX0_pointingCount_17 (v := oI none) rfl 18 rfl ?_
    refine G_icmp_eq C dX0_pointingCount_18 25 rfl 21 rfl (oI_none (hT i (by omega)).b) (fun h_2 => ?_) (fun h_2 => ?_)
    · refine G_iconst C dX0_pointingCount_25 (v := nI 0) rfl 26 rfl ?_
      refine G_cSN C dX0_pointingCount_26 (c_X6_as0 l E  ) wq_X0_25 wt_X6_asNumber wn_X6 wc_X6_asNumber rfl rfl ⟨by decide, by decide, rfl⟩ rfl (Nat.le_of_ble_eq_true rfl) [] [0, 1, 2] (wr := [(co, .inr (0, [.ref cg, .ref ct])), (cg, .inl (E.2.1, 10, .inl (aN Gp))), (ct, .inl (E.2.1, 10, .inl (aO Tt)))]) rfl rfl rfl rfl rfl [0, 1, 2] rfl [(co, .inr (0, [.ref cg, .ref ct])), (cg, .inl (E.2.1, 10, .inl (aN Gp))), (ct, .inl (E.2.1, 10, .inl (aO Tt)))] rfl rfl [.int (nI 0), .int (nI (pnc Tt i))] rfl 29 rfl ?_
      refine G_iadd C dX0_pointingCount_29 (v := nI (pnc Tt i + 0)) (nI_add _ _) 30 rfl ?_
      refine G_istore_n C dX0_pointingCount_30 (by decide) [(1, .int (nI (pnc Tt i + 0))), (2, .int (nI i)), (0, .ref co)] rfl 31 rfl ?_
      refine G_iinc C dX0_pointingCount_31 1 rfl (nI_1 _) (by decide) [(2, .int (nI (i + 1))), (1, .int (nI (pnc Tt i + 0))), (0, .ref co)] rfl 34 rfl ?_
      refine G_goto C dX0_pointingCount_34 4 rfl ?_
      refine G_sel [1, 0, 2] [(1, .int (nI (pnc Tt i + 0))), (2, .int (nI (i + 1))), (0, .ref co)] rfl ?_
      refine G_eq (ws' := [(co, .inr (0, [.ref cg, .ref ct])), (cg, .inl (E.2.1, 10, .inl (aN Gp))), (ct, .inl (E.2.1, 10, .inl (aO Tt)))]) (L' := [(1, .int (nI (pnc Tt (i + 1)))), (2, .int (nI (i + 1))), (0, .ref co)]) rfl (by simp [pnc, h_2]) rfl ?_
      exact ih (i + 1) (by omega) (by omega)
    · refine G_iconst C dX0_pointingCount_21 (v := nI 1) rfl 22 rfl ?_
      refine G_goto C dX0_pointingCount_22 26 rfl ?_
      refine G_cSN C dX0_pointingCount_26 (c_X6_as1 l E  ) wq_X0_25 wt_X6_asNumber wn_X6 wc_X6_asNumber rfl rfl ⟨by decide, by decide, rfl⟩ rfl (Nat.le_of_ble_eq_true rfl) [] [0, 1, 2] (wr := [(co, .inr (0, [.ref cg, .ref ct])), (cg, .inl (E.2.1, 10, .inl (aN Gp))), (ct, .inl (E.2.1, 10, .inl (aO Tt)))]) rfl rfl rfl rfl rfl [0, 1, 2] rfl [(co, .inr (0, [.ref cg, .ref ct])), (cg, .inl (E.2.1, 10, .inl (aN Gp))), (ct, .inl (E.2.1, 10, .inl (aO Tt)))] rfl rfl [.int (nI 1), .int (nI (pnc Tt i))] rfl 29 rfl ?_
      refine G_iadd C dX0_pointingCount_29 (v := nI (pnc Tt i + 1)) (nI_add _ _) 30 rfl ?_
      refine G_istore_n C dX0_pointingCount_30 (by decide) [(1, .int (nI (pnc Tt i + 1))), (2, .int (nI i)), (0, .ref co)] rfl 31 rfl ?_
      refine G_iinc C dX0_pointingCount_31 1 rfl (nI_1 _) (by decide) [(2, .int (nI (i + 1))), (1, .int (nI (pnc Tt i + 1))), (0, .ref co)] rfl 34 rfl ?_
      refine G_goto C dX0_pointingCount_34 4 rfl ?_
      refine G_sel [1, 0, 2] [(1, .int (nI (pnc Tt i + 1))), (2, .int (nI (i + 1))), (0, .ref co)] rfl ?_
      refine G_eq (ws' := [(co, .inr (0, [.ref cg, .ref ct])), (cg, .inl (E.2.1, 10, .inl (aN Gp))), (ct, .inl (E.2.1, 10, .inl (aO Tt)))]) (L' := [(1, .int (nI (pnc Tt (i + 1)))), (2, .int (nI (i + 1))), (0, .ref co)]) rfl (by simp [pnc, h_2]) rfl ?_
      exact ih (i + 1) (by omega) (by omega)

set_option maxHeartbeats 4000000 in
set_option maxRecDepth 100000 in
theorem c_X0_selfPointingCount (l : Launch) (E : gE) (co cg ct : Nat) (Gp : Nat → Nat) (Tt : Nat → Option Nat) (hG : gok Gp) (hT : tok Tt) : FD l E yX0_selfPointingCount cX0_selfPointingCount 3 (some .int) { frames := 1, cells := 0, slots := 0, locals := 20 } [.ref co] [(co, .inr (0, [.ref cg, .ref ct])), (cg, .inl (E.2.1, 10, .inl (aN Gp))), (ct, .inl (E.2.1, 10, .inl (aO Tt)))] (some (.int (nI (snc Tt 10)))) [(co, .inr (0, [.ref cg, .ref ct])), (cg, .inl (E.2.1, 10, .inl (aN Gp))), (ct, .inl (E.2.1, 10, .inl (aO Tt)))] := by
  refine Fn_ofL (own := RX0) (by decide) rfl rfl [(0, .ref co)] rfl ?_
  intro p e s m below meth c A C hr hnm
  refine G_iconst C dX0_selfPointingCount_0 (v := nI 0) rfl 1 rfl ?_
  refine G_istore_n C dX0_selfPointingCount_1 (by decide) [(1, .int (nI 0)), (0, .ref co)] rfl 2 rfl ?_
  refine G_iconst C dX0_selfPointingCount_2 (v := nI 0) rfl 3 rfl ?_
  refine G_istore_n C dX0_selfPointingCount_3 (by decide) [(2, .int (nI 0)), (1, .int (nI 0)), (0, .ref co)] rfl 4 rfl ?_
  refine G_sel [1, 0, 2] [(1, .int (nI 0)), (2, .int (nI 0)), (0, .ref co)] rfl ?_
  refine G_while (X := Nat) (Wf := fun i => [(co, .inr (0, [.ref cg, .ref ct])), (cg, .inl (E.2.1, 10, .inl (aN Gp))), (ct, .inl (E.2.1, 10, .inl (aO Tt)))]) (Lf := fun i => [(1, .int (nI (snc Tt i))), (2, .int (nI i)), (0, .ref co)]) (Sf := fun _ => []) (fun i => i ≤ 10) (fun i => 10 - i) (fun i hi ih => ?_) 0 (by omega)
  refine G_iload_n C dX0_selfPointingCount_4 rfl 5 rfl ?_
  refine G_bipush C dX0_selfPointingCount_5 (v := nI 10) (by decide) 7 rfl ?_
  refine G_icmp_ge C dX0_selfPointingCount_7 37 rfl 10 rfl (nI_leI (by omega) (by omega)) (fun h_1 => ?_) (fun h_1 => ?_)
  · refine G_iload_n C dX0_selfPointingCount_37 rfl 38 rfl ?_
    exact G_iret C hr dX0_selfPointingCount_38 rfl () trivial (by rw [show i = 10 by omega]) rfl
  · refine G_iload_n C dX0_selfPointingCount_10 rfl 11 rfl ?_
    refine G_aload_n C dX0_selfPointingCount_11 rfl 12 rfl ?_
    refine G_getf C dX0_selfPointingCount_12 wF_X0 wf_X0_15 (f := 1) (by decide) (ci := 0) rfl 0 rfl rfl 15 rfl ?_
    refine G_iload_n C dX0_selfPointingCount_15 rfl 16 rfl ?_
    refine G_ialdO C dX0_selfPointingCount_16 2 rfl rfl (by omega) 17 rfl ?_
    refine G_iload_n C dX0_selfPointingCount_17 rfl 18 rfl ?_
    refine G_icmp_ne C dX0_selfPointingCount_18 25 rfl 21 rfl (oI_eq (t := Tt i) (u := some i) (hT i (by omega)).b (ook.b (ook_s (by omega)))) (fun h_2 => ?_) (fun h_2 => ?_)
    · refine G_iconst C dX0_selfPointingCount_25 (v := nI 0) rfl 26 rfl ?_
      refine G_cSN C dX0_selfPointingCount_26 (c_X6_as0 l E  ) wq_X0_25 wt_X6_asNumber wn_X6 wc_X6_asNumber rfl rfl ⟨by decide, by decide, rfl⟩ rfl (Nat.le_of_ble_eq_true rfl) [] [0, 1, 2] (wr := [(co, .inr (0, [.ref cg, .ref ct])), (cg, .inl (E.2.1, 10, .inl (aN Gp))), (ct, .inl (E.2.1, 10, .inl (aO Tt)))]) rfl rfl rfl rfl rfl [0, 1, 2] rfl [(co, .inr (0, [.ref cg, .ref ct])), (cg, .inl (E.2.1, 10, .inl (aN Gp))), (ct, .inl (E.2.1, 10, .inl (aO Tt)))] rfl rfl [.int (nI 0), .int (nI (snc Tt i))] rfl 29 rfl ?_
      refine G_iadd C dX0_selfPointingCount_29 (v := nI (snc Tt i + 0)) (nI_add _ _) 30 rfl ?_
      refine G_istore_n C dX0_selfPointingCount_30 (by decide) [(1, .int (nI (snc Tt i + 0))), (2, .int (nI i)), (0, .ref co)] rfl 31 rfl ?_
      refine G_iinc C dX0_selfPointingCount_31 1 rfl (nI_1 _) (by decide) [(2, .int (nI (i + 1))), (1, .int (nI (snc Tt i + 0))), (0, .ref co)] rfl 34 rfl ?_
      refine G_goto C dX0_selfPointingCount_34 4 rfl ?_
      refine G_sel [1, 0, 2] [(1, .int (nI (snc Tt i + 0))), (2, .int (nI (i + 1))), (0, .ref co)] rfl ?_
      refine G_eq (ws' := [(co, .inr (0, [.ref cg, .ref ct])), (cg, .inl (E.2.1, 10, .inl (aN Gp))), (ct, .inl (E.2.1, 10, .inl (aO Tt)))]) (L' := [(1, .int (nI (snc Tt (i + 1)))), (2, .int (nI (i + 1))), (0, .ref co)]) rfl (by simp [snc, h_2]) rfl ?_
      exact ih (i + 1) (by omega) (by omega)
    · refine G_iconst C dX0_selfPointingCount_21 (v := nI 1) rfl 22 rfl ?_
      refine G_goto C dX0_selfPointingCount_22 26 rfl ?_
      refine G_cSN C dX0_selfPointingCount_26 (c_X6_as1 l E  ) wq_X0_25 wt_X6_asNumber wn_X6 wc_X6_asNumber rfl rfl ⟨by decide, by decide, rfl⟩ rfl (Nat.le_of_ble_eq_true rfl) [] [0, 1, 2] (wr := [(co, .inr (0, [.ref cg, .ref ct])), (cg, .inl (E.2.1, 10, .inl (aN Gp))), (ct, .inl (E.2.1, 10, .inl (aO Tt)))]) rfl rfl rfl rfl rfl [0, 1, 2] rfl [(co, .inr (0, [.ref cg, .ref ct])), (cg, .inl (E.2.1, 10, .inl (aN Gp))), (ct, .inl (E.2.1, 10, .inl (aO Tt)))] rfl rfl [.int (nI 1), .int (nI (snc Tt i))] rfl 29 rfl ?_
      refine G_iadd C dX0_selfPointingCount_29 (v := nI (snc Tt i + 1)) (nI_add _ _) 30 rfl ?_
      refine G_istore_n C dX0_selfPointingCount_30 (by decide) [(1, .int (nI (snc Tt i + 1))), (2, .int (nI i)), (0, .ref co)] rfl 31 rfl ?_
      refine G_iinc C dX0_selfPointingCount_31 1 rfl (nI_1 _) (by decide) [(2, .int (nI (i + 1))), (1, .int (nI (snc Tt i + 1))), (0, .ref co)] rfl 34 rfl ?_
      refine G_goto C dX0_selfPointingCount_34 4 rfl ?_
      refine G_sel [1, 0, 2] [(1, .int (nI (snc Tt i + 1))), (2, .int (nI (i + 1))), (0, .ref co)] rfl ?_
      refine G_eq (ws' := [(co, .inr (0, [.ref cg, .ref ct])), (cg, .inl (E.2.1, 10, .inl (aN Gp))), (ct, .inl (E.2.1, 10, .inl (aO Tt)))]) (L' := [(1, .int (nI (snc Tt (i + 1)))), (2, .int (nI (i + 1))), (0, .ref co)]) rfl (by simp [snc, h_2]) rfl ?_
      exact ih (i + 1) (by omega) (by omega)

set_option maxHeartbeats 4000000 in
set_option maxRecDepth 100000 in
theorem c_X0_total (l : Launch) (E : gE) (co cg ct : Nat) (Gp : Nat → Nat) (Tt : Nat → Option Nat) (hG : gok Gp) (hT : tok Tt) : FD l E yX0_total cX0_total 3 (some .int) { frames := 3, cells := 0, slots := 0, locals := 64 } [.ref co] [(co, .inr (0, [.ref cg, .ref ct])), (cg, .inl (E.2.1, 10, .inl (aN Gp))), (ct, .inl (E.2.1, 10, .inl (aO Tt)))] (some (.int (nI (ctot Gp Tt 10)))) [(co, .inr (0, [.ref cg, .ref ct])), (cg, .inl (E.2.1, 10, .inl (aN Gp))), (ct, .inl (E.2.1, 10, .inl (aO Tt)))] := by
  refine Fn_ofL (own := RX0) (by decide) rfl rfl [(0, .ref co)] rfl ?_
  intro p e s m below meth c A C hr hnm
  refine G_iconst C dX0_total_0 (v := nI 0) rfl 1 rfl ?_
  refine G_istore_n C dX0_total_1 (by decide) [(1, .int (nI 0)), (0, .ref co)] rfl 2 rfl ?_
  refine G_iconst C dX0_total_2 (v := nI 0) rfl 3 rfl ?_
  refine G_istore_n C dX0_total_3 (by decide) [(2, .int (nI 0)), (1, .int (nI 0)), (0, .ref co)] rfl 4 rfl ?_
  refine G_sel [1, 0, 2] [(1, .int (nI 0)), (2, .int (nI 0)), (0, .ref co)] rfl ?_
  refine G_while (X := Nat) (Wf := fun i => [(co, .inr (0, [.ref cg, .ref ct])), (cg, .inl (E.2.1, 10, .inl (aN Gp))), (ct, .inl (E.2.1, 10, .inl (aO Tt)))]) (Lf := fun i => [(1, .int (nI (ctot Gp Tt i))), (2, .int (nI i)), (0, .ref co)]) (Sf := fun _ => []) (fun i => i ≤ 10) (fun i => 10 - i) (fun i hi ih => ?_) 0 (by omega)
  refine G_iload_n C dX0_total_4 rfl 5 rfl ?_
  refine G_bipush C dX0_total_5 (v := nI 10) (by decide) 7 rfl ?_
  refine G_icmp_ge C dX0_total_7 27 rfl 10 rfl (nI_leI (by omega) (by omega)) (fun h_1 => ?_) (fun h_1 => ?_)
  · refine G_iload_n C dX0_total_27 rfl 28 rfl ?_
    exact G_iret C hr dX0_total_28 rfl () trivial (by rw [show i = 10 by omega]) rfl
  · refine G_iload_n C dX0_total_10 rfl 11 rfl ?_
    refine G_aload_n C dX0_total_11 rfl 12 rfl ?_
    refine G_iload_n C dX0_total_12 rfl 13 rfl ?_
    refine G_cV C dX0_total_13 (c_X0_setOf l E co cg ct Gp Tt i (by first | assumption | omega) (by first | assumption | omega) (by first | assumption | omega)) wm_X0_29 wi_X0_setOf wsel_X0_setOf wn_X0 wc_X0_setOf rfl rfl ⟨by decide, by decide, rfl⟩ rfl (Nat.le_of_ble_eq_true rfl) 0 rfl rfl 0 rfl [0, 1, 2] [] (wr := []) rfl rfl rfl rfl rfl [0, 1, 2] rfl [(co, .inr (0, [.ref cg, .ref ct])), (cg, .inl (E.2.1, 10, .inl (aN Gp))), (ct, .inl (E.2.1, 10, .inl (aO Tt)))] rfl rfl [.int (nI (mem Gp (Tt (Gp i)) 10)), .int (nI (ctot Gp Tt i))] rfl 16 rfl ?_
    refine G_cS C dX0_total_16 (c_J6_bitCount l E (mem Gp (Tt (Gp i)) 10) (mem_lt _ _ 10 (by omega))) wm_X0_32 wt_J6_bitCount wn_J6 wc_J6_bitCount rfl rfl ⟨by decide, by decide, rfl⟩ rfl (Nat.le_of_ble_eq_true rfl) [] [0, 1, 2] (wr := [(co, .inr (0, [.ref cg, .ref ct])), (cg, .inl (E.2.1, 10, .inl (aN Gp))), (ct, .inl (E.2.1, 10, .inl (aO Tt)))]) rfl rfl rfl rfl rfl [0, 1, 2] rfl [(co, .inr (0, [.ref cg, .ref ct])), (cg, .inl (E.2.1, 10, .inl (aN Gp))), (ct, .inl (E.2.1, 10, .inl (aO Tt)))] rfl rfl [.int (nI (pcn (mem Gp (Tt (Gp i)) 10))), .int (nI (ctot Gp Tt i))] rfl 19 rfl ?_
    refine G_iadd C dX0_total_19 (v := nI (ctot Gp Tt i + (pcn (mem Gp (Tt (Gp i)) 10)))) (nI_add _ _) 20 rfl ?_
    refine G_istore_n C dX0_total_20 (by decide) [(1, .int (nI (ctot Gp Tt i + (pcn (mem Gp (Tt (Gp i)) 10))))), (2, .int (nI i)), (0, .ref co)] rfl 21 rfl ?_
    refine G_iinc C dX0_total_21 1 rfl (nI_1 _) (by decide) [(2, .int (nI (i + 1))), (1, .int (nI (ctot Gp Tt i + (pcn (mem Gp (Tt (Gp i)) 10))))), (0, .ref co)] rfl 24 rfl ?_
    refine G_goto C dX0_total_24 4 rfl ?_
    refine G_sel [1, 0, 2] [(1, .int (nI (ctot Gp Tt i + (pcn (mem Gp (Tt (Gp i)) 10))))), (2, .int (nI (i + 1))), (0, .ref co)] rfl ?_
    exact ih (i + 1) (by omega) (by omega)

set_option maxHeartbeats 4000000 in
set_option maxRecDepth 100000 in
theorem c_X0_rename (l : Launch) (E : gE) (co cg ct : Nat) (Gp : Nat → Nat) (Tt : Nat → Option Nat) (hi lo : Nat) (hG : gok Gp) (hT : tok Tt) (hh : hi < 10) (hl : lo < 10) : FD l E yX0_rename cX0_rename 4 none { frames := 0, cells := 0, slots := 0, locals := 0 } [.ref co, .int (nI hi), .int (nI lo)] [(co, .inr (0, [.ref cg, .ref ct])), (cg, .inl (E.2.1, 10, .inl (aN Gp))), (ct, .inl (E.2.1, 10, .inl (aO Tt)))] none [(co, .inr (0, [.ref cg, .ref ct])), (cg, .inl (E.2.1, 10, .inl (aN (renN Gp hi lo 10)))), (ct, .inl (E.2.1, 10, .inl (aO (renO Tt hi lo 10))))] := by
  refine Fn_ofL (own := RX0) (by decide) rfl rfl [(0, .ref co), (1, .int (nI hi)), (2, .int (nI lo))] rfl ?_
  intro p e s m below meth c A C hr hnm
  refine G_iconst C dX0_rename_0 (v := nI 0) rfl 1 rfl ?_
  refine G_istore_n C dX0_rename_1 (by decide) [(3, .int (nI 0)), (0, .ref co), (1, .int (nI hi)), (2, .int (nI lo))] rfl 2 rfl ?_
  refine G_eq (ws' := [(co, .inr (0, [.ref cg, .ref ct])), (cg, .inl (E.2.1, 10, .inl (aN (renN Gp hi lo 0)))), (ct, .inl (E.2.1, 10, .inl (aO (renO Tt hi lo 0))))]) (by rw [renN_0, renO_0]) rfl rfl ?_
  refine G_while (X := Nat) (Wf := fun i => [(co, .inr (0, [.ref cg, .ref ct])), (cg, .inl (E.2.1, 10, .inl (aN (renN Gp hi lo i)))), (ct, .inl (E.2.1, 10, .inl (aO (renO Tt hi lo i))))]) (Lf := fun i => [(3, .int (nI i)), (0, .ref co), (1, .int (nI hi)), (2, .int (nI lo))]) (Sf := fun _ => []) (fun i => i ≤ 10) (fun i => 10 - i) (fun i hi9 ih => ?_) 0 (by omega)
  refine G_iload_n C dX0_rename_2 rfl 3 rfl ?_
  refine G_bipush C dX0_rename_3 (v := nI 10) (by decide) 5 rfl ?_
  refine G_icmp_ge C dX0_rename_5 48 rfl 8 rfl (nI_leI (by omega) (by omega)) (fun h_1 => ?_) (fun h_1 => ?_)
  · exact G_vret C hr dX0_rename_48 () trivial rfl (by rw [show i = 10 by omega])
  · refine G_aload_n C dX0_rename_8 rfl 9 rfl ?_
    refine G_getf C dX0_rename_9 wF_X0 wf_X0_9 (f := 0) (by decide) (ci := 0) rfl 0 rfl rfl 12 rfl ?_
    refine G_iload_n C dX0_rename_12 rfl 13 rfl ?_
    refine G_ialdN C dX0_rename_13 1 rfl rfl (by omega) 14 rfl ?_
    refine G_iload_n C dX0_rename_14 rfl 15 rfl ?_
    refine G_icmp_ne C dX0_rename_15 25 rfl 18 rfl (show nI (renN Gp hi lo i i) = nI hi ↔ Gp i = hi by rw [renN_at]; exact nI_eq (Nat.lt_trans (hG i (by omega)) (by decide)) (by omega)) (fun h_2 => ?_) (fun h_2 => ?_)
    · refine G_aload_n C dX0_rename_25 rfl 26 rfl ?_
      refine G_getf C dX0_rename_26 wF_X0 wf_X0_15 (f := 1) (by decide) (ci := 0) rfl 0 rfl rfl 29 rfl ?_
      refine G_iload_n C dX0_rename_29 rfl 30 rfl ?_
      refine G_ialdO C dX0_rename_30 2 rfl rfl (by omega) 31 rfl ?_
      refine G_iload_n C dX0_rename_31 rfl 32 rfl ?_
      refine G_icmp_ne C dX0_rename_32 42 rfl 35 rfl (show oI (renO Tt hi lo i i) = nI hi ↔ Tt i = some hi by rw [renO_at]; exact oI_eq (t := Tt i) (u := some hi) (hT i (by omega)).b (ook.b (ook_s hh))) (fun h_3 => ?_) (fun h_3 => ?_)
      · refine G_iinc C dX0_rename_42 0 rfl (nI_1 _) (by decide) [(3, .int (nI (i + 1))), (0, .ref co), (1, .int (nI hi)), (2, .int (nI lo))] rfl 45 rfl ?_
        refine G_goto C dX0_rename_45 2 rfl ?_
        refine G_eq (ws' := [(co, .inr (0, [.ref cg, .ref ct])), (cg, .inl (E.2.1, 10, .inl (aN (renN Gp hi lo (i + 1))))), (ct, .inl (E.2.1, 10, .inl (aO (renO Tt hi lo (i + 1)))))]) (L' := [(3, .int (nI (i + 1))), (0, .ref co), (1, .int (nI hi)), (2, .int (nI lo))]) (by rw [renN_s0 h_2, renO_s0 h_3]) rfl rfl ?_
        exact ih (i + 1) (by omega) (by omega)
      · refine G_aload_n C dX0_rename_35 rfl 36 rfl ?_
        refine G_getf C dX0_rename_36 wF_X0 wf_X0_15 (f := 1) (by decide) (ci := 0) rfl 0 rfl rfl 39 rfl ?_
        refine G_iload_n C dX0_rename_39 rfl 40 rfl ?_
        refine G_iload_n C dX0_rename_40 rfl 41 rfl ?_
        refine G_iastO C dX0_rename_41 2 rfl rfl (x := some lo) (by omega) [(co, .inr (0, [.ref cg, .ref ct])), (cg, .inl (E.2.1, 10, .inl (aN (renN Gp hi lo i)))), (ct, .inl (E.2.1, 10, .inl (aO (va_up (renO Tt hi lo i) i (some lo)))))] rfl 42 rfl ?_
        refine G_iinc C dX0_rename_42 0 rfl (nI_1 _) (by decide) [(3, .int (nI (i + 1))), (0, .ref co), (1, .int (nI hi)), (2, .int (nI lo))] rfl 45 rfl ?_
        refine G_goto C dX0_rename_45 2 rfl ?_
        refine G_eq (ws' := [(co, .inr (0, [.ref cg, .ref ct])), (cg, .inl (E.2.1, 10, .inl (aN (renN Gp hi lo (i + 1))))), (ct, .inl (E.2.1, 10, .inl (aO (renO Tt hi lo (i + 1)))))]) (L' := [(3, .int (nI (i + 1))), (0, .ref co), (1, .int (nI hi)), (2, .int (nI lo))]) (by rw [renN_s0 h_2, renO_s1 h_3]) rfl rfl ?_
        exact ih (i + 1) (by omega) (by omega)
    · refine G_aload_n C dX0_rename_18 rfl 19 rfl ?_
      refine G_getf C dX0_rename_19 wF_X0 wf_X0_9 (f := 0) (by decide) (ci := 0) rfl 0 rfl rfl 22 rfl ?_
      refine G_iload_n C dX0_rename_22 rfl 23 rfl ?_
      refine G_iload_n C dX0_rename_23 rfl 24 rfl ?_
      refine G_iastN C dX0_rename_24 1 rfl rfl (x := lo) (by omega) [(co, .inr (0, [.ref cg, .ref ct])), (cg, .inl (E.2.1, 10, .inl (aN (va_up (renN Gp hi lo i) i lo)))), (ct, .inl (E.2.1, 10, .inl (aO (renO Tt hi lo i))))] rfl 25 rfl ?_
      refine G_aload_n C dX0_rename_25 rfl 26 rfl ?_
      refine G_getf C dX0_rename_26 wF_X0 wf_X0_15 (f := 1) (by decide) (ci := 0) rfl 0 rfl rfl 29 rfl ?_
      refine G_iload_n C dX0_rename_29 rfl 30 rfl ?_
      refine G_ialdO C dX0_rename_30 2 rfl rfl (by omega) 31 rfl ?_
      refine G_iload_n C dX0_rename_31 rfl 32 rfl ?_
      refine G_icmp_ne C dX0_rename_32 42 rfl 35 rfl (show oI (renO Tt hi lo i i) = nI hi ↔ Tt i = some hi by rw [renO_at]; exact oI_eq (t := Tt i) (u := some hi) (hT i (by omega)).b (ook.b (ook_s hh))) (fun h_3 => ?_) (fun h_3 => ?_)
      · refine G_iinc C dX0_rename_42 0 rfl (nI_1 _) (by decide) [(3, .int (nI (i + 1))), (0, .ref co), (1, .int (nI hi)), (2, .int (nI lo))] rfl 45 rfl ?_
        refine G_goto C dX0_rename_45 2 rfl ?_
        refine G_eq (ws' := [(co, .inr (0, [.ref cg, .ref ct])), (cg, .inl (E.2.1, 10, .inl (aN (renN Gp hi lo (i + 1))))), (ct, .inl (E.2.1, 10, .inl (aO (renO Tt hi lo (i + 1)))))]) (L' := [(3, .int (nI (i + 1))), (0, .ref co), (1, .int (nI hi)), (2, .int (nI lo))]) (by rw [renN_s1 h_2, renO_s0 h_3]) rfl rfl ?_
        exact ih (i + 1) (by omega) (by omega)
      · refine G_aload_n C dX0_rename_35 rfl 36 rfl ?_
        refine G_getf C dX0_rename_36 wF_X0 wf_X0_15 (f := 1) (by decide) (ci := 0) rfl 0 rfl rfl 39 rfl ?_
        refine G_iload_n C dX0_rename_39 rfl 40 rfl ?_
        refine G_iload_n C dX0_rename_40 rfl 41 rfl ?_
        refine G_iastO C dX0_rename_41 2 rfl rfl (x := some lo) (by omega) [(co, .inr (0, [.ref cg, .ref ct])), (cg, .inl (E.2.1, 10, .inl (aN (va_up (renN Gp hi lo i) i lo)))), (ct, .inl (E.2.1, 10, .inl (aO (va_up (renO Tt hi lo i) i (some lo)))))] rfl 42 rfl ?_
        refine G_iinc C dX0_rename_42 0 rfl (nI_1 _) (by decide) [(3, .int (nI (i + 1))), (0, .ref co), (1, .int (nI hi)), (2, .int (nI lo))] rfl 45 rfl ?_
        refine G_goto C dX0_rename_45 2 rfl ?_
        refine G_eq (ws' := [(co, .inr (0, [.ref cg, .ref ct])), (cg, .inl (E.2.1, 10, .inl (aN (renN Gp hi lo (i + 1))))), (ct, .inl (E.2.1, 10, .inl (aO (renO Tt hi lo (i + 1)))))]) (L' := [(3, .int (nI (i + 1))), (0, .ref co), (1, .int (nI hi)), (2, .int (nI lo))]) (by rw [renN_s1 h_2, renO_s1 h_3]) rfl rfl ?_
        exact ih (i + 1) (by omega) (by omega)

set_option maxHeartbeats 4000000 in
set_option maxRecDepth 100000 in
theorem c_X0_join (l : Launch) (E : gE) (co cg ct : Nat) (Gp : Nat → Nat) (Tt : Nat → Option Nat) (oa ob : Option Nat) (hG : gok Gp) (hT : tok Tt) (ha : ook oa) (hb : ook ob) : FD l E yX0_join cX0_join 8 none { frames := 1, cells := 0, slots := 0, locals := 23 } [.ref co, .int (oI oa), .int (oI ob)] [(co, .inr (0, [.ref cg, .ref ct])), (cg, .inl (E.2.1, 10, .inl (aN Gp))), (ct, .inl (E.2.1, 10, .inl (aO Tt)))] none [(co, .inr (0, [.ref cg, .ref ct])), (cg, .inl (E.2.1, 10, .inl (aN ((jn Gp Tt oa ob).1)))), (ct, .inl (E.2.1, 10, .inl (aO ((jn Gp Tt oa ob).2.1))))] := by
  refine Fn_ofL (own := RX0) (by decide) rfl rfl [(0, .ref co), (1, .int (oI oa)), (2, .int (oI ob))] rfl ?_
  intro p e s m below meth c A C hr hnm
  refine G_iload_n C dX0_join_0 rfl 1 rfl ?_
  refine G_istore_n C dX0_join_1 (by decide) [(3, .int (oI oa)), (0, .ref co), (1, .int (oI oa)), (2, .int (oI ob))] rfl 2 rfl ?_
  refine G_iload_n C dX0_join_2 rfl 3 rfl ?_
  refine G_istore C dX0_join_3 (by decide) [(4, .int (oI ob)), (3, .int (oI oa)), (0, .ref co), (1, .int (oI oa)), (2, .int (oI ob))] rfl 5 rfl ?_
  refine G_iconst C dX0_join_5 (v := nI 0) rfl 6 rfl ?_
  refine G_istore C dX0_join_6 (by decide) [(5, .int (nI 0)), (4, .int (oI ob)), (3, .int (oI oa)), (0, .ref co), (1, .int (oI oa)), (2, .int (oI ob))] rfl 8 rfl ?_
  refine G_eq (ws' := [(co, .inr (0, [.ref cg, .ref ct])), (cg, .inl (E.2.1, 10, .inl (aN ((jit (Gp, Tt, oa, ob) 0).1)))), (ct, .inl (E.2.1, 10, .inl (aO ((jit (Gp, Tt, oa, ob) 0).2.1))))]) (L' := [(5, .int (nI 0)), (4, .int (oI ((jit (Gp, Tt, oa, ob) 0).2.2.2))), (3, .int (oI ((jit (Gp, Tt, oa, ob) 0).2.2.1))), (0, .ref co), (1, .int (oI oa)), (2, .int (oI ob))]) rfl rfl rfl ?_
  refine G_sel [2, 1, 0, 3] [(3, .int (oI oa)), (4, .int (oI ob)), (5, .int (nI 0)), (0, .ref co)] rfl ?_
  refine G_while (X := Nat) (Wf := fun j => [(co, .inr (0, [.ref cg, .ref ct])), (cg, .inl (E.2.1, 10, .inl (aN ((jit (Gp, Tt, oa, ob) j).1)))), (ct, .inl (E.2.1, 10, .inl (aO ((jit (Gp, Tt, oa, ob) j).2.1))))]) (Lf := fun j => [(3, .int (oI ((jit (Gp, Tt, oa, ob) j).2.2.1))), (4, .int (oI ((jit (Gp, Tt, oa, ob) j).2.2.2))), (5, .int (nI j)), (0, .ref co)]) (Sf := fun _ => []) (fun j => j ≤ 10) (fun j => 10 - j) (fun j hj ihj => ?_) 0 (by omega)
  have hok := jok_it (q := (Gp, Tt, oa, ob)) ⟨hG, hT, ha, hb⟩ j
  generalize hQ : jit (Gp, Tt, oa, ob) j = Q at hok ⊢
  obtain ⟨G1, T1, a1, b1⟩ := Q
  obtain ⟨hG1, hT1, ha1, hb1⟩ := hok
  have hG1 : gok G1 := hG1
  have hT1 : tok T1 := hT1
  have ha1 : ook a1 := ha1
  have hb1 : ook b1 := hb1
  refine G_eq (ws' := [(co, .inr (0, [.ref cg, .ref ct])), (cg, .inl (E.2.1, 10, .inl (aN G1))), (ct, .inl (E.2.1, 10, .inl (aO T1)))]) (L' := [(3, .int (oI a1)), (4, .int (oI b1)), (5, .int (nI j)), (0, .ref co)]) rfl rfl rfl ?_
  refine G_iload C dX0_join_8 rfl 10 rfl ?_
  refine G_bipush C dX0_join_10 (v := nI 10) (by decide) 12 rfl ?_
  refine G_icmp_ge C dX0_join_12 101 rfl 15 rfl (nI_leI (by omega) (by omega)) (fun h_1 => ?_) (fun h_1 => ?_)
  · exact G_vret C hr dX0_join_101 () trivial rfl (by first | (rw [show jn Gp Tt oa ob = (G1, T1, a1, b1) by unfold jn; rw [← hQ, show j = 10 by omega]]) | (rw [show jn Gp Tt oa ob = (G1, T1, a1, b1) by have e := jit_stay (q := (Gp, Tt, oa, ob)) (j := j) (by rw [hQ]; exact jstep_eq (by simp [*])) (10 - j); rw [show j + (10 - j) = 10 by omega] at e; rw [← hQ, ← e]; rfl]))
  · refine G_iload_n C dX0_join_15 rfl 16 rfl ?_
    refine G_iload C dX0_join_16 rfl 18 rfl ?_
    refine G_icmp_eq C dX0_join_18 101 rfl 21 rfl (oI_eq (t := a1) (u := b1) ha1.b hb1.b) (fun h_2 => ?_) (fun h_2 => ?_)
    · exact G_vret C hr dX0_join_101 () trivial rfl (by first | (rw [show jn Gp Tt oa ob = (G1, T1, a1, b1) by unfold jn; rw [← hQ, show j = 10 by omega]]) | (rw [show jn Gp Tt oa ob = (G1, T1, a1, b1) by have e := jit_stay (q := (Gp, Tt, oa, ob)) (j := j) (by rw [hQ]; exact jstep_eq (by simp [*])) (10 - j); rw [show j + (10 - j) = 10 by omega] at e; rw [← hQ, ← e]; rfl]))
    · refine G_iload_n C dX0_join_21 rfl 22 rfl ?_
      refine G_iconst C dX0_join_22 (v := oI none) rfl 23 rfl ?_
      refine G_icmp_eq C dX0_join_23 101 rfl 26 rfl (oI_none ha1.b) (fun h_3 => ?_) (fun h_3 => ?_)
      · exact G_vret C hr dX0_join_101 () trivial rfl (by first | (rw [show jn Gp Tt oa ob = (G1, T1, a1, b1) by unfold jn; rw [← hQ, show j = 10 by omega]]) | (rw [show jn Gp Tt oa ob = (G1, T1, a1, b1) by have e := jit_stay (q := (Gp, Tt, oa, ob)) (j := j) (by rw [hQ]; exact jstep_eq (by simp [*])) (10 - j); rw [show j + (10 - j) = 10 by omega] at e; rw [← hQ, ← e]; rfl]))
      · refine G_iload C dX0_join_26 rfl 28 rfl ?_
        refine G_iconst C dX0_join_28 (v := oI none) rfl 29 rfl ?_
        refine G_icmp_eq C dX0_join_29 101 rfl 32 rfl (oI_none hb1.b) (fun h_4 => ?_) (fun h_4 => ?_)
        · exact G_vret C hr dX0_join_101 () trivial rfl (by first | (rw [show jn Gp Tt oa ob = (G1, T1, a1, b1) by unfold jn; rw [← hQ, show j = 10 by omega]]) | (rw [show jn Gp Tt oa ob = (G1, T1, a1, b1) by have e := jit_stay (q := (Gp, Tt, oa, ob)) (j := j) (by rw [hQ]; exact jstep_eq (by simp [*])) (10 - j); rw [show j + (10 - j) = 10 by omega] at e; rw [← hQ, ← e]; rfl]))
        · obtain ⟨x, rfl⟩ : ∃ x, a1 = some x := Option.ne_none_iff_exists'.mp h_3
          obtain ⟨y, rfl⟩ : ∃ y, b1 = some y := Option.ne_none_iff_exists'.mp h_4
          have hx : x < 10 := ha1 x rfl
          have hy : y < 10 := hb1 y rfl
          have hxy : ¬ x = y := fun e => h_2 (by rw [e])
          refine G_eq (ws' := [(co, .inr (0, [.ref cg, .ref ct])), (cg, .inl (E.2.1, 10, .inl (aN G1))), (ct, .inl (E.2.1, 10, .inl (aO T1)))]) (L' := [(3, .int (nI x)), (4, .int (nI y)), (5, .int (nI j)), (0, .ref co)]) rfl rfl rfl ?_
          refine G_iload_n C dX0_join_32 rfl 33 rfl ?_
          refine G_iload C dX0_join_33 rfl 35 rfl ?_
          refine G_mmin C dX0_join_35 wm_X0_67 (by omega) (by omega) rfl (Nat.le_of_ble_eq_true rfl) 38 rfl ?_
          refine G_istore C dX0_join_38 (by decide) [(6, .int (nI (min x y))), (3, .int (nI x)), (4, .int (nI y)), (5, .int (nI j)), (0, .ref co)] rfl 40 rfl ?_
          refine G_iload_n C dX0_join_40 rfl 41 rfl ?_
          refine G_iload C dX0_join_41 rfl 43 rfl ?_
          refine G_mmax C dX0_join_43 wm_X0_73 (by omega) (by omega) rfl (Nat.le_of_ble_eq_true rfl) 46 rfl ?_
          refine G_istore C dX0_join_46 (by decide) [(7, .int (nI (max x y))), (6, .int (nI (min x y))), (3, .int (nI x)), (4, .int (nI y)), (5, .int (nI j)), (0, .ref co)] rfl 48 rfl ?_
          refine G_aload_n C dX0_join_48 rfl 49 rfl ?_
          refine G_iload C dX0_join_49 rfl 51 rfl ?_
          refine G_iload C dX0_join_51 rfl 53 rfl ?_
          refine G_cV C dX0_join_53 (c_X0_rename l E co cg ct G1 T1 (max x y) (min x y) (by first | assumption | omega) (by first | assumption | omega) (by omega) (by omega)) wm_X0_76 wi_X0_rename wsel_X0_rename wn_X0 wc_X0_rename rfl rfl ⟨by decide, by decide, rfl⟩ rfl (Nat.le_of_ble_eq_true rfl) 0 rfl rfl 0 rfl [0, 1, 2] [] (wr := []) rfl rfl rfl rfl rfl [0, 1, 2] rfl [(co, .inr (0, [.ref cg, .ref ct])), (cg, .inl (E.2.1, 10, .inl (aN (renN G1 (max x y) (min x y) 10)))), (ct, .inl (E.2.1, 10, .inl (aO (renO T1 (max x y) (min x y) 10))))] rfl rfl [] rfl 56 rfl ?_
          refine G_aload_n C dX0_join_56 rfl 57 rfl ?_
          refine G_getf C dX0_join_57 wF_X0 wf_X0_15 (f := 1) (by decide) (ci := 0) rfl 0 rfl rfl 60 rfl ?_
          refine G_iload C dX0_join_60 rfl 62 rfl ?_
          refine G_ialdO C dX0_join_62 2 rfl rfl (by omega) 63 rfl ?_
          refine G_istore_n C dX0_join_63 (by decide) [(3, .int (oI ((renO T1 (max x y) (min x y) 10) (min x y)))), (7, .int (nI (max x y))), (6, .int (nI (min x y))), (4, .int (nI y)), (5, .int (nI j)), (0, .ref co)] rfl 64 rfl ?_
          refine G_aload_n C dX0_join_64 rfl 65 rfl ?_
          refine G_getf C dX0_join_65 wF_X0 wf_X0_15 (f := 1) (by decide) (ci := 0) rfl 0 rfl rfl 68 rfl ?_
          refine G_iload C dX0_join_68 rfl 70 rfl ?_
          refine G_ialdO C dX0_join_70 2 rfl rfl (by omega) 71 rfl ?_
          refine G_istore C dX0_join_71 (by decide) [(4, .int (oI ((renO T1 (max x y) (min x y) 10) (max x y)))), (3, .int (oI ((renO T1 (max x y) (min x y) 10) (min x y)))), (7, .int (nI (max x y))), (6, .int (nI (min x y))), (5, .int (nI j)), (0, .ref co)] rfl 73 rfl ?_
          refine G_aload_n C dX0_join_73 rfl 74 rfl ?_
          refine G_getf C dX0_join_74 wF_X0 wf_X0_15 (f := 1) (by decide) (ci := 0) rfl 0 rfl rfl 77 rfl ?_
          refine G_iload C dX0_join_77 rfl 79 rfl ?_
          refine G_iconst C dX0_join_79 (v := oI none) rfl 80 rfl ?_
          refine G_iastO C dX0_join_80 2 rfl rfl (x := none) (by omega) [(co, .inr (0, [.ref cg, .ref ct])), (cg, .inl (E.2.1, 10, .inl (aN (renN G1 (max x y) (min x y) 10)))), (ct, .inl (E.2.1, 10, .inl (aO (va_up (renO T1 (max x y) (min x y) 10) (max x y) none))))] rfl 81 rfl ?_
          refine G_iload_n C dX0_join_81 rfl 82 rfl ?_
          refine G_iconst C dX0_join_82 (v := oI none) rfl 83 rfl ?_
          refine G_icmp_ne C dX0_join_83 95 rfl 86 rfl (oI_none (tok_ren hT1 (by omega) 10 _ (by omega)).b) (fun h_5 => ?_) (fun h_5 => ?_)
          · refine G_iinc C dX0_join_95 4 rfl (nI_1 _) (by decide) [(5, .int (nI (j + 1))), (4, .int (oI ((renO T1 (max x y) (min x y) 10) (max x y)))), (3, .int (oI ((renO T1 (max x y) (min x y) 10) (min x y)))), (7, .int (nI (max x y))), (6, .int (nI (min x y))), (0, .ref co)] rfl 98 rfl ?_
            refine G_goto C dX0_join_98 8 rfl ?_
            refine G_sel [2, 1, 0, 5] [(3, .int (oI ((renO T1 (max x y) (min x y) 10) (min x y)))), (4, .int (oI ((renO T1 (max x y) (min x y) 10) (max x y)))), (5, .int (nI (j + 1))), (0, .ref co)] rfl ?_
            have e : jit (Gp, Tt, oa, ob) (j + 1) = jone G1 T1 (min x y) (max x y) := by show jstep (jit (Gp, Tt, oa, ob) j) = _; rw [hQ]; show (if x = y then _ else _) = _; rw [if_neg hxy]
            refine G_eq (ws' := [(co, .inr (0, [.ref cg, .ref ct])), (cg, .inl (E.2.1, 10, .inl (aN ((jit (Gp, Tt, oa, ob) (j + 1)).1)))), (ct, .inl (E.2.1, 10, .inl (aO ((jit (Gp, Tt, oa, ob) (j + 1)).2.1))))]) (L' := [(3, .int (oI ((jit (Gp, Tt, oa, ob) (j + 1)).2.2.1))), (4, .int (oI ((jit (Gp, Tt, oa, ob) (j + 1)).2.2.2))), (5, .int (nI (j + 1))), (0, .ref co)]) (by rw [e]; simp only [jone]; rw [if_neg h_5]) (by rw [e]; rfl) rfl ?_
            exact ihj (j + 1) (by omega) (by omega)
          · refine G_aload_n C dX0_join_86 rfl 87 rfl ?_
            refine G_getf C dX0_join_87 wF_X0 wf_X0_15 (f := 1) (by decide) (ci := 0) rfl 0 rfl rfl 90 rfl ?_
            refine G_iload C dX0_join_90 rfl 92 rfl ?_
            refine G_iload C dX0_join_92 rfl 94 rfl ?_
            refine G_iastO C dX0_join_94 2 rfl rfl (x := (renO T1 (max x y) (min x y) 10) (max x y)) (by omega) [(co, .inr (0, [.ref cg, .ref ct])), (cg, .inl (E.2.1, 10, .inl (aN (renN G1 (max x y) (min x y) 10)))), (ct, .inl (E.2.1, 10, .inl (aO (va_up (va_up (renO T1 (max x y) (min x y) 10) (max x y) none) (min x y) ((renO T1 (max x y) (min x y) 10) (max x y))))))] rfl 95 rfl ?_
            refine G_iinc C dX0_join_95 4 rfl (nI_1 _) (by decide) [(5, .int (nI (j + 1))), (4, .int (oI ((renO T1 (max x y) (min x y) 10) (max x y)))), (3, .int (oI ((renO T1 (max x y) (min x y) 10) (min x y)))), (7, .int (nI (max x y))), (6, .int (nI (min x y))), (0, .ref co)] rfl 98 rfl ?_
            refine G_goto C dX0_join_98 8 rfl ?_
            refine G_sel [2, 1, 0, 5] [(3, .int (oI ((renO T1 (max x y) (min x y) 10) (min x y)))), (4, .int (oI ((renO T1 (max x y) (min x y) 10) (max x y)))), (5, .int (nI (j + 1))), (0, .ref co)] rfl ?_
            have e : jit (Gp, Tt, oa, ob) (j + 1) = jone G1 T1 (min x y) (max x y) := by show jstep (jit (Gp, Tt, oa, ob) j) = _; rw [hQ]; show (if x = y then _ else _) = _; rw [if_neg hxy]
            refine G_eq (ws' := [(co, .inr (0, [.ref cg, .ref ct])), (cg, .inl (E.2.1, 10, .inl (aN ((jit (Gp, Tt, oa, ob) (j + 1)).1)))), (ct, .inl (E.2.1, 10, .inl (aO ((jit (Gp, Tt, oa, ob) (j + 1)).2.1))))]) (L' := [(3, .int (oI ((jit (Gp, Tt, oa, ob) (j + 1)).2.2.1))), (4, .int (oI ((jit (Gp, Tt, oa, ob) (j + 1)).2.2.2))), (5, .int (nI (j + 1))), (0, .ref co)]) (by rw [e]; simp only [jone]; rw [if_pos h_5]) (by rw [e]; rfl) rfl ?_
            exact ihj (j + 1) (by omega) (by omega)
