set_option maxHeartbeats 4000000 in
set_option maxRecDepth 100000 in
theorem c_X0_point (l : Launch) (E : gE) (co cg ct : Nat) (Gp : Nat → Nat) (Tt : Nat → Option Nat) (f t : Option Nat) (hG : gok Gp) (hT : tok Tt) (hf : ook f) (ht : ook t) : FD l E yX0_point cX0_point 3 (some .boolean) { frames := 2, cells := 0, slots := 0, locals := 50 } [.ref co, .int (oI f), .int (oI t)] [(co, .inr (0, [.ref cg, .ref ct])), (cg, .inl (E.2.1, 10, .inl (aN Gp))), (ct, .inl (E.2.1, 10, .inl (aO Tt)))] (some (.int (bI ((pt Gp Tt f t).2.2)))) [(co, .inr (0, [.ref cg, .ref ct])), (cg, .inl (E.2.1, 10, .inl (aN ((pt Gp Tt f t).1)))), (ct, .inl (E.2.1, 10, .inl (aO ((pt Gp Tt f t).2.1))))] := by
  refine Fn_ofL (own := RX0) (by decide) rfl rfl [(0, .ref co), (1, .int (oI f)), (2, .int (oI t))] rfl ?_
  intro p e s m below meth c A C hr hnm
  cases f with
  | none =>
    refine G_iload_n C dX0_point_0 rfl 1 rfl ?_
    refine G_iconst C dX0_point_1 (v := oI none) rfl 2 rfl ?_
    refine G_icmp_eq_t C dX0_point_2 20 rfl rfl ?_
    refine G_iconst C dX0_point_20 (v := nI 0) rfl 21 rfl ?_
    exact G_iret C hr dX0_point_21 (by decide) () trivial (by first | rfl | (simp [pt, h_1]; rfl)) (by first | rfl | simp [pt, h_1])
  | some x =>
    have hx : x < 10 := hf x rfl
    cases t with
    | none =>
      refine G_eq (ws' := [(co, .inr (0, [.ref cg, .ref ct])), (cg, .inl (E.2.1, 10, .inl (aN Gp))), (ct, .inl (E.2.1, 10, .inl (aO Tt)))]) (L' := [(0, .ref co), (1, .int (nI x)), (2, .int (oI none))]) rfl rfl rfl ?_
      refine G_iload_n C dX0_point_0 rfl 1 rfl ?_
      refine G_iconst C dX0_point_1 (v := oI none) rfl 2 rfl ?_
      refine G_icmp_eq_f C dX0_point_2 20 rfl 5 rfl (oI_ne (by omega)) ?_
      refine G_iload_n C dX0_point_5 rfl 6 rfl ?_
      refine G_iconst C dX0_point_6 (v := oI none) rfl 7 rfl ?_
      refine G_icmp_eq_t C dX0_point_7 20 rfl rfl ?_
      refine G_iconst C dX0_point_20 (v := nI 0) rfl 21 rfl ?_
      exact G_iret C hr dX0_point_21 (by decide) () trivial (by first | rfl | (simp [pt, h_1]; rfl)) (by first | rfl | simp [pt, h_1])
    | some y =>
      have hy : y < 10 := ht y rfl
      refine G_eq (ws' := [(co, .inr (0, [.ref cg, .ref ct])), (cg, .inl (E.2.1, 10, .inl (aN Gp))), (ct, .inl (E.2.1, 10, .inl (aO Tt)))]) (L' := [(0, .ref co), (1, .int (nI x)), (2, .int (nI y))]) rfl rfl rfl ?_
      refine G_iload_n C dX0_point_0 rfl 1 rfl ?_
      refine G_iconst C dX0_point_1 (v := oI none) rfl 2 rfl ?_
      refine G_icmp_eq_f C dX0_point_2 20 rfl 5 rfl (oI_ne (by omega)) ?_
      refine G_iload_n C dX0_point_5 rfl 6 rfl ?_
      refine G_iconst C dX0_point_6 (v := oI none) rfl 7 rfl ?_
      refine G_icmp_eq_f C dX0_point_7 20 rfl 10 rfl (oI_ne (by omega)) ?_
      refine G_aload_n C dX0_point_10 rfl 11 rfl ?_
      refine G_getf C dX0_point_11 wF_X0 wf_X0_15 (f := 1) (by decide) (ci := 0) rfl 0 rfl rfl 14 rfl ?_
      refine G_iload_n C dX0_point_14 rfl 15 rfl ?_
      refine G_ialdO C dX0_point_15 2 rfl rfl (by omega) 16 rfl ?_
      refine G_iload_n C dX0_point_16 rfl 17 rfl ?_
      refine G_icmp_ne C dX0_point_17 22 rfl 20 rfl (oI_eq (t := Tt x) (u := some y) (hT x hx).b (ook.b (ook_s hy))) (fun h_1 => ?_) (fun h_1 => ?_)
      · refine G_aload_n C dX0_point_22 rfl 23 rfl ?_
        refine G_getf C dX0_point_23 wF_X0 wf_X0_15 (f := 1) (by decide) (ci := 0) rfl 0 rfl rfl 26 rfl ?_
        refine G_iload_n C dX0_point_26 rfl 27 rfl ?_
        refine G_ialdO C dX0_point_27 2 rfl rfl (by omega) 28 rfl ?_
        refine G_iconst C dX0_point_28 (v := oI none) rfl 29 rfl ?_
        refine G_icmp_ne C dX0_point_29 42 rfl 32 rfl (oI_none (hT x hx).b) (fun h_2 => ?_) (fun h_2 => ?_)
        · refine G_aload_n C dX0_point_42 rfl 43 rfl ?_
          refine G_aload_n C dX0_point_43 rfl 44 rfl ?_
          refine G_getf C dX0_point_44 wF_X0 wf_X0_15 (f := 1) (by decide) (ci := 0) rfl 0 rfl rfl 47 rfl ?_
          refine G_iload_n C dX0_point_47 rfl 48 rfl ?_
          refine G_ialdO C dX0_point_48 2 rfl rfl (by omega) 49 rfl ?_
          refine G_iload_n C dX0_point_49 rfl 50 rfl ?_
          refine G_cV C dX0_point_50 (c_X0_join l E co cg ct Gp Tt (Tt x) (some y) (by first | assumption | omega) (by first | assumption | omega) (hT x hx) (ook_s hy)) wm_X0_63 wi_X0_join wsel_X0_join wn_X0 wc_X0_join rfl rfl ⟨by decide, by decide, rfl⟩ rfl (Nat.le_of_ble_eq_true rfl) 0 rfl rfl 0 rfl [0, 1, 2] [] (wr := []) rfl rfl rfl rfl rfl [0, 1, 2] rfl [(co, .inr (0, [.ref cg, .ref ct])), (cg, .inl (E.2.1, 10, .inl (aN ((jn Gp Tt (Tt x) (some y)).1)))), (ct, .inl (E.2.1, 10, .inl (aO ((jn Gp Tt (Tt x) (some y)).2.1))))] rfl rfl [] rfl 53 rfl ?_
          refine G_iconst C dX0_point_53 (v := nI 1) rfl 54 rfl ?_
          exact G_iret C hr dX0_point_54 (by decide) () trivial (by simp [pt, h_1, h_2]; rfl) (by simp [pt, h_1, h_2])
        · refine G_aload_n C dX0_point_32 rfl 33 rfl ?_
          refine G_getf C dX0_point_33 wF_X0 wf_X0_15 (f := 1) (by decide) (ci := 0) rfl 0 rfl rfl 36 rfl ?_
          refine G_iload_n C dX0_point_36 rfl 37 rfl ?_
          refine G_iload_n C dX0_point_37 rfl 38 rfl ?_
          refine G_iastO C dX0_point_38 2 rfl rfl (x := some y) (by omega) [(co, .inr (0, [.ref cg, .ref ct])), (cg, .inl (E.2.1, 10, .inl (aN Gp))), (ct, .inl (E.2.1, 10, .inl (aO (va_up Tt x (some y)))))] rfl 39 rfl ?_
          refine G_goto C dX0_point_39 53 rfl ?_
          refine G_iconst C dX0_point_53 (v := nI 1) rfl 54 rfl ?_
          exact G_iret C hr dX0_point_54 (by decide) () trivial (by simp [pt, h_1, h_2]; rfl) (by simp [pt, h_1, h_2])
      · refine G_iconst C dX0_point_20 (v := nI 0) rfl 21 rfl ?_
        exact G_iret C hr dX0_point_21 (by decide) () trivial (by first | rfl | (simp [pt, h_1]; rfl)) (by first | rfl | simp [pt, h_1])

set_option maxHeartbeats 4000000 in
set_option maxRecDepth 100000 in
theorem c_X0_apply (l : Launch) (E : gE) (co cg ct : Nat) (Gp : Nat → Nat) (Tt : Nat → Option Nat) (o a n : Nat) (Cd : Nat → Nat) (i v : Nat) (hG : gok Gp) (hT : tok Tt) (hi : i < 14) (hc : Cd i = ce v) (hv : v < 400) : FD l E yX0_apply cX0_apply 5 (some .boolean) { frames := 3, cells := 0, slots := 0, locals := 72 } [.ref co, .ref o, .int (nI i)] [(co, .inr (0, [.ref cg, .ref ct])), (cg, .inl (E.2.1, 10, .inl (aN Gp))), (ct, .inl (E.2.1, 10, .inl (aO Tt))), (o, .inr (2, [.ref a, .int (nI n)])), (a, .inl (E.2.1, 14, .inl (aN Cd)))] (some (.int (bI ((cst v Gp Tt).2.2)))) [(co, .inr (0, [.ref cg, .ref ct])), (cg, .inl (E.2.1, 10, .inl (aN ((cst v Gp Tt).1)))), (ct, .inl (E.2.1, 10, .inl (aO ((cst v Gp Tt).2.1)))), (o, .inr (2, [.ref a, .int (nI n)])), (a, .inl (E.2.1, 14, .inl (aN Cd)))] := by
  refine Fn_ofL (own := RX0) (by decide) rfl rfl [(0, .ref co), (1, .ref o), (2, .int (nI i))] rfl ?_
  intro p e s m below meth c A C hr hnm
  refine G_aload_n C dX0_apply_0 rfl 1 rfl ?_
  refine G_getf C dX0_apply_1 wF_X0 wf_X0_9 (f := 0) (by decide) (ci := 0) rfl 0 rfl rfl 4 rfl ?_
  refine G_aload_n C dX0_apply_4 rfl 5 rfl ?_
  refine G_iload_n C dX0_apply_5 rfl 6 rfl ?_
  refine G_cV C dX0_apply_6 (c_X2_leftAt l E o a n Cd i v (by first | assumption | omega) (by first | assumption | omega) (by first | assumption | omega)) wm_X0_47 wi_X2_leftAt wsel_X2_leftAt wn_X2 wc_X2_leftAt rfl rfl ⟨by decide, by decide, rfl⟩ rfl (Nat.le_of_ble_eq_true rfl) 2 rfl rfl 0 rfl [3, 4] [0, 1, 2] (wr := [(co, .inr (0, [.ref cg, .ref ct])), (cg, .inl (E.2.1, 10, .inl (aN Gp))), (ct, .inl (E.2.1, 10, .inl (aO Tt)))]) rfl rfl rfl rfl rfl [0, 1, 2, 3, 4] rfl [(co, .inr (0, [.ref cg, .ref ct])), (cg, .inl (E.2.1, 10, .inl (aN Gp))), (ct, .inl (E.2.1, 10, .inl (aO Tt))), (o, .inr (2, [.ref a, .int (nI n)])), (a, .inl (E.2.1, 14, .inl (aN Cd)))] rfl rfl [.int (nI (v / 10 % 10)), .ref cg] rfl 9 rfl ?_
  refine G_ialdN C dX0_apply_9 1 rfl rfl (by omega) 10 rfl ?_
  refine G_istore_n C dX0_apply_10 (by decide) [(3, .int (nI (Gp (v / 10 % 10)))), (0, .ref co), (1, .ref o), (2, .int (nI i))] rfl 11 rfl ?_
  refine G_aload_n C dX0_apply_11 rfl 12 rfl ?_
  refine G_getf C dX0_apply_12 wF_X0 wf_X0_9 (f := 0) (by decide) (ci := 0) rfl 0 rfl rfl 15 rfl ?_
  refine G_aload_n C dX0_apply_15 rfl 16 rfl ?_
  refine G_iload_n C dX0_apply_16 rfl 17 rfl ?_
  refine G_cV C dX0_apply_17 (c_X2_rightAt l E o a n Cd i v (by first | assumption | omega) (by first | assumption | omega) (by first | assumption | omega)) wm_X0_50 wi_X2_rightAt wsel_X2_rightAt wn_X2 wc_X2_rightAt rfl rfl ⟨by decide, by decide, rfl⟩ rfl (Nat.le_of_ble_eq_true rfl) 2 rfl rfl 0 rfl [3, 4] [0, 1, 2] (wr := [(co, .inr (0, [.ref cg, .ref ct])), (cg, .inl (E.2.1, 10, .inl (aN Gp))), (ct, .inl (E.2.1, 10, .inl (aO Tt)))]) rfl rfl rfl rfl rfl [0, 1, 2, 3, 4] rfl [(co, .inr (0, [.ref cg, .ref ct])), (cg, .inl (E.2.1, 10, .inl (aN Gp))), (ct, .inl (E.2.1, 10, .inl (aO Tt))), (o, .inr (2, [.ref a, .int (nI n)])), (a, .inl (E.2.1, 14, .inl (aN Cd)))] rfl rfl [.int (nI (v % 10)), .ref cg] rfl 20 rfl ?_
  refine G_ialdN C dX0_apply_20 1 rfl rfl (by omega) 21 rfl ?_
  refine G_istore C dX0_apply_21 (by decide) [(4, .int (nI (Gp (v % 10)))), (3, .int (nI (Gp (v / 10 % 10)))), (0, .ref co), (1, .ref o), (2, .int (nI i))] rfl 23 rfl ?_
  refine G_aload_n C dX0_apply_23 rfl 24 rfl ?_
  refine G_iload_n C dX0_apply_24 rfl 25 rfl ?_
  refine G_cV C dX0_apply_25 (c_X2_sortAt l E o a n Cd i v (by first | assumption | omega) (by first | assumption | omega) (by first | assumption | omega)) wm_X0_53 wi_X2_sortAt wsel_X2_sortAt wn_X2 wc_X2_sortAt rfl rfl ⟨by decide, by decide, rfl⟩ rfl (Nat.le_of_ble_eq_true rfl) 2 rfl rfl 0 rfl [3, 4] [0, 1, 2] (wr := [(co, .inr (0, [.ref cg, .ref ct])), (cg, .inl (E.2.1, 10, .inl (aN Gp))), (ct, .inl (E.2.1, 10, .inl (aO Tt)))]) rfl rfl rfl rfl rfl [0, 1, 2, 3, 4] rfl [(co, .inr (0, [.ref cg, .ref ct])), (cg, .inl (E.2.1, 10, .inl (aN Gp))), (ct, .inl (E.2.1, 10, .inl (aO Tt))), (o, .inr (2, [.ref a, .int (nI n)])), (a, .inl (E.2.1, 14, .inl (aN Cd)))] rfl rfl [.int (nI (v / 100))] rfl 28 rfl ?_
  rcases (show v / 100 = 0 ∨ v / 100 = 1 ∨ v / 100 = 2 ∨ v / 100 = 3 by omega) with hs_1 | hs_1 | hs_1 | hs_1
  · refine G_top (v' := .int (nI 0)) (by rw [hs_1]) ?_
    refine G_tabIn C dX0_apply_28 (28) (by decide) (by decide) rfl 56 rfl ?_
    refine G_aload_n C dX0_apply_56 rfl 57 rfl ?_
    refine G_iload_n C dX0_apply_57 rfl 58 rfl ?_
    refine G_iload C dX0_apply_58 rfl 60 rfl ?_
    refine G_cV C dX0_apply_60 (c_X0_point l E co cg ct Gp Tt (some (Gp (v / 10 % 10))) (some (Gp (v % 10))) (by first | assumption | omega) (by first | assumption | omega) (ook_s (hG _ (by omega))) (ook_s (hG _ (by omega)))) wm_X0_56 wi_X0_point wsel_X0_point wn_X0 wc_X0_point rfl rfl ⟨by decide, by decide, rfl⟩ rfl (Nat.le_of_ble_eq_true rfl) 0 rfl rfl 0 rfl [0, 1, 2] [3, 4] (wr := [(o, .inr (2, [.ref a, .int (nI n)])), (a, .inl (E.2.1, 14, .inl (aN Cd)))]) rfl rfl rfl rfl rfl [2, 3, 4, 0, 1] rfl [(co, .inr (0, [.ref cg, .ref ct])), (cg, .inl (E.2.1, 10, .inl (aN ((pt Gp Tt (some (Gp (v / 10 % 10))) (some (Gp (v % 10)))).1)))), (ct, .inl (E.2.1, 10, .inl (aO ((pt Gp Tt (some (Gp (v / 10 % 10))) (some (Gp (v % 10)))).2.1)))), (o, .inr (2, [.ref a, .int (nI n)])), (a, .inl (E.2.1, 14, .inl (aN Cd)))] rfl rfl [.int (bI ((pt Gp Tt (some (Gp (v / 10 % 10))) (some (Gp (v % 10)))).2.2))] rfl 63 rfl ?_
    exact G_iret C hr dX0_apply_63 (bI_nar _) () trivial (by simp [cst, hs_1]) (by simp [cst, hs_1])
  · refine G_top (v' := .int (nI 1)) (by rw [hs_1]) ?_
    refine G_tabIn C dX0_apply_28 (36) (by decide) (by decide) rfl 64 rfl ?_
    refine G_aload_n C dX0_apply_64 rfl 65 rfl ?_
    refine G_iload_n C dX0_apply_65 rfl 66 rfl ?_
    refine G_aload_n C dX0_apply_66 rfl 67 rfl ?_
    refine G_getf C dX0_apply_67 wF_X0 wf_X0_15 (f := 1) (by decide) (ci := 0) rfl 0 rfl rfl 70 rfl ?_
    refine G_iload C dX0_apply_70 rfl 72 rfl ?_
    refine G_ialdO C dX0_apply_72 2 rfl rfl (hG _ (by omega)) 73 rfl ?_
    refine G_cV C dX0_apply_73 (c_X0_point l E co cg ct Gp Tt (some (Gp (v / 10 % 10))) (Tt (Gp (v % 10))) (by first | assumption | omega) (by first | assumption | omega) (ook_s (hG _ (by omega))) (hT _ (hG _ (by omega)))) wm_X0_56 wi_X0_point wsel_X0_point wn_X0 wc_X0_point rfl rfl ⟨by decide, by decide, rfl⟩ rfl (Nat.le_of_ble_eq_true rfl) 0 rfl rfl 0 rfl [0, 1, 2] [3, 4] (wr := [(o, .inr (2, [.ref a, .int (nI n)])), (a, .inl (E.2.1, 14, .inl (aN Cd)))]) rfl rfl rfl rfl rfl [2, 3, 4, 0, 1] rfl [(co, .inr (0, [.ref cg, .ref ct])), (cg, .inl (E.2.1, 10, .inl (aN ((pt Gp Tt (some (Gp (v / 10 % 10))) (Tt (Gp (v % 10)))).1)))), (ct, .inl (E.2.1, 10, .inl (aO ((pt Gp Tt (some (Gp (v / 10 % 10))) (Tt (Gp (v % 10)))).2.1)))), (o, .inr (2, [.ref a, .int (nI n)])), (a, .inl (E.2.1, 14, .inl (aN Cd)))] rfl rfl [.int (bI ((pt Gp Tt (some (Gp (v / 10 % 10))) (Tt (Gp (v % 10)))).2.2))] rfl 76 rfl ?_
    exact G_iret C hr dX0_apply_76 (bI_nar _) () trivial (by simp [cst, hs_1]) (by simp [cst, hs_1])
  · refine G_top (v' := .int (nI 2)) (by rw [hs_1]) ?_
    refine G_tabIn C dX0_apply_28 (49) (by decide) (by decide) rfl 77 rfl ?_
    refine G_aload_n C dX0_apply_77 rfl 78 rfl ?_
    refine G_iload_n C dX0_apply_78 rfl 79 rfl ?_
    refine G_aload_n C dX0_apply_79 rfl 80 rfl ?_
    refine G_aload_n C dX0_apply_80 rfl 81 rfl ?_
    refine G_getf C dX0_apply_81 wF_X0 wf_X0_15 (f := 1) (by decide) (ci := 0) rfl 0 rfl rfl 84 rfl ?_
    refine G_iload C dX0_apply_84 rfl 86 rfl ?_
    refine G_ialdO C dX0_apply_86 2 rfl rfl (hG _ (by omega)) 87 rfl ?_
    refine G_cV C dX0_apply_87 (c_X0_targetOf l E co cg ct Gp Tt (Tt (Gp (v % 10))) (hT _ (hG _ (by omega)))) wm_X0_60 wi_X0_targetOf wsel_X0_targetOf wn_X0 wc_X0_targetOf rfl rfl ⟨by decide, by decide, rfl⟩ rfl (Nat.le_of_ble_eq_true rfl) 0 rfl rfl 0 rfl [0, 1, 2] [3, 4] (wr := [(o, .inr (2, [.ref a, .int (nI n)])), (a, .inl (E.2.1, 14, .inl (aN Cd)))]) rfl rfl rfl rfl rfl [2, 3, 4, 0, 1] rfl [(co, .inr (0, [.ref cg, .ref ct])), (cg, .inl (E.2.1, 10, .inl (aN Gp))), (ct, .inl (E.2.1, 10, .inl (aO Tt))), (o, .inr (2, [.ref a, .int (nI n)])), (a, .inl (E.2.1, 14, .inl (aN Cd)))] rfl rfl [.int (oI ((Tt (Gp (v % 10))).bind Tt)), .int (nI (Gp (v / 10 % 10))), .ref co] rfl 90 rfl ?_
    refine G_cV C dX0_apply_90 (c_X0_point l E co cg ct Gp Tt (some (Gp (v / 10 % 10))) ((Tt (Gp (v % 10))).bind Tt) (by first | assumption | omega) (by first | assumption | omega) (ook_s (hG _ (by omega))) (ook_bind hT (hT _ (hG _ (by omega))))) wm_X0_56 wi_X0_point wsel_X0_point wn_X0 wc_X0_point rfl rfl ⟨by decide, by decide, rfl⟩ rfl (Nat.le_of_ble_eq_true rfl) 0 rfl rfl 0 rfl [0, 1, 2] [3, 4] (wr := [(o, .inr (2, [.ref a, .int (nI n)])), (a, .inl (E.2.1, 14, .inl (aN Cd)))]) rfl rfl rfl rfl rfl [2, 3, 4, 0, 1] rfl [(co, .inr (0, [.ref cg, .ref ct])), (cg, .inl (E.2.1, 10, .inl (aN ((pt Gp Tt (some (Gp (v / 10 % 10))) ((Tt (Gp (v % 10))).bind Tt)).1)))), (ct, .inl (E.2.1, 10, .inl (aO ((pt Gp Tt (some (Gp (v / 10 % 10))) ((Tt (Gp (v % 10))).bind Tt)).2.1)))), (o, .inr (2, [.ref a, .int (nI n)])), (a, .inl (E.2.1, 14, .inl (aN Cd)))] rfl rfl [.int (bI ((pt Gp Tt (some (Gp (v / 10 % 10))) ((Tt (Gp (v % 10))).bind Tt)).2.2))] rfl 93 rfl ?_
    exact G_iret C hr dX0_apply_93 (bI_nar _) () trivial (by simp [cst, hs_1]) (by simp [cst, hs_1])
  · refine G_top (v' := .int (nI 3)) (by rw [hs_1]) ?_
    refine G_tabOut C dX0_apply_28 (by decide) 94 rfl ?_
    refine G_aload_n C dX0_apply_94 rfl 95 rfl ?_
    refine G_aload_n C dX0_apply_95 rfl 96 rfl ?_
    refine G_getf C dX0_apply_96 wF_X0 wf_X0_15 (f := 1) (by decide) (ci := 0) rfl 0 rfl rfl 99 rfl ?_
    refine G_iload_n C dX0_apply_99 rfl 100 rfl ?_
    refine G_ialdO C dX0_apply_100 2 rfl rfl (hG _ (by omega)) 101 rfl ?_
    refine G_aload_n C dX0_apply_101 rfl 102 rfl ?_
    refine G_getf C dX0_apply_102 wF_X0 wf_X0_15 (f := 1) (by decide) (ci := 0) rfl 0 rfl rfl 105 rfl ?_
    refine G_iload C dX0_apply_105 rfl 107 rfl ?_
    refine G_ialdO C dX0_apply_107 2 rfl rfl (hG _ (by omega)) 108 rfl ?_
    refine G_cV C dX0_apply_108 (c_X0_point l E co cg ct Gp Tt (Tt (Gp (v / 10 % 10))) (Tt (Gp (v % 10))) (by first | assumption | omega) (by first | assumption | omega) (hT _ (hG _ (by omega))) (hT _ (hG _ (by omega)))) wm_X0_56 wi_X0_point wsel_X0_point wn_X0 wc_X0_point rfl rfl ⟨by decide, by decide, rfl⟩ rfl (Nat.le_of_ble_eq_true rfl) 0 rfl rfl 0 rfl [0, 1, 2] [3, 4] (wr := [(o, .inr (2, [.ref a, .int (nI n)])), (a, .inl (E.2.1, 14, .inl (aN Cd)))]) rfl rfl rfl rfl rfl [2, 3, 4, 0, 1] rfl [(co, .inr (0, [.ref cg, .ref ct])), (cg, .inl (E.2.1, 10, .inl (aN ((pt Gp Tt (Tt (Gp (v / 10 % 10))) (Tt (Gp (v % 10)))).1)))), (ct, .inl (E.2.1, 10, .inl (aO ((pt Gp Tt (Tt (Gp (v / 10 % 10))) (Tt (Gp (v % 10)))).2.1)))), (o, .inr (2, [.ref a, .int (nI n)])), (a, .inl (E.2.1, 14, .inl (aN Cd)))] rfl rfl [.int (bI ((pt Gp Tt (Tt (Gp (v / 10 % 10))) (Tt (Gp (v % 10)))).2.2))] rfl 111 rfl ?_
    exact G_iret C hr dX0_apply_111 (bI_nar _) () trivial (by simp [cst, hs_1]) (by simp [cst, hs_1])

set_option maxHeartbeats 4000000 in
set_option maxRecDepth 100000 in
theorem c_X0_solve (l : Launch) (E : gE) (co cg ct : Nat) (Gp : Nat → Nat) (Tt : Nat → Option Nat) (o a n : Nat) (Cd : Nat → Nat) (ln : Nat → Nat) (lo : Option Nat) (hok : lok n ln Cd) (hlo : ∀ g, lo = some g → g < 2 ^ 31) : FD l E yX0_solve cX0_solve 6 none { frames := 4, cells := 0, slots := 0, locals := 96 } [.ref co, .ref o, .int (oI lo)] [(co, .inr (0, [.ref cg, .ref ct])), (cg, .inl (E.2.1, 10, .inl (aN Gp))), (ct, .inl (E.2.1, 10, .inl (aO Tt))), (o, .inr (2, [.ref a, .int (nI n)])), (a, .inl (E.2.1, 14, .inl (aN Cd)))] none [(co, .inr (0, [.ref cg, .ref ct])), (cg, .inl (E.2.1, 10, .inl (aN (coarG ln n lo)))), (ct, .inl (E.2.1, 10, .inl (aO (coarT ln n lo)))), (o, .inr (2, [.ref a, .int (nI n)])), (a, .inl (E.2.1, 14, .inl (aN Cd)))] := by
  refine Fn_ofL (own := RX0) (by decide) rfl rfl [(0, .ref co), (1, .ref o), (2, .int (oI lo))] rfl ?_
  intro p e s m below meth c A C hr hnm
  have h14 : n ≤ 14 := hok.n
  refine G_iconst C dX0_solve_0 (v := nI 0) rfl 1 rfl ?_
  refine G_istore_n C dX0_solve_1 (by decide) [(3, .int (nI 0)), (0, .ref co), (1, .ref o), (2, .int (oI lo))] rfl 2 rfl ?_
  refine G_eq (ws' := [(co, .inr (0, [.ref cg, .ref ct])), (cg, .inl (E.2.1, 10, .inl (aN (flG (fun k => k) Gp 0)))), (ct, .inl (E.2.1, 10, .inl (aO (flG (fun _ => none) Tt 0)))), (o, .inr (2, [.ref a, .int (nI n)])), (a, .inl (E.2.1, 14, .inl (aN Cd)))]) (by rw [flG_0, flG_0]) rfl rfl ?_
  refine G_while (X := Nat) (Wf := fun x => [(co, .inr (0, [.ref cg, .ref ct])), (cg, .inl (E.2.1, 10, .inl (aN (flG (fun k => k) Gp x)))), (ct, .inl (E.2.1, 10, .inl (aO (flG (fun _ => none) Tt x)))), (o, .inr (2, [.ref a, .int (nI n)])), (a, .inl (E.2.1, 14, .inl (aN Cd)))]) (Lf := fun x => [(3, .int (nI x)), (0, .ref co), (1, .ref o), (2, .int (oI lo))]) (Sf := fun _ => []) (fun x => x ≤ 10) (fun x => 10 - x) (fun x hx9 ihx => ?_) 0 (by omega)
  refine G_iload_n C dX0_solve_2 rfl 3 rfl ?_
  refine G_bipush C dX0_solve_3 (v := nI 10) (by decide) 5 rfl ?_
  refine G_icmp_ge C dX0_solve_5 28 rfl 8 rfl (nI_leI (by omega) (by omega)) (fun h_1 => ?_) (fun h_1 => ?_)
  · refine G_cong 1 (aN (fun k => k)) rfl (fun j hj => by simp only [aN]; rw [flG_in _ _ (by omega)]) [(co, .inr (0, [.ref cg, .ref ct])), (cg, .inl (E.2.1, 10, .inl (aN (fun k => k)))), (ct, .inl (E.2.1, 10, .inl (aO (flG (fun _ => none) Tt x)))), (o, .inr (2, [.ref a, .int (nI n)])), (a, .inl (E.2.1, 14, .inl (aN Cd)))] rfl ?_
    refine G_cong 2 (aO (fun _ => none)) rfl (fun j hj => by simp only [aO]; rw [flG_in _ _ (by omega)]) [(co, .inr (0, [.ref cg, .ref ct])), (cg, .inl (E.2.1, 10, .inl (aN (fun k => k)))), (ct, .inl (E.2.1, 10, .inl (aO (fun _ => none)))), (o, .inr (2, [.ref a, .int (nI n)])), (a, .inl (E.2.1, 14, .inl (aN Cd)))] rfl ?_
    refine G_iconst C dX0_solve_28 (v := nI 1) rfl 29 rfl ?_
    refine G_istore_n C dX0_solve_29 (by decide) [(3, .int (nI 1)), (0, .ref co), (1, .ref o), (2, .int (oI lo))] rfl 30 rfl ?_
    refine G_iconst C dX0_solve_30 (v := nI 0) rfl 31 rfl ?_
    refine G_istore C dX0_solve_31 (by decide) [(4, .int (nI 0)), (3, .int (nI 1)), (0, .ref co), (1, .ref o), (2, .int (oI lo))] rfl 33 rfl ?_
    refine G_eq (ws' := [(co, .inr (0, [.ref cg, .ref ct])), (cg, .inl (E.2.1, 10, .inl (aN ((cit ln n lo 0).1)))), (ct, .inl (E.2.1, 10, .inl (aO ((cit ln n lo 0).2.1)))), (o, .inr (2, [.ref a, .int (nI n)])), (a, .inl (E.2.1, 14, .inl (aN Cd)))]) (L' := [(4, .int (nI 0)), (3, .int (bI ((cit ln n lo 0).2.2))), (0, .ref co), (1, .ref o), (2, .int (oI lo))]) rfl rfl rfl ?_
    refine G_sel [1, 0, 2, 3, 4] [(3, .int (nI 1)), (4, .int (nI 0)), (0, .ref co), (1, .ref o), (2, .int (oI lo))] rfl ?_
    refine G_while (X := Nat) (Wf := fun j => [(co, .inr (0, [.ref cg, .ref ct])), (cg, .inl (E.2.1, 10, .inl (aN ((cit ln n lo j).1)))), (ct, .inl (E.2.1, 10, .inl (aO ((cit ln n lo j).2.1)))), (o, .inr (2, [.ref a, .int (nI n)])), (a, .inl (E.2.1, 14, .inl (aN Cd)))]) (Lf := fun j => [(3, .int (bI ((cit ln n lo j).2.2))), (4, .int (nI j)), (0, .ref co), (1, .ref o), (2, .int (oI lo))]) (Sf := fun _ => []) (fun j => j ≤ 21) (fun j => 21 - j) (fun j hj ihj => ?_) 0 (by omega)
    refine G_iload C dX0_solve_33 rfl 35 rfl ?_
    refine G_bipush C dX0_solve_35 (v := nI 20) (by decide) 37 rfl ?_
    refine G_icmp_gt C dX0_solve_37 88 rfl 40 rfl (nI_ltI (by omega) (by omega)) (fun h_1 => ?_) (fun h_1 => ?_)
    · exact G_vret C hr dX0_solve_88 () trivial rfl (by first | (rw [show j = 21 by omega]; rfl) | (have e := cit_stay h_2 (21 - j); rw [show j + (21 - j) = 21 by omega] at e; simp only [coarG, coarT, e]))
    · refine G_iload_n C dX0_solve_40 rfl 41 rfl ?_
      refine G_if_eq C dX0_solve_41 88 rfl 44 rfl (bI_0 _) (fun h_2 => ?_) (fun h_2 => ?_)
      · exact G_vret C hr dX0_solve_88 () trivial rfl (by first | (rw [show j = 21 by omega]; rfl) | (have e := cit_stay h_2 (21 - j); rw [show j + (21 - j) = 21 by omega] at e; simp only [coarG, coarT, e]))
      · refine G_iconst C dX0_solve_44 (v := nI 0) rfl 45 rfl ?_
        refine G_istore_n C dX0_solve_45 (by decide) [(3, .int (nI 0)), (4, .int (nI j)), (0, .ref co), (1, .ref o), (2, .int (oI lo))] rfl 46 rfl ?_
        refine G_iconst C dX0_solve_46 (v := nI 0) rfl 47 rfl ?_
        refine G_istore C dX0_solve_47 (by decide) [(5, .int (nI 0)), (3, .int (nI 0)), (4, .int (nI j)), (0, .ref co), (1, .ref o), (2, .int (oI lo))] rfl 49 rfl ?_
        refine G_eq (ws' := [(co, .inr (0, [.ref cg, .ref ct])), (cg, .inl (E.2.1, 10, .inl (aN ((cp ln lo (cit ln n lo j).1 (cit ln n lo j).2.1 0).1)))), (ct, .inl (E.2.1, 10, .inl (aO ((cp ln lo (cit ln n lo j).1 (cit ln n lo j).2.1 0).2.1)))), (o, .inr (2, [.ref a, .int (nI n)])), (a, .inl (E.2.1, 14, .inl (aN Cd)))]) (L' := [(5, .int (nI 0)), (3, .int (bI ((cp ln lo (cit ln n lo j).1 (cit ln n lo j).2.1 0).2.2))), (4, .int (nI j)), (0, .ref co), (1, .ref o), (2, .int (oI lo))]) rfl rfl rfl ?_
        refine G_sel [1, 0, 2, 3, 4, 5] [(3, .int (nI 0)), (5, .int (nI 0)), (4, .int (nI j)), (0, .ref co), (1, .ref o), (2, .int (oI lo))] rfl ?_
        refine G_while (X := Nat) (Wf := fun i => [(co, .inr (0, [.ref cg, .ref ct])), (cg, .inl (E.2.1, 10, .inl (aN ((cp ln lo (cit ln n lo j).1 (cit ln n lo j).2.1 i).1)))), (ct, .inl (E.2.1, 10, .inl (aO ((cp ln lo (cit ln n lo j).1 (cit ln n lo j).2.1 i).2.1)))), (o, .inr (2, [.ref a, .int (nI n)])), (a, .inl (E.2.1, 14, .inl (aN Cd)))]) (Lf := fun i => [(3, .int (bI ((cp ln lo (cit ln n lo j).1 (cit ln n lo j).2.1 i).2.2))), (5, .int (nI i)), (4, .int (nI j)), (0, .ref co), (1, .ref o), (2, .int (oI lo))]) (Sf := fun _ => []) (fun i => i ≤ n) (fun i => n - i) (fun i hi ih => ?_) 0 (by omega)
        refine G_iload C dX0_solve_49 rfl 51 rfl ?_
        refine G_aload_n C dX0_solve_51 rfl 52 rfl ?_
        refine G_cV C dX0_solve_52 (c_X2_size l E o a n Cd ) wm_X0_37 wi_X2_size wsel_X2_size wn_X2 wc_X2_size rfl rfl ⟨by decide, by decide, rfl⟩ rfl (Nat.le_of_ble_eq_true rfl) 2 rfl rfl 0 rfl [3, 4] [0, 1, 2] (wr := [(co, .inr (0, [.ref cg, .ref ct])), (cg, .inl (E.2.1, 10, .inl (aN ((cp ln lo (cit ln n lo j).1 (cit ln n lo j).2.1 i).1)))), (ct, .inl (E.2.1, 10, .inl (aO ((cp ln lo (cit ln n lo j).1 (cit ln n lo j).2.1 i).2.1))))]) rfl rfl rfl rfl rfl [0, 1, 2, 3, 4] rfl [(co, .inr (0, [.ref cg, .ref ct])), (cg, .inl (E.2.1, 10, .inl (aN ((cp ln lo (cit ln n lo j).1 (cit ln n lo j).2.1 i).1)))), (ct, .inl (E.2.1, 10, .inl (aO ((cp ln lo (cit ln n lo j).1 (cit ln n lo j).2.1 i).2.1)))), (o, .inr (2, [.ref a, .int (nI n)])), (a, .inl (E.2.1, 14, .inl (aN Cd)))] rfl rfl [.int (nI n), .int (nI i)] rfl 55 rfl ?_
        refine G_icmp_ge C dX0_solve_55 82 rfl 58 rfl (nI_leI (by omega) (by omega)) (fun h_3 => ?_) (fun h_3 => ?_)
        · refine G_iinc C dX0_solve_82 2 rfl (nI_1 _) (by decide) [(4, .int (nI (j + 1))), (3, .int (bI ((cp ln lo (cit ln n lo j).1 (cit ln n lo j).2.1 i).2.2))), (5, .int (nI i)), (0, .ref co), (1, .ref o), (2, .int (oI lo))] rfl 85 rfl ?_
          refine G_goto C dX0_solve_85 33 rfl ?_
          refine G_sel [1, 0, 3, 4, 5] [(3, .int (bI ((cp ln lo (cit ln n lo j).1 (cit ln n lo j).2.1 i).2.2))), (4, .int (nI (j + 1))), (0, .ref co), (1, .ref o), (2, .int (oI lo))] rfl ?_
          refine G_eq (ws' := [(co, .inr (0, [.ref cg, .ref ct])), (cg, .inl (E.2.1, 10, .inl (aN ((cit ln n lo (j + 1)).1)))), (ct, .inl (E.2.1, 10, .inl (aO ((cit ln n lo (j + 1)).2.1)))), (o, .inr (2, [.ref a, .int (nI n)])), (a, .inl (E.2.1, 14, .inl (aN Cd)))]) (L' := [(3, .int (bI ((cit ln n lo (j + 1)).2.2))), (4, .int (nI (j + 1))), (0, .ref co), (1, .ref o), (2, .int (oI lo))]) (by simp only [cit]; rw [if_pos (by simpa using h_2), show i = n by omega]) (by simp only [cit]; rw [if_pos (by simpa using h_2), show i = n by omega]) rfl ?_
          exact ihj (j + 1) (by omega) (by omega)
        · refine G_iload C dX0_solve_58 rfl 60 rfl ?_
          refine G_iload_n C dX0_solve_60 rfl 61 rfl ?_
          refine G_icmp_eq C dX0_solve_61 76 rfl 64 rfl (oI_eq (t := some i) (u := lo) (fun _ h => (by cases h; omega)) hlo) (fun h_4 => ?_) (fun h_4 => ?_)
          · refine G_iinc C dX0_solve_76 1 rfl (nI_1 _) (by decide) [(5, .int (nI (i + 1))), (3, .int (bI ((cp ln lo (cit ln n lo j).1 (cit ln n lo j).2.1 i).2.2))), (4, .int (nI j)), (0, .ref co), (1, .ref o), (2, .int (oI lo))] rfl 79 rfl ?_
            refine G_goto C dX0_solve_79 49 rfl ?_
            refine G_sel [1, 0, 2, 3, 4, 5] [(3, .int (bI ((cp ln lo (cit ln n lo j).1 (cit ln n lo j).2.1 i).2.2))), (5, .int (nI (i + 1))), (4, .int (nI j)), (0, .ref co), (1, .ref o), (2, .int (oI lo))] rfl ?_
            refine G_eq (ws' := [(co, .inr (0, [.ref cg, .ref ct])), (cg, .inl (E.2.1, 10, .inl (aN ((cp ln lo (cit ln n lo j).1 (cit ln n lo j).2.1 (i + 1)).1)))), (ct, .inl (E.2.1, 10, .inl (aO ((cp ln lo (cit ln n lo j).1 (cit ln n lo j).2.1 (i + 1)).2.1)))), (o, .inr (2, [.ref a, .int (nI n)])), (a, .inl (E.2.1, 14, .inl (aN Cd)))]) (L' := [(3, .int (bI ((cp ln lo (cit ln n lo j).1 (cit ln n lo j).2.1 (i + 1)).2.2))), (5, .int (nI (i + 1))), (4, .int (nI j)), (0, .ref co), (1, .ref o), (2, .int (oI lo))]) (by simp [cp, h_4]) (by simp [cp, h_4]) rfl ?_
            exact ih (i + 1) (by omega) (by omega)
          · refine G_aload_n C dX0_solve_64 rfl 65 rfl ?_
            refine G_aload_n C dX0_solve_65 rfl 66 rfl ?_
            refine G_iload C dX0_solve_66 rfl 68 rfl ?_
            refine G_cV C dX0_solve_68 (c_X0_apply l E co cg ct ((cp ln lo (cit ln n lo j).1 (cit ln n lo j).2.1 i).1) ((cp ln lo (cit ln n lo j).1 (cit ln n lo j).2.1 i).2.1) o a n Cd i (ln i) (cok_cp (cok_cit j).1 (cok_cit j).2 i).1 (cok_cp (cok_cit j).1 (cok_cit j).2 i).2 (by omega) (hok.c (by omega)) (hok.v (by omega))) wm_X0_43 wi_X0_apply wsel_X0_apply wn_X0 wc_X0_apply rfl rfl ⟨by decide, by decide, rfl⟩ rfl (Nat.le_of_ble_eq_true rfl) 0 rfl rfl 0 rfl [0, 1, 2, 3, 4] [] (wr := []) rfl rfl rfl rfl rfl [0, 1, 2, 3, 4] rfl [(co, .inr (0, [.ref cg, .ref ct])), (cg, .inl (E.2.1, 10, .inl (aN ((cst (ln i) ((cp ln lo (cit ln n lo j).1 (cit ln n lo j).2.1 i).1) ((cp ln lo (cit ln n lo j).1 (cit ln n lo j).2.1 i).2.1)).1)))), (ct, .inl (E.2.1, 10, .inl (aO ((cst (ln i) ((cp ln lo (cit ln n lo j).1 (cit ln n lo j).2.1 i).1) ((cp ln lo (cit ln n lo j).1 (cit ln n lo j).2.1 i).2.1)).2.1)))), (o, .inr (2, [.ref a, .int (nI n)])), (a, .inl (E.2.1, 14, .inl (aN Cd)))] rfl rfl [.int (bI ((cst (ln i) ((cp ln lo (cit ln n lo j).1 (cit ln n lo j).2.1 i).1) ((cp ln lo (cit ln n lo j).1 (cit ln n lo j).2.1 i).2.1)).2.2))] rfl 71 rfl ?_
            refine G_if_eq C dX0_solve_71 76 rfl 74 rfl (bI_0 _) (fun h_5 => ?_) (fun h_5 => ?_)
            · refine G_iinc C dX0_solve_76 1 rfl (nI_1 _) (by decide) [(5, .int (nI (i + 1))), (3, .int (bI ((cp ln lo (cit ln n lo j).1 (cit ln n lo j).2.1 i).2.2))), (4, .int (nI j)), (0, .ref co), (1, .ref o), (2, .int (oI lo))] rfl 79 rfl ?_
              refine G_goto C dX0_solve_79 49 rfl ?_
              refine G_sel [1, 0, 2, 3, 4, 5] [(3, .int (bI ((cp ln lo (cit ln n lo j).1 (cit ln n lo j).2.1 i).2.2))), (5, .int (nI (i + 1))), (4, .int (nI j)), (0, .ref co), (1, .ref o), (2, .int (oI lo))] rfl ?_
              refine G_eq (ws' := [(co, .inr (0, [.ref cg, .ref ct])), (cg, .inl (E.2.1, 10, .inl (aN ((cp ln lo (cit ln n lo j).1 (cit ln n lo j).2.1 (i + 1)).1)))), (ct, .inl (E.2.1, 10, .inl (aO ((cp ln lo (cit ln n lo j).1 (cit ln n lo j).2.1 (i + 1)).2.1)))), (o, .inr (2, [.ref a, .int (nI n)])), (a, .inl (E.2.1, 14, .inl (aN Cd)))]) (L' := [(3, .int (bI ((cp ln lo (cit ln n lo j).1 (cit ln n lo j).2.1 (i + 1)).2.2))), (5, .int (nI (i + 1))), (4, .int (nI j)), (0, .ref co), (1, .ref o), (2, .int (oI lo))]) (by simp [cp, h_4]) (by simp [cp, h_4, h_5, bI]) rfl ?_
              exact ih (i + 1) (by omega) (by omega)
            · refine G_iconst C dX0_solve_74 (v := nI 1) rfl 75 rfl ?_
              refine G_istore_n C dX0_solve_75 (by decide) [(3, .int (nI 1)), (5, .int (nI i)), (4, .int (nI j)), (0, .ref co), (1, .ref o), (2, .int (oI lo))] rfl 76 rfl ?_
              refine G_iinc C dX0_solve_76 1 rfl (nI_1 _) (by decide) [(5, .int (nI (i + 1))), (3, .int (nI 1)), (4, .int (nI j)), (0, .ref co), (1, .ref o), (2, .int (oI lo))] rfl 79 rfl ?_
              refine G_goto C dX0_solve_79 49 rfl ?_
              refine G_sel [1, 0, 2, 3, 4, 5] [(3, .int (nI 1)), (5, .int (nI (i + 1))), (4, .int (nI j)), (0, .ref co), (1, .ref o), (2, .int (oI lo))] rfl ?_
              refine G_eq (ws' := [(co, .inr (0, [.ref cg, .ref ct])), (cg, .inl (E.2.1, 10, .inl (aN ((cp ln lo (cit ln n lo j).1 (cit ln n lo j).2.1 (i + 1)).1)))), (ct, .inl (E.2.1, 10, .inl (aO ((cp ln lo (cit ln n lo j).1 (cit ln n lo j).2.1 (i + 1)).2.1)))), (o, .inr (2, [.ref a, .int (nI n)])), (a, .inl (E.2.1, 14, .inl (aN Cd)))]) (L' := [(3, .int (bI ((cp ln lo (cit ln n lo j).1 (cit ln n lo j).2.1 (i + 1)).2.2))), (5, .int (nI (i + 1))), (4, .int (nI j)), (0, .ref co), (1, .ref o), (2, .int (oI lo))]) (by simp [cp, h_4]) (by simp [cp, h_4, h_5, bI]) rfl ?_
              exact ih (i + 1) (by omega) (by omega)
  · refine G_aload_n C dX0_solve_8 rfl 9 rfl ?_
    refine G_getf C dX0_solve_9 wF_X0 wf_X0_9 (f := 0) (by decide) (ci := 0) rfl 0 rfl rfl 12 rfl ?_
    refine G_iload_n C dX0_solve_12 rfl 13 rfl ?_
    refine G_iload_n C dX0_solve_13 rfl 14 rfl ?_
    refine G_iastN C dX0_solve_14 1 rfl rfl (x := x) (by omega) [(co, .inr (0, [.ref cg, .ref ct])), (cg, .inl (E.2.1, 10, .inl (aN (va_up (flG (fun k => k) Gp x) x x)))), (ct, .inl (E.2.1, 10, .inl (aO (flG (fun _ => none) Tt x)))), (o, .inr (2, [.ref a, .int (nI n)])), (a, .inl (E.2.1, 14, .inl (aN Cd)))] rfl 15 rfl ?_
    refine G_aload_n C dX0_solve_15 rfl 16 rfl ?_
    refine G_getf C dX0_solve_16 wF_X0 wf_X0_15 (f := 1) (by decide) (ci := 0) rfl 0 rfl rfl 19 rfl ?_
    refine G_iload_n C dX0_solve_19 rfl 20 rfl ?_
    refine G_iconst C dX0_solve_20 (v := oI none) rfl 21 rfl ?_
    refine G_iastO C dX0_solve_21 2 rfl rfl (x := none) (by omega) [(co, .inr (0, [.ref cg, .ref ct])), (cg, .inl (E.2.1, 10, .inl (aN (va_up (flG (fun k => k) Gp x) x x)))), (ct, .inl (E.2.1, 10, .inl (aO (va_up (flG (fun _ => none) Tt x) x none)))), (o, .inr (2, [.ref a, .int (nI n)])), (a, .inl (E.2.1, 14, .inl (aN Cd)))] rfl 22 rfl ?_
    refine G_iinc C dX0_solve_22 0 rfl (nI_1 _) (by decide) [(3, .int (nI (x + 1))), (0, .ref co), (1, .ref o), (2, .int (oI lo))] rfl 25 rfl ?_
    refine G_goto C dX0_solve_25 2 rfl ?_
    refine G_eq (ws' := [(co, .inr (0, [.ref cg, .ref ct])), (cg, .inl (E.2.1, 10, .inl (aN (flG (fun k => k) Gp (x + 1))))), (ct, .inl (E.2.1, 10, .inl (aO (flG (fun _ => none) Tt (x + 1))))), (o, .inr (2, [.ref a, .int (nI n)])), (a, .inl (E.2.1, 14, .inl (aN Cd)))]) (by rw [flG_s (fun k => k) Gp x, flG_s (fun _ => none) Tt x]) rfl rfl ?_
    exact ihx (x + 1) (by omega) (by omega)
