def tI : Option Nat → Int32
  | none => -5
  | some b => nI b
set_option maxHeartbeats 4000000 in
set_option maxRecDepth 100000 in
theorem c_X2_append (l : Launch) (E : gE) (o a n : Nat) (Cd : Nat → Nat) (sr x y : Nat) (hn : n < 14) (hs : sr < 4) (hx : x < 10) (hy : y < 10) : FD l E yX2_append cX2_append 4 none { frames := 0, cells := 0, slots := 0, locals := 0 } [.ref o, .int (nI sr), .int (nI x), .int (nI y)] [(o, .inr (2, [.ref a, .int (nI n)])), (a, .inl (E.2.1, 14, .inl (aN Cd)))] none [(o, .inr (2, [.ref a, .int (nI (n + 1))])), (a, .inl (E.2.1, 14, .inl (aN (va_up Cd n (ce (100 * sr + 10 * x + y))))))] := by
  refine Fn_ofL (own := RX2) (by decide) rfl rfl [(0, .ref o), (1, .int (nI sr)), (2, .int (nI x)), (3, .int (nI y))] rfl ?_
  intro p e s m below meth c A C hr hnm
  refine G_aload_n C dX2_append_0 rfl 1 rfl ?_
  refine G_getf C dX2_append_1 wF_X2 wf_X2_15 (f := 1) (by decide) (ci := 2) rfl 0 rfl rfl 4 rfl ?_
  refine G_bipush C dX2_append_4 (v := nI 14) (by decide) 6 rfl ?_
  refine G_icmp_ge_f C dX2_append_6 38 rfl 9 rfl (by rw [nI_leI (by omega) (by omega)]; omega) ?_
  refine G_aload_n C dX2_append_9 rfl 10 rfl ?_
  refine G_getf C dX2_append_10 wF_X2 wf_X2_9 (f := 0) (by decide) (ci := 2) rfl 0 rfl rfl 13 rfl ?_
  refine G_aload_n C dX2_append_13 rfl 14 rfl ?_
  refine G_getf C dX2_append_14 wF_X2 wf_X2_15 (f := 1) (by decide) (ci := 2) rfl 0 rfl rfl 17 rfl ?_
  refine G_iload_n C dX2_append_17 rfl 18 rfl ?_
  refine G_bipush C dX2_append_18 (v := nI 8) (by decide) 20 rfl ?_
  refine G_ishl C dX2_append_20 (v := (nI sr) <<< ((nI 8) &&& 31)) rfl 21 rfl ?_
  refine G_iload_n C dX2_append_21 rfl 22 rfl ?_
  refine G_iconst C dX2_append_22 (v := nI 4) rfl 23 rfl ?_
  refine G_ishl C dX2_append_23 (v := (nI x) <<< ((nI 4) &&& 31)) rfl 24 rfl ?_
  refine G_ior C dX2_append_24 (v := ((nI sr) <<< ((nI 8) &&& 31)) ||| ((nI x) <<< ((nI 4) &&& 31))) rfl 25 rfl ?_
  refine G_iload_n C dX2_append_25 rfl 26 rfl ?_
  refine G_ior C dX2_append_26 (v := nI (ce (100 * sr + 10 * x + y))) (ce_mk _ hs _ hx _ hy) 27 rfl ?_
  refine G_iastN C dX2_append_27 1 rfl rfl (x := ce (100 * sr + 10 * x + y)) (by omega) [(o, .inr (2, [.ref a, .int (nI n)])), (a, .inl (E.2.1, 14, .inl (aN (va_up Cd n (ce (100 * sr + 10 * x + y))))))] rfl 28 rfl ?_
  refine G_aload_n C dX2_append_28 rfl 29 rfl ?_
  refine G_dup C dX2_append_29 rfl 30 rfl ?_
  refine G_getf C dX2_append_30 wF_X2 wf_X2_15 (f := 1) (by decide) (ci := 2) rfl 0 rfl rfl 33 rfl ?_
  refine G_iconst C dX2_append_33 (v := nI 1) rfl 34 rfl ?_
  refine G_iadd C dX2_append_34 (v := nI (n + 1)) (nI_add _ _) 35 rfl ?_
  refine G_putf C dX2_append_35 wF_X2 wf_X2_15 (f := 1) (by decide) (ci := 2) rfl tyX2_ok nmX2 rfl 0 rfl rfl rfl (Nat.le_of_ble_eq_true rfl) [(o, .inr (2, [.ref a, .int (nI (n + 1))])), (a, .inl (E.2.1, 14, .inl (aN (va_up Cd n (ce (100 * sr + 10 * x + y))))))] rfl 38 rfl ?_
  exact G_vret C hr dX2_append_38 () trivial rfl rfl

set_option maxHeartbeats 4000000 in
set_option maxRecDepth 100000 in
theorem c_X2_moveTo (l : Launch) (E : gE) (o a n : Nat) (Cd : Nat → Nat) (i tp : Nat) (hi : i < 14) (hp : tp < 14) : FD l E yX2_moveTo cX2_moveTo 5 none { frames := 0, cells := 0, slots := 0, locals := 0 } [.ref o, .int (nI i), .int (nI tp)] [(o, .inr (2, [.ref a, .int (nI n)])), (a, .inl (E.2.1, 14, .inl (aN Cd)))] none [(o, .inr (2, [.ref a, .int (nI n)])), (a, .inl (E.2.1, 14, .inl (aN (mvT Cd i tp))))] := by
  refine Fn_ofL (own := RX2) (by decide) rfl rfl [(0, .ref o), (1, .int (nI i)), (2, .int (nI tp))] rfl ?_
  intro p e s m below meth c A C hr hnm
  refine G_aload_n C dX2_moveTo_0 rfl 1 rfl ?_
  refine G_getf C dX2_moveTo_1 wF_X2 wf_X2_9 (f := 0) (by decide) (ci := 2) rfl 0 rfl rfl 4 rfl ?_
  refine G_iload_n C dX2_moveTo_4 rfl 5 rfl ?_
  refine G_ialdN C dX2_moveTo_5 1 rfl rfl (by omega) 6 rfl ?_
  refine G_istore_n C dX2_moveTo_6 (by decide) [(3, .int (nI (Cd i))), (0, .ref o), (1, .int (nI i)), (2, .int (nI tp))] rfl 7 rfl ?_
  refine G_iload_n C dX2_moveTo_7 rfl 8 rfl ?_
  refine G_istore C dX2_moveTo_8 (by decide) [(4, .int (nI i)), (3, .int (nI (Cd i))), (0, .ref o), (1, .int (nI i)), (2, .int (nI tp))] rfl 10 rfl ?_
  refine G_eq (ws' := [(o, .inr (2, [.ref a, .int (nI n)])), (a, .inl (E.2.1, 14, .inl (aN (sh1 Cd i i))))]) (by rw [sh1_0 _ _ _ (Nat.le_refl _)]) rfl rfl ?_
  refine G_while (X := Nat) (Wf := fun k => [(o, .inr (2, [.ref a, .int (nI n)])), (a, .inl (E.2.1, 14, .inl (aN (sh1 Cd i k))))]) (Lf := fun k => [(4, .int (nI k)), (3, .int (nI (Cd i))), (0, .ref o), (1, .int (nI i)), (2, .int (nI tp))]) (Sf := fun _ => []) (fun k => i ≤ k ∧ (k ≤ tp ∨ k = i)) (fun k => tp - k) (fun k hi ih => ?_) i ⟨Nat.le_refl _, Or.inr rfl⟩
  refine G_iload C dX2_moveTo_10 rfl 12 rfl ?_
  refine G_iload_n C dX2_moveTo_12 rfl 13 rfl ?_
  refine G_icmp_ge C dX2_moveTo_13 38 rfl 16 rfl (nI_leI (by omega) (by omega)) (fun h_1 => ?_) (fun h_1 => ?_)
  · rcases Nat.lt_or_ge i tp with hlt | hge
    · refine G_eq (ws' := [(o, .inr (2, [.ref a, .int (nI n)])), (a, .inl (E.2.1, 14, .inl (aN (sh1 Cd i tp))))]) (by rw [show k = tp by omega]) rfl rfl ?_
      refine G_iload_n C dX2_moveTo_38 rfl 39 rfl ?_
      refine G_istore C dX2_moveTo_39 (by decide) [(4, .int (nI i)), (3, .int (nI (Cd i))), (0, .ref o), (1, .int (nI i)), (2, .int (nI tp))] rfl 41 rfl ?_
      refine G_iload C dX2_moveTo_41 rfl 43 rfl ?_
      refine G_iload_n C dX2_moveTo_43 rfl 44 rfl ?_
      refine G_icmp_le_t C dX2_moveTo_44 69 rfl (by rw [nI_leI (by omega) (by omega)]; omega) ?_
      refine G_aload_n C dX2_moveTo_69 rfl 70 rfl ?_
      refine G_getf C dX2_moveTo_70 wF_X2 wf_X2_9 (f := 0) (by decide) (ci := 2) rfl 0 rfl rfl 73 rfl ?_
      refine G_iload_n C dX2_moveTo_73 rfl 74 rfl ?_
      refine G_iload_n C dX2_moveTo_74 rfl 75 rfl ?_
      refine G_iastN C dX2_moveTo_75 1 rfl rfl (x := Cd i) (by omega) [(o, .inr (2, [.ref a, .int (nI n)])), (a, .inl (E.2.1, 14, .inl (aN (va_up (sh1 Cd i tp) tp (Cd i)))))] rfl 76 rfl ?_
      exact G_vret C hr dX2_moveTo_76 () trivial rfl (by rw [mvT_1 _ _ _ (by omega)])
    · refine G_eq (ws' := [(o, .inr (2, [.ref a, .int (nI n)])), (a, .inl (E.2.1, 14, .inl (aN Cd)))]) (by rw [show k = i by omega, sh1_0 _ _ _ (Nat.le_refl _)]) rfl rfl ?_
      refine G_iload_n C dX2_moveTo_38 rfl 39 rfl ?_
      refine G_istore C dX2_moveTo_39 (by decide) [(4, .int (nI i)), (3, .int (nI (Cd i))), (0, .ref o), (1, .int (nI i)), (2, .int (nI tp))] rfl 41 rfl ?_
      refine G_eq (ws' := [(o, .inr (2, [.ref a, .int (nI n)])), (a, .inl (E.2.1, 14, .inl (aN (sh2 Cd i i))))]) (by rw [sh2_0 _ _ _ (Nat.le_refl _)]) rfl rfl ?_
      refine G_while (X := Nat) (Wf := fun k2 => [(o, .inr (2, [.ref a, .int (nI n)])), (a, .inl (E.2.1, 14, .inl (aN (sh2 Cd i k2))))]) (Lf := fun k2 => [(4, .int (nI k2)), (3, .int (nI (Cd i))), (0, .ref o), (1, .int (nI i)), (2, .int (nI tp))]) (Sf := fun _ => []) (fun k2 => tp ≤ k2 ∧ k2 ≤ i) (fun k2 => k2) (fun k2 hi ih => ?_) i ⟨by omega, Nat.le_refl _⟩
      refine G_iload C dX2_moveTo_41 rfl 43 rfl ?_
      refine G_iload_n C dX2_moveTo_43 rfl 44 rfl ?_
      refine G_icmp_le C dX2_moveTo_44 69 rfl 47 rfl (nI_leI (by omega) (by omega)) (fun h_2 => ?_) (fun h_2 => ?_)
      · refine G_aload_n C dX2_moveTo_69 rfl 70 rfl ?_
        refine G_getf C dX2_moveTo_70 wF_X2 wf_X2_9 (f := 0) (by decide) (ci := 2) rfl 0 rfl rfl 73 rfl ?_
        refine G_iload_n C dX2_moveTo_73 rfl 74 rfl ?_
        refine G_iload_n C dX2_moveTo_74 rfl 75 rfl ?_
        refine G_iastN C dX2_moveTo_75 1 rfl rfl (x := Cd i) (by omega) [(o, .inr (2, [.ref a, .int (nI n)])), (a, .inl (E.2.1, 14, .inl (aN (va_up (sh2 Cd i k2) tp (Cd i)))))] rfl 76 rfl ?_
        exact G_vret C hr dX2_moveTo_76 () trivial rfl (by rw [show k2 = tp by omega, mvT_2 _ _ _ (by omega)])
      · refine G_aload_n C dX2_moveTo_47 rfl 48 rfl ?_
        refine G_getf C dX2_moveTo_48 wF_X2 wf_X2_9 (f := 0) (by decide) (ci := 2) rfl 0 rfl rfl 51 rfl ?_
        refine G_iload C dX2_moveTo_51 rfl 53 rfl ?_
        refine G_aload_n C dX2_moveTo_53 rfl 54 rfl ?_
        refine G_getf C dX2_moveTo_54 wF_X2 wf_X2_9 (f := 0) (by decide) (ci := 2) rfl 0 rfl rfl 57 rfl ?_
        refine G_iload C dX2_moveTo_57 rfl 59 rfl ?_
        refine G_iconst C dX2_moveTo_59 (v := nI 1) rfl 60 rfl ?_
        refine G_isub C dX2_moveTo_60 (v := nI (k2 - 1)) (pk_sub (by omega)) 61 rfl ?_
        refine G_ialdN C dX2_moveTo_61 1 rfl rfl (by omega) 62 rfl ?_
        refine G_iastN C dX2_moveTo_62 1 rfl rfl (x := (sh2 Cd i k2) (k2 - 1)) (by omega) [(o, .inr (2, [.ref a, .int (nI n)])), (a, .inl (E.2.1, 14, .inl (aN (va_up (sh2 Cd i k2) k2 ((sh2 Cd i k2) (k2 - 1))))))] rfl 63 rfl ?_
        refine G_iinc C dX2_moveTo_63 0 rfl (sb_m1 (by omega)) (by decide) [(4, .int (nI (k2 - 1))), (3, .int (nI (Cd i))), (0, .ref o), (1, .int (nI i)), (2, .int (nI tp))] rfl 66 rfl ?_
        refine G_goto C dX2_moveTo_66 41 rfl ?_
        refine G_eq (ws' := [(o, .inr (2, [.ref a, .int (nI n)])), (a, .inl (E.2.1, 14, .inl (aN (sh2 Cd i (k2 - 1)))))]) (by rw [sh2_s _ _ _ (by omega) (by omega)]) rfl rfl ?_
        exact ih (k2 - 1) (by omega) (by omega)
  · refine G_aload_n C dX2_moveTo_16 rfl 17 rfl ?_
    refine G_getf C dX2_moveTo_17 wF_X2 wf_X2_9 (f := 0) (by decide) (ci := 2) rfl 0 rfl rfl 20 rfl ?_
    refine G_iload C dX2_moveTo_20 rfl 22 rfl ?_
    refine G_aload_n C dX2_moveTo_22 rfl 23 rfl ?_
    refine G_getf C dX2_moveTo_23 wF_X2 wf_X2_9 (f := 0) (by decide) (ci := 2) rfl 0 rfl rfl 26 rfl ?_
    refine G_iload C dX2_moveTo_26 rfl 28 rfl ?_
    refine G_iconst C dX2_moveTo_28 (v := nI 1) rfl 29 rfl ?_
    refine G_iadd C dX2_moveTo_29 (v := nI (k + 1)) (nI_add _ _) 30 rfl ?_
    refine G_ialdN C dX2_moveTo_30 1 rfl rfl (by omega) 31 rfl ?_
    refine G_iastN C dX2_moveTo_31 1 rfl rfl (x := (sh1 Cd i k) (k + 1)) (by omega) [(o, .inr (2, [.ref a, .int (nI n)])), (a, .inl (E.2.1, 14, .inl (aN (va_up (sh1 Cd i k) k ((sh1 Cd i k) (k + 1))))))] rfl 32 rfl ?_
    refine G_iinc C dX2_moveTo_32 0 rfl (nI_1 _) (by decide) [(4, .int (nI (k + 1))), (3, .int (nI (Cd i))), (0, .ref o), (1, .int (nI i)), (2, .int (nI tp))] rfl 35 rfl ?_
    refine G_goto C dX2_moveTo_35 10 rfl ?_
    refine G_eq (ws' := [(o, .inr (2, [.ref a, .int (nI n)])), (a, .inl (E.2.1, 14, .inl (aN (sh1 Cd i (k + 1)))))]) (by rw [sh1_s _ _ _ (by omega)]) rfl rfl ?_
    exact ih (k + 1) (by omega) (by omega)

set_option maxHeartbeats 4000000 in
set_option maxRecDepth 100000 in
theorem c_X2_removeAt (l : Launch) (E : gE) (o a n : Nat) (Cd : Nat → Nat) (i : Nat) (hi : i < n) (hn : n ≤ 14) : FD l E yX2_removeAt cX2_removeAt 2 none { frames := 1, cells := 0, slots := 0, locals := 24 } [.ref o, .int (nI i)] [(o, .inr (2, [.ref a, .int (nI n)])), (a, .inl (E.2.1, 14, .inl (aN Cd)))] none [(o, .inr (2, [.ref a, .int (nI (n - 1))])), (a, .inl (E.2.1, 14, .inl (aN (mvT Cd i (n - 1)))))] := by
  refine Fn_ofL (own := RX2) (by decide) rfl rfl [(0, .ref o), (1, .int (nI i))] rfl ?_
  intro p e s m below meth c A C hr hnm
  refine G_aload_n C dX2_removeAt_0 rfl 1 rfl ?_
  refine G_iload_n C dX2_removeAt_1 rfl 2 rfl ?_
  refine G_aload_n C dX2_removeAt_2 rfl 3 rfl ?_
  refine G_getf C dX2_removeAt_3 wF_X2 wf_X2_15 (f := 1) (by decide) (ci := 2) rfl 0 rfl rfl 6 rfl ?_
  refine G_iconst C dX2_removeAt_6 (v := nI 1) rfl 7 rfl ?_
  refine G_isub C dX2_removeAt_7 (v := nI (n - 1)) (pk_sub (by omega)) 8 rfl ?_
  refine G_cV C dX2_removeAt_8 (c_X2_moveTo l E o a n Cd i (n - 1) (by first | assumption | omega) (by first | assumption | omega)) wm_X2_19 wi_X2_moveTo wsel_X2_moveTo wn_X2 wc_X2_moveTo rfl rfl ⟨by decide, by decide, rfl⟩ rfl (Nat.le_of_ble_eq_true rfl) 2 rfl rfl 0 rfl [0, 1] [] (wr := []) rfl rfl rfl rfl rfl [0, 1] rfl [(o, .inr (2, [.ref a, .int (nI n)])), (a, .inl (E.2.1, 14, .inl (aN (mvT Cd i (n - 1)))))] rfl rfl [] rfl 11 rfl ?_
  refine G_aload_n C dX2_removeAt_11 rfl 12 rfl ?_
  refine G_dup C dX2_removeAt_12 rfl 13 rfl ?_
  refine G_getf C dX2_removeAt_13 wF_X2 wf_X2_15 (f := 1) (by decide) (ci := 2) rfl 0 rfl rfl 16 rfl ?_
  refine G_iconst C dX2_removeAt_16 (v := nI 1) rfl 17 rfl ?_
  refine G_isub C dX2_removeAt_17 (v := nI (n - 1)) (pk_sub (by omega)) 18 rfl ?_
  refine G_putf C dX2_removeAt_18 wF_X2 wf_X2_15 (f := 1) (by decide) (ci := 2) rfl tyX2_ok nmX2 rfl 0 rfl rfl rfl (Nat.le_of_ble_eq_true rfl) [(o, .inr (2, [.ref a, .int (nI (n - 1))])), (a, .inl (E.2.1, 14, .inl (aN (mvT Cd i (n - 1)))))] rfl 21 rfl ?_
  exact G_vret C hr dX2_removeAt_21 () trivial rfl rfl

set_option maxHeartbeats 4000000 in
set_option maxRecDepth 100000 in
theorem c_X2_removeAll (l : Launch) (E : gE) (o a n : Nat) (Cd : Nat → Nat)  : FD l E yX2_removeAll cX2_removeAll 1 none { frames := 0, cells := 0, slots := 0, locals := 0 } [.ref o] [(o, .inr (2, [.ref a, .int (nI n)])), (a, .inl (E.2.1, 14, .inl (aN Cd)))] none [(o, .inr (2, [.ref a, .int (nI 0)])), (a, .inl (E.2.1, 14, .inl (aN Cd)))] := by
  refine Fn_ofL (own := RX2) (by decide) rfl rfl [(0, .ref o)] rfl ?_
  intro p e s m below meth c A C hr hnm
  refine G_aload_n C dX2_removeAll_0 rfl 1 rfl ?_
  refine G_iconst C dX2_removeAll_1 (v := nI 0) rfl 2 rfl ?_
  refine G_putf C dX2_removeAll_2 wF_X2 wf_X2_15 (f := 1) (by decide) (ci := 2) rfl tyX2_ok nmX2 rfl 0 rfl rfl rfl (Nat.le_of_ble_eq_true rfl) [(o, .inr (2, [.ref a, .int (nI 0)])), (a, .inl (E.2.1, 14, .inl (aN Cd)))] rfl 5 rfl ?_
  exact G_vret C hr dX2_removeAll_5 () trivial rfl rfl

set_option maxHeartbeats 4000000 in
set_option maxRecDepth 100000 in
theorem c_X2_copyFrom (l : Launch) (E : gE) (o a n : Nat) (Cd : Nat → Nat) (o2 a2 n2 : Nat) (Cd2 : Nat → Nat) (hn : n2 ≤ 14) : FD l E yX2_copyFrom cX2_copyFrom 2 none { frames := 1, cells := 0, slots := 0, locals := 40 } [.ref o, .ref o2] [(o, .inr (2, [.ref a, .int (nI n)])), (a, .inl (E.2.1, 14, .inl (aN Cd))), (o2, .inr (2, [.ref a2, .int (nI n2)])), (a2, .inl (E.2.1, 14, .inl (aN Cd2)))] none [(o, .inr (2, [.ref a, .int (nI n2)])), (a, .inl (E.2.1, 14, .inl (aN (cpN Cd2 Cd n2)))), (o2, .inr (2, [.ref a2, .int (nI n2)])), (a2, .inl (E.2.1, 14, .inl (aN Cd2)))] := by
  refine Fn_ofL (own := RX2) (by decide) rfl rfl [(0, .ref o), (1, .ref o2)] rfl ?_
  intro p e s m below meth c A C hr hnm
  refine G_aload_n C dX2_copyFrom_0 rfl 1 rfl ?_
  refine G_getf C dX2_copyFrom_1 wF_X2 wf_X2_9 (f := 0) (by decide) (ci := 2) rfl 2 rfl rfl 4 rfl ?_
  refine G_iconst C dX2_copyFrom_4 (v := nI 0) rfl 5 rfl ?_
  refine G_aload_n C dX2_copyFrom_5 rfl 6 rfl ?_
  refine G_getf C dX2_copyFrom_6 wF_X2 wf_X2_9 (f := 0) (by decide) (ci := 2) rfl 0 rfl rfl 9 rfl ?_
  refine G_iconst C dX2_copyFrom_9 (v := nI 0) rfl 10 rfl ?_
  refine G_aload_n C dX2_copyFrom_10 rfl 11 rfl ?_
  refine G_getf C dX2_copyFrom_11 wF_X2 wf_X2_15 (f := 1) (by decide) (ci := 2) rfl 2 rfl rfl 14 rfl ?_
  refine G_acopy C dX2_copyFrom_14 wm_X2_23 3 1 rfl rfl (by omega) (by omega) (by omega) (cpN_cpy _ _ _) rfl (Nat.le_of_ble_eq_true rfl) [(o, .inr (2, [.ref a, .int (nI n)])), (a, .inl (E.2.1, 14, .inl (aN (cpN Cd2 Cd n2)))), (o2, .inr (2, [.ref a2, .int (nI n2)])), (a2, .inl (E.2.1, 14, .inl (aN Cd2)))] rfl 17 rfl ?_
  refine G_aload_n C dX2_copyFrom_17 rfl 18 rfl ?_
  refine G_aload_n C dX2_copyFrom_18 rfl 19 rfl ?_
  refine G_getf C dX2_copyFrom_19 wF_X2 wf_X2_15 (f := 1) (by decide) (ci := 2) rfl 2 rfl rfl 22 rfl ?_
  refine G_putf C dX2_copyFrom_22 wF_X2 wf_X2_15 (f := 1) (by decide) (ci := 2) rfl tyX2_ok nmX2 rfl 0 rfl rfl rfl (Nat.le_of_ble_eq_true rfl) [(o, .inr (2, [.ref a, .int (nI n2)])), (a, .inl (E.2.1, 14, .inl (aN (cpN Cd2 Cd n2)))), (o2, .inr (2, [.ref a2, .int (nI n2)])), (a2, .inl (E.2.1, 14, .inl (aN Cd2)))] rfl 25 rfl ?_
  exact G_vret C hr dX2_copyFrom_25 () trivial rfl rfl

set_option maxHeartbeats 4000000 in
set_option maxRecDepth 100000 in
theorem c_X2_lengthAt (l : Launch) (E : gE) (o a n : Nat) (Cd : Nat → Nat) (i v : Nat) (hi : i < 14) (hc : Cd i = ce v) (hv : v < 400) : FD l E yX2_lengthAt cX2_lengthAt 2 (some .int) { frames := 1, cells := 0, slots := 0, locals := 21 } [.ref o, .int (nI i)] [(o, .inr (2, [.ref a, .int (nI n)])), (a, .inl (E.2.1, 14, .inl (aN Cd)))] (some (.int (nI (ll v)))) [(o, .inr (2, [.ref a, .int (nI n)])), (a, .inl (E.2.1, 14, .inl (aN Cd)))] := by
  refine Fn_ofL (own := RX2) (by decide) rfl rfl [(0, .ref o), (1, .int (nI i))] rfl ?_
  intro p e s m below meth c A C hr hnm
  refine G_aload_n C dX2_lengthAt_0 rfl 1 rfl ?_
  refine G_iload_n C dX2_lengthAt_1 rfl 2 rfl ?_
  refine G_cV C dX2_lengthAt_2 (c_X2_sortAt l E o a n Cd i v (by first | assumption | omega) (by first | assumption | omega) (by first | assumption | omega)) wm_X2_37 wi_X2_sortAt wsel_X2_sortAt wn_X2 wc_X2_sortAt rfl rfl ⟨by decide, by decide, rfl⟩ rfl (Nat.le_of_ble_eq_true rfl) 2 rfl rfl 0 rfl [0, 1] [] (wr := []) rfl rfl rfl rfl rfl [0, 1] rfl [(o, .inr (2, [.ref a, .int (nI n)])), (a, .inl (E.2.1, 14, .inl (aN Cd)))] rfl rfl [.int (nI (v / 100))] rfl 5 rfl ?_
  refine G_iconst C dX2_lengthAt_5 (v := nI 1) rfl 6 rfl ?_
  refine G_icmp_ne C dX2_lengthAt_6 13 rfl 9 rfl (nI_eq (by omega) (by omega)) (fun h_1 => ?_) (fun h_1 => ?_)
  · refine G_iconst C dX2_lengthAt_13 (v := nI 5) rfl 14 rfl ?_
    exact G_iret C hr dX2_lengthAt_14 rfl () trivial (by simp [ll, h_1]) rfl
  · refine G_iconst C dX2_lengthAt_9 (v := nI 4) rfl 10 rfl ?_
    refine G_goto C dX2_lengthAt_10 14 rfl ?_
    exact G_iret C hr dX2_lengthAt_14 rfl () trivial (by simp [ll, h_1]) rfl

set_option maxHeartbeats 4000000 in
set_option maxRecDepth 100000 in
theorem c_X2_writtenLength (l : Launch) (E : gE) (o a n : Nat) (Cd : Nat → Nat) (ln : Nat → Nat) (hok : lok n ln Cd) : FD l E yX2_writtenLength cX2_writtenLength 3 (some .int) { frames := 2, cells := 0, slots := 0, locals := 42 } [.ref o] [(o, .inr (2, [.ref a, .int (nI n)])), (a, .inl (E.2.1, 14, .inl (aN Cd)))] (some (.int (nI (wlen ln n)))) [(o, .inr (2, [.ref a, .int (nI n)])), (a, .inl (E.2.1, 14, .inl (aN Cd)))] := by
  refine Fn_ofL (own := RX2) (by decide) rfl rfl [(0, .ref o)] rfl ?_
  intro p e s m below meth c A C hr hnm
  have h14 : n ≤ 14 := hok.n
  refine G_iconst C dX2_writtenLength_0 (v := nI 0) rfl 1 rfl ?_
  refine G_istore_n C dX2_writtenLength_1 (by decide) [(1, .int (nI 0)), (0, .ref o)] rfl 2 rfl ?_
  refine G_iconst C dX2_writtenLength_2 (v := nI 0) rfl 3 rfl ?_
  refine G_istore_n C dX2_writtenLength_3 (by decide) [(2, .int (nI 0)), (1, .int (nI 0)), (0, .ref o)] rfl 4 rfl ?_
  refine G_sel [1, 0, 2] [(1, .int (nI 0)), (2, .int (nI 0)), (0, .ref o)] rfl ?_
  refine G_while (X := Nat) (Wf := fun i => [(o, .inr (2, [.ref a, .int (nI n)])), (a, .inl (E.2.1, 14, .inl (aN Cd)))]) (Lf := fun i => [(1, .int (nI (wlen ln i))), (2, .int (nI i)), (0, .ref o)]) (Sf := fun _ => []) (fun i => i ≤ n) (fun i => n - i) (fun i hi ih => ?_) 0 (by omega)
  refine G_iload_n C dX2_writtenLength_4 rfl 5 rfl ?_
  refine G_aload_n C dX2_writtenLength_5 rfl 6 rfl ?_
  refine G_getf C dX2_writtenLength_6 wF_X2 wf_X2_15 (f := 1) (by decide) (ci := 2) rfl 0 rfl rfl 9 rfl ?_
  refine G_icmp_ge C dX2_writtenLength_9 26 rfl 12 rfl (nI_leI (by omega) (by omega)) (fun h_1 => ?_) (fun h_1 => ?_)
  · refine G_iload_n C dX2_writtenLength_26 rfl 27 rfl ?_
    exact G_iret C hr dX2_writtenLength_27 rfl () trivial (by rw [show i = n by omega]) rfl
  · refine G_iload_n C dX2_writtenLength_12 rfl 13 rfl ?_
    refine G_aload_n C dX2_writtenLength_13 rfl 14 rfl ?_
    refine G_iload_n C dX2_writtenLength_14 rfl 15 rfl ?_
    refine G_cV C dX2_writtenLength_15 (c_X2_lengthAt l E o a n Cd i (ln i) (by omega) (hok.c (by omega)) (hok.v (by omega))) wm_X2_29 wi_X2_lengthAt wsel_X2_lengthAt wn_X2 wc_X2_lengthAt rfl rfl ⟨by decide, by decide, rfl⟩ rfl (Nat.le_of_ble_eq_true rfl) 2 rfl rfl 0 rfl [0, 1] [] (wr := []) rfl rfl rfl rfl rfl [0, 1] rfl [(o, .inr (2, [.ref a, .int (nI n)])), (a, .inl (E.2.1, 14, .inl (aN Cd)))] rfl rfl [.int (nI (ll (ln i))), .int (nI (wlen ln i))] rfl 18 rfl ?_
    refine G_iadd C dX2_writtenLength_18 (v := nI (wlen ln i + (ll (ln i)))) (nI_add _ _) 19 rfl ?_
    refine G_istore_n C dX2_writtenLength_19 (by decide) [(1, .int (nI (wlen ln i + (ll (ln i))))), (2, .int (nI i)), (0, .ref o)] rfl 20 rfl ?_
    refine G_iinc C dX2_writtenLength_20 1 rfl (nI_1 _) (by decide) [(2, .int (nI (i + 1))), (1, .int (nI (wlen ln i + (ll (ln i))))), (0, .ref o)] rfl 23 rfl ?_
    refine G_goto C dX2_writtenLength_23 4 rfl ?_
    refine G_sel [1, 0, 2] [(1, .int (nI (wlen ln i + (ll (ln i))))), (2, .int (nI (i + 1))), (0, .ref o)] rfl ?_
    exact ih (i + 1) (by omega) (by omega)

set_option maxHeartbeats 4000000 in
set_option maxRecDepth 100000 in
theorem c_X2_byteAt (l : Launch) (E : gE) (o a n : Nat) (Cd : Nat → Nat) (i v k : Nat) (hi : i < 14) (hc : Cd i = ce v) (hv : v < 400) (hk : k < ll v) : FD l E yX2_byteAt cX2_byteAt 5 (some .int) { frames := 1, cells := 0, slots := 0, locals := 21 } [.ref o, .int (nI i), .int (nI k)] [(o, .inr (2, [.ref a, .int (nI n)])), (a, .inl (E.2.1, 14, .inl (aN Cd)))] (some (.int (nI (lb v k)))) [(o, .inr (2, [.ref a, .int (nI n)])), (a, .inl (E.2.1, 14, .inl (aN Cd)))] := by
  refine Fn_ofL (own := RX2) (by decide) rfl rfl [(0, .ref o), (1, .int (nI i)), (2, .int (nI k))] rfl ?_
  intro p e s m below meth c A C hr hnm
  rcases (show v / 100 = 0 ∨ v / 100 = 1 ∨ v / 100 = 2 ∨ v / 100 = 3 by omega) with hs | hs | hs | hs
  · have hk2 : k < 5 := by simp only [ll, hs] at hk; simpa using hk
    rcases (show k = 0 ∨ k = 1 ∨ k = 2 ∨ k = 3 ∨ k = 4 by omega) with rfl | rfl | rfl | rfl | rfl
    · refine G_aload_n C dX2_byteAt_0 rfl 1 rfl ?_
      refine G_iload_n C dX2_byteAt_1 rfl 2 rfl ?_
      refine G_cV C dX2_byteAt_2 (c_X2_sortAt l E o a n Cd i v (by first | assumption | omega) (by first | assumption | omega) (by first | assumption | omega)) wm_X2_37 wi_X2_sortAt wsel_X2_sortAt wn_X2 wc_X2_sortAt rfl rfl ⟨by decide, by decide, rfl⟩ rfl (Nat.le_of_ble_eq_true rfl) 2 rfl rfl 0 rfl [0, 1] [] (wr := []) rfl rfl rfl rfl rfl [0, 1] rfl [(o, .inr (2, [.ref a, .int (nI n)])), (a, .inl (E.2.1, 14, .inl (aN Cd)))] rfl rfl [.int (nI (v / 100))] rfl 5 rfl ?_
      refine G_top (v' := .int (nI 0)) (by rw [hs]) ?_
      refine G_istore_n C dX2_byteAt_5 (by decide) [(3, .int (nI 0)), (0, .ref o), (1, .int (nI i)), (2, .int (nI 0))] rfl 6 rfl ?_
      refine G_iload_n C dX2_byteAt_6 rfl 7 rfl ?_
      refine G_iconst C dX2_byteAt_7 (v := nI 3) rfl 8 rfl ?_
      refine G_icmp_ne_t C dX2_byteAt_8 17 rfl (by decide) ?_
      refine G_iload_n C dX2_byteAt_17 rfl 18 rfl ?_
      refine G_istore C dX2_byteAt_18 (by decide) [(4, .int (nI 0)), (3, .int (nI 0)), (0, .ref o), (1, .int (nI i)), (2, .int (nI 0))] rfl 20 rfl ?_
      refine G_iload C dX2_byteAt_20 rfl 22 rfl ?_
      refine G_iconst C dX2_byteAt_22 (v := nI 2) rfl 23 rfl ?_
      refine G_icmp_lt_t C dX2_byteAt_23 39 rfl (by decide) ?_
      refine G_iload C dX2_byteAt_39 rfl 41 rfl ?_
      refine G_tabIn C dX2_byteAt_41 (38) (by decide) (by decide) rfl 79 rfl ?_
      refine G_bipush C dX2_byteAt_79 (v := nI 97) (by decide) 81 rfl ?_
      refine G_aload_n C dX2_byteAt_81 rfl 82 rfl ?_
      refine G_iload_n C dX2_byteAt_82 rfl 83 rfl ?_
      refine G_cV C dX2_byteAt_83 (c_X2_leftAt l E o a n Cd i v (by first | assumption | omega) (by first | assumption | omega) (by first | assumption | omega)) wm_X2_40 wi_X2_leftAt wsel_X2_leftAt wn_X2 wc_X2_leftAt rfl rfl ⟨by decide, by decide, rfl⟩ rfl (Nat.le_of_ble_eq_true rfl) 2 rfl rfl 0 rfl [0, 1] [] (wr := []) rfl rfl rfl rfl rfl [0, 1] rfl [(o, .inr (2, [.ref a, .int (nI n)])), (a, .inl (E.2.1, 14, .inl (aN Cd)))] rfl rfl [.int (nI (v / 10 % 10)), .int (nI 97)] rfl 86 rfl ?_
      refine G_iadd C dX2_byteAt_86 (v := nI (97 + (v / 10 % 10))) (nI_add _ _) 87 rfl ?_
      exact G_iret C hr dX2_byteAt_87 rfl () trivial (by simp [lb, hs]) rfl
    · refine G_aload_n C dX2_byteAt_0 rfl 1 rfl ?_
      refine G_iload_n C dX2_byteAt_1 rfl 2 rfl ?_
      refine G_cV C dX2_byteAt_2 (c_X2_sortAt l E o a n Cd i v (by first | assumption | omega) (by first | assumption | omega) (by first | assumption | omega)) wm_X2_37 wi_X2_sortAt wsel_X2_sortAt wn_X2 wc_X2_sortAt rfl rfl ⟨by decide, by decide, rfl⟩ rfl (Nat.le_of_ble_eq_true rfl) 2 rfl rfl 0 rfl [0, 1] [] (wr := []) rfl rfl rfl rfl rfl [0, 1] rfl [(o, .inr (2, [.ref a, .int (nI n)])), (a, .inl (E.2.1, 14, .inl (aN Cd)))] rfl rfl [.int (nI (v / 100))] rfl 5 rfl ?_
      refine G_top (v' := .int (nI 0)) (by rw [hs]) ?_
      refine G_istore_n C dX2_byteAt_5 (by decide) [(3, .int (nI 0)), (0, .ref o), (1, .int (nI i)), (2, .int (nI 1))] rfl 6 rfl ?_
      refine G_iload_n C dX2_byteAt_6 rfl 7 rfl ?_
      refine G_iconst C dX2_byteAt_7 (v := nI 3) rfl 8 rfl ?_
      refine G_icmp_ne_t C dX2_byteAt_8 17 rfl (by decide) ?_
      refine G_iload_n C dX2_byteAt_17 rfl 18 rfl ?_
      refine G_istore C dX2_byteAt_18 (by decide) [(4, .int (nI 1)), (3, .int (nI 0)), (0, .ref o), (1, .int (nI i)), (2, .int (nI 1))] rfl 20 rfl ?_
      refine G_iload C dX2_byteAt_20 rfl 22 rfl ?_
      refine G_iconst C dX2_byteAt_22 (v := nI 2) rfl 23 rfl ?_
      refine G_icmp_lt_t C dX2_byteAt_23 39 rfl (by decide) ?_
      refine G_iload C dX2_byteAt_39 rfl 41 rfl ?_
      refine G_tabIn C dX2_byteAt_41 (47) (by decide) (by decide) rfl 88 rfl ?_
      refine G_bipush C dX2_byteAt_88 (v := nI 61) (by decide) 90 rfl ?_
      exact G_iret C hr dX2_byteAt_90 rfl () trivial (by simp [lb, hs]) rfl
    · refine G_aload_n C dX2_byteAt_0 rfl 1 rfl ?_
      refine G_iload_n C dX2_byteAt_1 rfl 2 rfl ?_
      refine G_cV C dX2_byteAt_2 (c_X2_sortAt l E o a n Cd i v (by first | assumption | omega) (by first | assumption | omega) (by first | assumption | omega)) wm_X2_37 wi_X2_sortAt wsel_X2_sortAt wn_X2 wc_X2_sortAt rfl rfl ⟨by decide, by decide, rfl⟩ rfl (Nat.le_of_ble_eq_true rfl) 2 rfl rfl 0 rfl [0, 1] [] (wr := []) rfl rfl rfl rfl rfl [0, 1] rfl [(o, .inr (2, [.ref a, .int (nI n)])), (a, .inl (E.2.1, 14, .inl (aN Cd)))] rfl rfl [.int (nI (v / 100))] rfl 5 rfl ?_
      refine G_top (v' := .int (nI 0)) (by rw [hs]) ?_
      refine G_istore_n C dX2_byteAt_5 (by decide) [(3, .int (nI 0)), (0, .ref o), (1, .int (nI i)), (2, .int (nI 2))] rfl 6 rfl ?_
      refine G_iload_n C dX2_byteAt_6 rfl 7 rfl ?_
      refine G_iconst C dX2_byteAt_7 (v := nI 3) rfl 8 rfl ?_
      refine G_icmp_ne_t C dX2_byteAt_8 17 rfl (by decide) ?_
      refine G_iload_n C dX2_byteAt_17 rfl 18 rfl ?_
      refine G_istore C dX2_byteAt_18 (by decide) [(4, .int (nI 2)), (3, .int (nI 0)), (0, .ref o), (1, .int (nI i)), (2, .int (nI 2))] rfl 20 rfl ?_
      refine G_iload C dX2_byteAt_20 rfl 22 rfl ?_
      refine G_iconst C dX2_byteAt_22 (v := nI 2) rfl 23 rfl ?_
      refine G_icmp_lt_f C dX2_byteAt_23 39 rfl 26 rfl (by decide) ?_
      refine G_iload_n C dX2_byteAt_26 rfl 27 rfl ?_
      refine G_iconst C dX2_byteAt_27 (v := nI 1) rfl 28 rfl ?_
      refine G_icmp_eq_f C dX2_byteAt_28 36 rfl 31 rfl (by decide) ?_
      refine G_iload_n C dX2_byteAt_31 rfl 32 rfl ?_
      refine G_iconst C dX2_byteAt_32 (v := nI 3) rfl 33 rfl ?_
      refine G_icmp_ne_t C dX2_byteAt_33 39 rfl (by decide) ?_
      refine G_iload C dX2_byteAt_39 rfl 41 rfl ?_
      refine G_tabIn C dX2_byteAt_41 (50) (by decide) (by decide) rfl 91 rfl ?_
      refine G_iload_n C dX2_byteAt_91 rfl 92 rfl ?_
      refine G_if_ne_f C dX2_byteAt_92 100 rfl 95 rfl (by decide) ?_
      refine G_bipush C dX2_byteAt_95 (v := nI 38) (by decide) 97 rfl ?_
      refine G_goto C dX2_byteAt_97 102 rfl ?_
      exact G_iret C hr dX2_byteAt_102 rfl () trivial (by simp [lb, hs]) rfl
    · refine G_aload_n C dX2_byteAt_0 rfl 1 rfl ?_
      refine G_iload_n C dX2_byteAt_1 rfl 2 rfl ?_
      refine G_cV C dX2_byteAt_2 (c_X2_sortAt l E o a n Cd i v (by first | assumption | omega) (by first | assumption | omega) (by first | assumption | omega)) wm_X2_37 wi_X2_sortAt wsel_X2_sortAt wn_X2 wc_X2_sortAt rfl rfl ⟨by decide, by decide, rfl⟩ rfl (Nat.le_of_ble_eq_true rfl) 2 rfl rfl 0 rfl [0, 1] [] (wr := []) rfl rfl rfl rfl rfl [0, 1] rfl [(o, .inr (2, [.ref a, .int (nI n)])), (a, .inl (E.2.1, 14, .inl (aN Cd)))] rfl rfl [.int (nI (v / 100))] rfl 5 rfl ?_
      refine G_top (v' := .int (nI 0)) (by rw [hs]) ?_
      refine G_istore_n C dX2_byteAt_5 (by decide) [(3, .int (nI 0)), (0, .ref o), (1, .int (nI i)), (2, .int (nI 3))] rfl 6 rfl ?_
      refine G_iload_n C dX2_byteAt_6 rfl 7 rfl ?_
      refine G_iconst C dX2_byteAt_7 (v := nI 3) rfl 8 rfl ?_
      refine G_icmp_ne_t C dX2_byteAt_8 17 rfl (by decide) ?_
      refine G_iload_n C dX2_byteAt_17 rfl 18 rfl ?_
      refine G_istore C dX2_byteAt_18 (by decide) [(4, .int (nI 3)), (3, .int (nI 0)), (0, .ref o), (1, .int (nI i)), (2, .int (nI 3))] rfl 20 rfl ?_
      refine G_iload C dX2_byteAt_20 rfl 22 rfl ?_
      refine G_iconst C dX2_byteAt_22 (v := nI 2) rfl 23 rfl ?_
      refine G_icmp_lt_f C dX2_byteAt_23 39 rfl 26 rfl (by decide) ?_
      refine G_iload_n C dX2_byteAt_26 rfl 27 rfl ?_
      refine G_iconst C dX2_byteAt_27 (v := nI 1) rfl 28 rfl ?_
      refine G_icmp_eq_f C dX2_byteAt_28 36 rfl 31 rfl (by decide) ?_
      refine G_iload_n C dX2_byteAt_31 rfl 32 rfl ?_
      refine G_iconst C dX2_byteAt_32 (v := nI 3) rfl 33 rfl ?_
      refine G_icmp_ne_t C dX2_byteAt_33 39 rfl (by decide) ?_
      refine G_iload C dX2_byteAt_39 rfl 41 rfl ?_
      refine G_tabIn C dX2_byteAt_41 (62) (by decide) (by decide) rfl 103 rfl ?_
      refine G_bipush C dX2_byteAt_103 (v := nI 97) (by decide) 105 rfl ?_
      refine G_aload_n C dX2_byteAt_105 rfl 106 rfl ?_
      refine G_iload_n C dX2_byteAt_106 rfl 107 rfl ?_
      refine G_cV C dX2_byteAt_107 (c_X2_rightAt l E o a n Cd i v (by first | assumption | omega) (by first | assumption | omega) (by first | assumption | omega)) wm_X2_43 wi_X2_rightAt wsel_X2_rightAt wn_X2 wc_X2_rightAt rfl rfl ⟨by decide, by decide, rfl⟩ rfl (Nat.le_of_ble_eq_true rfl) 2 rfl rfl 0 rfl [0, 1] [] (wr := []) rfl rfl rfl rfl rfl [0, 1] rfl [(o, .inr (2, [.ref a, .int (nI n)])), (a, .inl (E.2.1, 14, .inl (aN Cd)))] rfl rfl [.int (nI (v % 10)), .int (nI 97)] rfl 110 rfl ?_
      refine G_iadd C dX2_byteAt_110 (v := nI (97 + (v % 10))) (nI_add _ _) 111 rfl ?_
      exact G_iret C hr dX2_byteAt_111 rfl () trivial (by simp [lb, hs]) rfl
    · refine G_aload_n C dX2_byteAt_0 rfl 1 rfl ?_
      refine G_iload_n C dX2_byteAt_1 rfl 2 rfl ?_
      refine G_cV C dX2_byteAt_2 (c_X2_sortAt l E o a n Cd i v (by first | assumption | omega) (by first | assumption | omega) (by first | assumption | omega)) wm_X2_37 wi_X2_sortAt wsel_X2_sortAt wn_X2 wc_X2_sortAt rfl rfl ⟨by decide, by decide, rfl⟩ rfl (Nat.le_of_ble_eq_true rfl) 2 rfl rfl 0 rfl [0, 1] [] (wr := []) rfl rfl rfl rfl rfl [0, 1] rfl [(o, .inr (2, [.ref a, .int (nI n)])), (a, .inl (E.2.1, 14, .inl (aN Cd)))] rfl rfl [.int (nI (v / 100))] rfl 5 rfl ?_
      refine G_top (v' := .int (nI 0)) (by rw [hs]) ?_
      refine G_istore_n C dX2_byteAt_5 (by decide) [(3, .int (nI 0)), (0, .ref o), (1, .int (nI i)), (2, .int (nI 4))] rfl 6 rfl ?_
      refine G_iload_n C dX2_byteAt_6 rfl 7 rfl ?_
      refine G_iconst C dX2_byteAt_7 (v := nI 3) rfl 8 rfl ?_
      refine G_icmp_ne_t C dX2_byteAt_8 17 rfl (by decide) ?_
      refine G_iload_n C dX2_byteAt_17 rfl 18 rfl ?_
      refine G_istore C dX2_byteAt_18 (by decide) [(4, .int (nI 4)), (3, .int (nI 0)), (0, .ref o), (1, .int (nI i)), (2, .int (nI 4))] rfl 20 rfl ?_
      refine G_iload C dX2_byteAt_20 rfl 22 rfl ?_
      refine G_iconst C dX2_byteAt_22 (v := nI 2) rfl 23 rfl ?_
      refine G_icmp_lt_f C dX2_byteAt_23 39 rfl 26 rfl (by decide) ?_
      refine G_iload_n C dX2_byteAt_26 rfl 27 rfl ?_
      refine G_iconst C dX2_byteAt_27 (v := nI 1) rfl 28 rfl ?_
      refine G_icmp_eq_f C dX2_byteAt_28 36 rfl 31 rfl (by decide) ?_
      refine G_iload_n C dX2_byteAt_31 rfl 32 rfl ?_
      refine G_iconst C dX2_byteAt_32 (v := nI 3) rfl 33 rfl ?_
      refine G_icmp_ne_t C dX2_byteAt_33 39 rfl (by decide) ?_
      refine G_iload C dX2_byteAt_39 rfl 41 rfl ?_
      refine G_tabOut C dX2_byteAt_41 (by decide) 112 rfl ?_
      refine G_bipush C dX2_byteAt_112 (v := nI 59) (by decide) 114 rfl ?_
      exact G_iret C hr dX2_byteAt_114 rfl () trivial (by simp [lb, hs]) rfl
  · have hk2 : k < 4 := by simp only [ll, hs] at hk; simpa using hk
    rcases (show k = 0 ∨ k = 1 ∨ k = 2 ∨ k = 3 by omega) with rfl | rfl | rfl | rfl
    · refine G_aload_n C dX2_byteAt_0 rfl 1 rfl ?_
      refine G_iload_n C dX2_byteAt_1 rfl 2 rfl ?_
      refine G_cV C dX2_byteAt_2 (c_X2_sortAt l E o a n Cd i v (by first | assumption | omega) (by first | assumption | omega) (by first | assumption | omega)) wm_X2_37 wi_X2_sortAt wsel_X2_sortAt wn_X2 wc_X2_sortAt rfl rfl ⟨by decide, by decide, rfl⟩ rfl (Nat.le_of_ble_eq_true rfl) 2 rfl rfl 0 rfl [0, 1] [] (wr := []) rfl rfl rfl rfl rfl [0, 1] rfl [(o, .inr (2, [.ref a, .int (nI n)])), (a, .inl (E.2.1, 14, .inl (aN Cd)))] rfl rfl [.int (nI (v / 100))] rfl 5 rfl ?_
      refine G_top (v' := .int (nI 1)) (by rw [hs]) ?_
      refine G_istore_n C dX2_byteAt_5 (by decide) [(3, .int (nI 1)), (0, .ref o), (1, .int (nI i)), (2, .int (nI 0))] rfl 6 rfl ?_
      refine G_iload_n C dX2_byteAt_6 rfl 7 rfl ?_
      refine G_iconst C dX2_byteAt_7 (v := nI 3) rfl 8 rfl ?_
      refine G_icmp_ne_t C dX2_byteAt_8 17 rfl (by decide) ?_
      refine G_iload_n C dX2_byteAt_17 rfl 18 rfl ?_
      refine G_istore C dX2_byteAt_18 (by decide) [(4, .int (nI 0)), (3, .int (nI 1)), (0, .ref o), (1, .int (nI i)), (2, .int (nI 0))] rfl 20 rfl ?_
      refine G_iload C dX2_byteAt_20 rfl 22 rfl ?_
      refine G_iconst C dX2_byteAt_22 (v := nI 2) rfl 23 rfl ?_
      refine G_icmp_lt_t C dX2_byteAt_23 39 rfl (by decide) ?_
      refine G_iload C dX2_byteAt_39 rfl 41 rfl ?_
      refine G_tabIn C dX2_byteAt_41 (38) (by decide) (by decide) rfl 79 rfl ?_
      refine G_bipush C dX2_byteAt_79 (v := nI 97) (by decide) 81 rfl ?_
      refine G_aload_n C dX2_byteAt_81 rfl 82 rfl ?_
      refine G_iload_n C dX2_byteAt_82 rfl 83 rfl ?_
      refine G_cV C dX2_byteAt_83 (c_X2_leftAt l E o a n Cd i v (by first | assumption | omega) (by first | assumption | omega) (by first | assumption | omega)) wm_X2_40 wi_X2_leftAt wsel_X2_leftAt wn_X2 wc_X2_leftAt rfl rfl ⟨by decide, by decide, rfl⟩ rfl (Nat.le_of_ble_eq_true rfl) 2 rfl rfl 0 rfl [0, 1] [] (wr := []) rfl rfl rfl rfl rfl [0, 1] rfl [(o, .inr (2, [.ref a, .int (nI n)])), (a, .inl (E.2.1, 14, .inl (aN Cd)))] rfl rfl [.int (nI (v / 10 % 10)), .int (nI 97)] rfl 86 rfl ?_
      refine G_iadd C dX2_byteAt_86 (v := nI (97 + (v / 10 % 10))) (nI_add _ _) 87 rfl ?_
      exact G_iret C hr dX2_byteAt_87 rfl () trivial (by simp [lb, hs]) rfl
    · refine G_aload_n C dX2_byteAt_0 rfl 1 rfl ?_
      refine G_iload_n C dX2_byteAt_1 rfl 2 rfl ?_
      refine G_cV C dX2_byteAt_2 (c_X2_sortAt l E o a n Cd i v (by first | assumption | omega) (by first | assumption | omega) (by first | assumption | omega)) wm_X2_37 wi_X2_sortAt wsel_X2_sortAt wn_X2 wc_X2_sortAt rfl rfl ⟨by decide, by decide, rfl⟩ rfl (Nat.le_of_ble_eq_true rfl) 2 rfl rfl 0 rfl [0, 1] [] (wr := []) rfl rfl rfl rfl rfl [0, 1] rfl [(o, .inr (2, [.ref a, .int (nI n)])), (a, .inl (E.2.1, 14, .inl (aN Cd)))] rfl rfl [.int (nI (v / 100))] rfl 5 rfl ?_
      refine G_top (v' := .int (nI 1)) (by rw [hs]) ?_
      refine G_istore_n C dX2_byteAt_5 (by decide) [(3, .int (nI 1)), (0, .ref o), (1, .int (nI i)), (2, .int (nI 1))] rfl 6 rfl ?_
      refine G_iload_n C dX2_byteAt_6 rfl 7 rfl ?_
      refine G_iconst C dX2_byteAt_7 (v := nI 3) rfl 8 rfl ?_
      refine G_icmp_ne_t C dX2_byteAt_8 17 rfl (by decide) ?_
      refine G_iload_n C dX2_byteAt_17 rfl 18 rfl ?_
      refine G_istore C dX2_byteAt_18 (by decide) [(4, .int (nI 1)), (3, .int (nI 1)), (0, .ref o), (1, .int (nI i)), (2, .int (nI 1))] rfl 20 rfl ?_
      refine G_iload C dX2_byteAt_20 rfl 22 rfl ?_
      refine G_iconst C dX2_byteAt_22 (v := nI 2) rfl 23 rfl ?_
      refine G_icmp_lt_t C dX2_byteAt_23 39 rfl (by decide) ?_
      refine G_iload C dX2_byteAt_39 rfl 41 rfl ?_
      refine G_tabIn C dX2_byteAt_41 (47) (by decide) (by decide) rfl 88 rfl ?_
      refine G_bipush C dX2_byteAt_88 (v := nI 61) (by decide) 90 rfl ?_
      exact G_iret C hr dX2_byteAt_90 rfl () trivial (by simp [lb, hs]) rfl
    · refine G_aload_n C dX2_byteAt_0 rfl 1 rfl ?_
      refine G_iload_n C dX2_byteAt_1 rfl 2 rfl ?_
      refine G_cV C dX2_byteAt_2 (c_X2_sortAt l E o a n Cd i v (by first | assumption | omega) (by first | assumption | omega) (by first | assumption | omega)) wm_X2_37 wi_X2_sortAt wsel_X2_sortAt wn_X2 wc_X2_sortAt rfl rfl ⟨by decide, by decide, rfl⟩ rfl (Nat.le_of_ble_eq_true rfl) 2 rfl rfl 0 rfl [0, 1] [] (wr := []) rfl rfl rfl rfl rfl [0, 1] rfl [(o, .inr (2, [.ref a, .int (nI n)])), (a, .inl (E.2.1, 14, .inl (aN Cd)))] rfl rfl [.int (nI (v / 100))] rfl 5 rfl ?_
      refine G_top (v' := .int (nI 1)) (by rw [hs]) ?_
      refine G_istore_n C dX2_byteAt_5 (by decide) [(3, .int (nI 1)), (0, .ref o), (1, .int (nI i)), (2, .int (nI 2))] rfl 6 rfl ?_
      refine G_iload_n C dX2_byteAt_6 rfl 7 rfl ?_
      refine G_iconst C dX2_byteAt_7 (v := nI 3) rfl 8 rfl ?_
      refine G_icmp_ne_t C dX2_byteAt_8 17 rfl (by decide) ?_
      refine G_iload_n C dX2_byteAt_17 rfl 18 rfl ?_
      refine G_istore C dX2_byteAt_18 (by decide) [(4, .int (nI 2)), (3, .int (nI 1)), (0, .ref o), (1, .int (nI i)), (2, .int (nI 2))] rfl 20 rfl ?_
      refine G_iload C dX2_byteAt_20 rfl 22 rfl ?_
      refine G_iconst C dX2_byteAt_22 (v := nI 2) rfl 23 rfl ?_
      refine G_icmp_lt_f C dX2_byteAt_23 39 rfl 26 rfl (by decide) ?_
      refine G_iload_n C dX2_byteAt_26 rfl 27 rfl ?_
      refine G_iconst C dX2_byteAt_27 (v := nI 1) rfl 28 rfl ?_
      refine G_icmp_eq_t C dX2_byteAt_28 36 rfl (by decide) ?_
      refine G_iinc C dX2_byteAt_36 0 rfl (by decide) (by decide) [(4, .int (nI 3)), (3, .int (nI 1)), (0, .ref o), (1, .int (nI i)), (2, .int (nI 2))] rfl 39 rfl ?_
      refine G_iload C dX2_byteAt_39 rfl 41 rfl ?_
      refine G_tabIn C dX2_byteAt_41 (62) (by decide) (by decide) rfl 103 rfl ?_
      refine G_bipush C dX2_byteAt_103 (v := nI 97) (by decide) 105 rfl ?_
      refine G_aload_n C dX2_byteAt_105 rfl 106 rfl ?_
      refine G_iload_n C dX2_byteAt_106 rfl 107 rfl ?_
      refine G_cV C dX2_byteAt_107 (c_X2_rightAt l E o a n Cd i v (by first | assumption | omega) (by first | assumption | omega) (by first | assumption | omega)) wm_X2_43 wi_X2_rightAt wsel_X2_rightAt wn_X2 wc_X2_rightAt rfl rfl ⟨by decide, by decide, rfl⟩ rfl (Nat.le_of_ble_eq_true rfl) 2 rfl rfl 0 rfl [0, 1] [] (wr := []) rfl rfl rfl rfl rfl [0, 1] rfl [(o, .inr (2, [.ref a, .int (nI n)])), (a, .inl (E.2.1, 14, .inl (aN Cd)))] rfl rfl [.int (nI (v % 10)), .int (nI 97)] rfl 110 rfl ?_
      refine G_iadd C dX2_byteAt_110 (v := nI (97 + (v % 10))) (nI_add _ _) 111 rfl ?_
      exact G_iret C hr dX2_byteAt_111 rfl () trivial (by simp [lb, hs]) rfl
    · refine G_aload_n C dX2_byteAt_0 rfl 1 rfl ?_
      refine G_iload_n C dX2_byteAt_1 rfl 2 rfl ?_
      refine G_cV C dX2_byteAt_2 (c_X2_sortAt l E o a n Cd i v (by first | assumption | omega) (by first | assumption | omega) (by first | assumption | omega)) wm_X2_37 wi_X2_sortAt wsel_X2_sortAt wn_X2 wc_X2_sortAt rfl rfl ⟨by decide, by decide, rfl⟩ rfl (Nat.le_of_ble_eq_true rfl) 2 rfl rfl 0 rfl [0, 1] [] (wr := []) rfl rfl rfl rfl rfl [0, 1] rfl [(o, .inr (2, [.ref a, .int (nI n)])), (a, .inl (E.2.1, 14, .inl (aN Cd)))] rfl rfl [.int (nI (v / 100))] rfl 5 rfl ?_
      refine G_top (v' := .int (nI 1)) (by rw [hs]) ?_
      refine G_istore_n C dX2_byteAt_5 (by decide) [(3, .int (nI 1)), (0, .ref o), (1, .int (nI i)), (2, .int (nI 3))] rfl 6 rfl ?_
      refine G_iload_n C dX2_byteAt_6 rfl 7 rfl ?_
      refine G_iconst C dX2_byteAt_7 (v := nI 3) rfl 8 rfl ?_
      refine G_icmp_ne_t C dX2_byteAt_8 17 rfl (by decide) ?_
      refine G_iload_n C dX2_byteAt_17 rfl 18 rfl ?_
      refine G_istore C dX2_byteAt_18 (by decide) [(4, .int (nI 3)), (3, .int (nI 1)), (0, .ref o), (1, .int (nI i)), (2, .int (nI 3))] rfl 20 rfl ?_
      refine G_iload C dX2_byteAt_20 rfl 22 rfl ?_
      refine G_iconst C dX2_byteAt_22 (v := nI 2) rfl 23 rfl ?_
      refine G_icmp_lt_f C dX2_byteAt_23 39 rfl 26 rfl (by decide) ?_
      refine G_iload_n C dX2_byteAt_26 rfl 27 rfl ?_
      refine G_iconst C dX2_byteAt_27 (v := nI 1) rfl 28 rfl ?_
      refine G_icmp_eq_t C dX2_byteAt_28 36 rfl (by decide) ?_
      refine G_iinc C dX2_byteAt_36 0 rfl (by decide) (by decide) [(4, .int (nI 4)), (3, .int (nI 1)), (0, .ref o), (1, .int (nI i)), (2, .int (nI 3))] rfl 39 rfl ?_
      refine G_iload C dX2_byteAt_39 rfl 41 rfl ?_
      refine G_tabOut C dX2_byteAt_41 (by decide) 112 rfl ?_
      refine G_bipush C dX2_byteAt_112 (v := nI 59) (by decide) 114 rfl ?_
      exact G_iret C hr dX2_byteAt_114 rfl () trivial (by simp [lb, hs]) rfl
  · have hk2 : k < 5 := by simp only [ll, hs] at hk; simpa using hk
    rcases (show k = 0 ∨ k = 1 ∨ k = 2 ∨ k = 3 ∨ k = 4 by omega) with rfl | rfl | rfl | rfl | rfl
    · refine G_aload_n C dX2_byteAt_0 rfl 1 rfl ?_
      refine G_iload_n C dX2_byteAt_1 rfl 2 rfl ?_
      refine G_cV C dX2_byteAt_2 (c_X2_sortAt l E o a n Cd i v (by first | assumption | omega) (by first | assumption | omega) (by first | assumption | omega)) wm_X2_37 wi_X2_sortAt wsel_X2_sortAt wn_X2 wc_X2_sortAt rfl rfl ⟨by decide, by decide, rfl⟩ rfl (Nat.le_of_ble_eq_true rfl) 2 rfl rfl 0 rfl [0, 1] [] (wr := []) rfl rfl rfl rfl rfl [0, 1] rfl [(o, .inr (2, [.ref a, .int (nI n)])), (a, .inl (E.2.1, 14, .inl (aN Cd)))] rfl rfl [.int (nI (v / 100))] rfl 5 rfl ?_
      refine G_top (v' := .int (nI 2)) (by rw [hs]) ?_
      refine G_istore_n C dX2_byteAt_5 (by decide) [(3, .int (nI 2)), (0, .ref o), (1, .int (nI i)), (2, .int (nI 0))] rfl 6 rfl ?_
      refine G_iload_n C dX2_byteAt_6 rfl 7 rfl ?_
      refine G_iconst C dX2_byteAt_7 (v := nI 3) rfl 8 rfl ?_
      refine G_icmp_ne_t C dX2_byteAt_8 17 rfl (by decide) ?_
      refine G_iload_n C dX2_byteAt_17 rfl 18 rfl ?_
      refine G_istore C dX2_byteAt_18 (by decide) [(4, .int (nI 0)), (3, .int (nI 2)), (0, .ref o), (1, .int (nI i)), (2, .int (nI 0))] rfl 20 rfl ?_
      refine G_iload C dX2_byteAt_20 rfl 22 rfl ?_
      refine G_iconst C dX2_byteAt_22 (v := nI 2) rfl 23 rfl ?_
      refine G_icmp_lt_t C dX2_byteAt_23 39 rfl (by decide) ?_
      refine G_iload C dX2_byteAt_39 rfl 41 rfl ?_
      refine G_tabIn C dX2_byteAt_41 (38) (by decide) (by decide) rfl 79 rfl ?_
      refine G_bipush C dX2_byteAt_79 (v := nI 97) (by decide) 81 rfl ?_
      refine G_aload_n C dX2_byteAt_81 rfl 82 rfl ?_
      refine G_iload_n C dX2_byteAt_82 rfl 83 rfl ?_
      refine G_cV C dX2_byteAt_83 (c_X2_leftAt l E o a n Cd i v (by first | assumption | omega) (by first | assumption | omega) (by first | assumption | omega)) wm_X2_40 wi_X2_leftAt wsel_X2_leftAt wn_X2 wc_X2_leftAt rfl rfl ⟨by decide, by decide, rfl⟩ rfl (Nat.le_of_ble_eq_true rfl) 2 rfl rfl 0 rfl [0, 1] [] (wr := []) rfl rfl rfl rfl rfl [0, 1] rfl [(o, .inr (2, [.ref a, .int (nI n)])), (a, .inl (E.2.1, 14, .inl (aN Cd)))] rfl rfl [.int (nI (v / 10 % 10)), .int (nI 97)] rfl 86 rfl ?_
      refine G_iadd C dX2_byteAt_86 (v := nI (97 + (v / 10 % 10))) (nI_add _ _) 87 rfl ?_
      exact G_iret C hr dX2_byteAt_87 rfl () trivial (by simp [lb, hs]) rfl
    · refine G_aload_n C dX2_byteAt_0 rfl 1 rfl ?_
      refine G_iload_n C dX2_byteAt_1 rfl 2 rfl ?_
      refine G_cV C dX2_byteAt_2 (c_X2_sortAt l E o a n Cd i v (by first | assumption | omega) (by first | assumption | omega) (by first | assumption | omega)) wm_X2_37 wi_X2_sortAt wsel_X2_sortAt wn_X2 wc_X2_sortAt rfl rfl ⟨by decide, by decide, rfl⟩ rfl (Nat.le_of_ble_eq_true rfl) 2 rfl rfl 0 rfl [0, 1] [] (wr := []) rfl rfl rfl rfl rfl [0, 1] rfl [(o, .inr (2, [.ref a, .int (nI n)])), (a, .inl (E.2.1, 14, .inl (aN Cd)))] rfl rfl [.int (nI (v / 100))] rfl 5 rfl ?_
      refine G_top (v' := .int (nI 2)) (by rw [hs]) ?_
      refine G_istore_n C dX2_byteAt_5 (by decide) [(3, .int (nI 2)), (0, .ref o), (1, .int (nI i)), (2, .int (nI 1))] rfl 6 rfl ?_
      refine G_iload_n C dX2_byteAt_6 rfl 7 rfl ?_
      refine G_iconst C dX2_byteAt_7 (v := nI 3) rfl 8 rfl ?_
      refine G_icmp_ne_t C dX2_byteAt_8 17 rfl (by decide) ?_
      refine G_iload_n C dX2_byteAt_17 rfl 18 rfl ?_
      refine G_istore C dX2_byteAt_18 (by decide) [(4, .int (nI 1)), (3, .int (nI 2)), (0, .ref o), (1, .int (nI i)), (2, .int (nI 1))] rfl 20 rfl ?_
      refine G_iload C dX2_byteAt_20 rfl 22 rfl ?_
      refine G_iconst C dX2_byteAt_22 (v := nI 2) rfl 23 rfl ?_
      refine G_icmp_lt_t C dX2_byteAt_23 39 rfl (by decide) ?_
      refine G_iload C dX2_byteAt_39 rfl 41 rfl ?_
      refine G_tabIn C dX2_byteAt_41 (47) (by decide) (by decide) rfl 88 rfl ?_
      refine G_bipush C dX2_byteAt_88 (v := nI 61) (by decide) 90 rfl ?_
      exact G_iret C hr dX2_byteAt_90 rfl () trivial (by simp [lb, hs]) rfl
    · refine G_aload_n C dX2_byteAt_0 rfl 1 rfl ?_
      refine G_iload_n C dX2_byteAt_1 rfl 2 rfl ?_
      refine G_cV C dX2_byteAt_2 (c_X2_sortAt l E o a n Cd i v (by first | assumption | omega) (by first | assumption | omega) (by first | assumption | omega)) wm_X2_37 wi_X2_sortAt wsel_X2_sortAt wn_X2 wc_X2_sortAt rfl rfl ⟨by decide, by decide, rfl⟩ rfl (Nat.le_of_ble_eq_true rfl) 2 rfl rfl 0 rfl [0, 1] [] (wr := []) rfl rfl rfl rfl rfl [0, 1] rfl [(o, .inr (2, [.ref a, .int (nI n)])), (a, .inl (E.2.1, 14, .inl (aN Cd)))] rfl rfl [.int (nI (v / 100))] rfl 5 rfl ?_
      refine G_top (v' := .int (nI 2)) (by rw [hs]) ?_
      refine G_istore_n C dX2_byteAt_5 (by decide) [(3, .int (nI 2)), (0, .ref o), (1, .int (nI i)), (2, .int (nI 2))] rfl 6 rfl ?_
      refine G_iload_n C dX2_byteAt_6 rfl 7 rfl ?_
      refine G_iconst C dX2_byteAt_7 (v := nI 3) rfl 8 rfl ?_
      refine G_icmp_ne_t C dX2_byteAt_8 17 rfl (by decide) ?_
      refine G_iload_n C dX2_byteAt_17 rfl 18 rfl ?_
      refine G_istore C dX2_byteAt_18 (by decide) [(4, .int (nI 2)), (3, .int (nI 2)), (0, .ref o), (1, .int (nI i)), (2, .int (nI 2))] rfl 20 rfl ?_
      refine G_iload C dX2_byteAt_20 rfl 22 rfl ?_
      refine G_iconst C dX2_byteAt_22 (v := nI 2) rfl 23 rfl ?_
      refine G_icmp_lt_f C dX2_byteAt_23 39 rfl 26 rfl (by decide) ?_
      refine G_iload_n C dX2_byteAt_26 rfl 27 rfl ?_
      refine G_iconst C dX2_byteAt_27 (v := nI 1) rfl 28 rfl ?_
      refine G_icmp_eq_f C dX2_byteAt_28 36 rfl 31 rfl (by decide) ?_
      refine G_iload_n C dX2_byteAt_31 rfl 32 rfl ?_
      refine G_iconst C dX2_byteAt_32 (v := nI 3) rfl 33 rfl ?_
      refine G_icmp_ne_t C dX2_byteAt_33 39 rfl (by decide) ?_
      refine G_iload C dX2_byteAt_39 rfl 41 rfl ?_
      refine G_tabIn C dX2_byteAt_41 (50) (by decide) (by decide) rfl 91 rfl ?_
      refine G_iload_n C dX2_byteAt_91 rfl 92 rfl ?_
      refine G_if_ne_t C dX2_byteAt_92 100 rfl (by decide) ?_
      refine G_bipush C dX2_byteAt_100 (v := nI 42) (by decide) 102 rfl ?_
      exact G_iret C hr dX2_byteAt_102 rfl () trivial (by simp [lb, hs]) rfl
    · refine G_aload_n C dX2_byteAt_0 rfl 1 rfl ?_
      refine G_iload_n C dX2_byteAt_1 rfl 2 rfl ?_
      refine G_cV C dX2_byteAt_2 (c_X2_sortAt l E o a n Cd i v (by first | assumption | omega) (by first | assumption | omega) (by first | assumption | omega)) wm_X2_37 wi_X2_sortAt wsel_X2_sortAt wn_X2 wc_X2_sortAt rfl rfl ⟨by decide, by decide, rfl⟩ rfl (Nat.le_of_ble_eq_true rfl) 2 rfl rfl 0 rfl [0, 1] [] (wr := []) rfl rfl rfl rfl rfl [0, 1] rfl [(o, .inr (2, [.ref a, .int (nI n)])), (a, .inl (E.2.1, 14, .inl (aN Cd)))] rfl rfl [.int (nI (v / 100))] rfl 5 rfl ?_
      refine G_top (v' := .int (nI 2)) (by rw [hs]) ?_
      refine G_istore_n C dX2_byteAt_5 (by decide) [(3, .int (nI 2)), (0, .ref o), (1, .int (nI i)), (2, .int (nI 3))] rfl 6 rfl ?_
      refine G_iload_n C dX2_byteAt_6 rfl 7 rfl ?_
      refine G_iconst C dX2_byteAt_7 (v := nI 3) rfl 8 rfl ?_
      refine G_icmp_ne_t C dX2_byteAt_8 17 rfl (by decide) ?_
      refine G_iload_n C dX2_byteAt_17 rfl 18 rfl ?_
      refine G_istore C dX2_byteAt_18 (by decide) [(4, .int (nI 3)), (3, .int (nI 2)), (0, .ref o), (1, .int (nI i)), (2, .int (nI 3))] rfl 20 rfl ?_
      refine G_iload C dX2_byteAt_20 rfl 22 rfl ?_
      refine G_iconst C dX2_byteAt_22 (v := nI 2) rfl 23 rfl ?_
      refine G_icmp_lt_f C dX2_byteAt_23 39 rfl 26 rfl (by decide) ?_
      refine G_iload_n C dX2_byteAt_26 rfl 27 rfl ?_
      refine G_iconst C dX2_byteAt_27 (v := nI 1) rfl 28 rfl ?_
      refine G_icmp_eq_f C dX2_byteAt_28 36 rfl 31 rfl (by decide) ?_
      refine G_iload_n C dX2_byteAt_31 rfl 32 rfl ?_
      refine G_iconst C dX2_byteAt_32 (v := nI 3) rfl 33 rfl ?_
      refine G_icmp_ne_t C dX2_byteAt_33 39 rfl (by decide) ?_
      refine G_iload C dX2_byteAt_39 rfl 41 rfl ?_
      refine G_tabIn C dX2_byteAt_41 (62) (by decide) (by decide) rfl 103 rfl ?_
      refine G_bipush C dX2_byteAt_103 (v := nI 97) (by decide) 105 rfl ?_
      refine G_aload_n C dX2_byteAt_105 rfl 106 rfl ?_
      refine G_iload_n C dX2_byteAt_106 rfl 107 rfl ?_
      refine G_cV C dX2_byteAt_107 (c_X2_rightAt l E o a n Cd i v (by first | assumption | omega) (by first | assumption | omega) (by first | assumption | omega)) wm_X2_43 wi_X2_rightAt wsel_X2_rightAt wn_X2 wc_X2_rightAt rfl rfl ⟨by decide, by decide, rfl⟩ rfl (Nat.le_of_ble_eq_true rfl) 2 rfl rfl 0 rfl [0, 1] [] (wr := []) rfl rfl rfl rfl rfl [0, 1] rfl [(o, .inr (2, [.ref a, .int (nI n)])), (a, .inl (E.2.1, 14, .inl (aN Cd)))] rfl rfl [.int (nI (v % 10)), .int (nI 97)] rfl 110 rfl ?_
      refine G_iadd C dX2_byteAt_110 (v := nI (97 + (v % 10))) (nI_add _ _) 111 rfl ?_
      exact G_iret C hr dX2_byteAt_111 rfl () trivial (by simp [lb, hs]) rfl
    · refine G_aload_n C dX2_byteAt_0 rfl 1 rfl ?_
      refine G_iload_n C dX2_byteAt_1 rfl 2 rfl ?_
      refine G_cV C dX2_byteAt_2 (c_X2_sortAt l E o a n Cd i v (by first | assumption | omega) (by first | assumption | omega) (by first | assumption | omega)) wm_X2_37 wi_X2_sortAt wsel_X2_sortAt wn_X2 wc_X2_sortAt rfl rfl ⟨by decide, by decide, rfl⟩ rfl (Nat.le_of_ble_eq_true rfl) 2 rfl rfl 0 rfl [0, 1] [] (wr := []) rfl rfl rfl rfl rfl [0, 1] rfl [(o, .inr (2, [.ref a, .int (nI n)])), (a, .inl (E.2.1, 14, .inl (aN Cd)))] rfl rfl [.int (nI (v / 100))] rfl 5 rfl ?_
      refine G_top (v' := .int (nI 2)) (by rw [hs]) ?_
      refine G_istore_n C dX2_byteAt_5 (by decide) [(3, .int (nI 2)), (0, .ref o), (1, .int (nI i)), (2, .int (nI 4))] rfl 6 rfl ?_
      refine G_iload_n C dX2_byteAt_6 rfl 7 rfl ?_
      refine G_iconst C dX2_byteAt_7 (v := nI 3) rfl 8 rfl ?_
      refine G_icmp_ne_t C dX2_byteAt_8 17 rfl (by decide) ?_
      refine G_iload_n C dX2_byteAt_17 rfl 18 rfl ?_
      refine G_istore C dX2_byteAt_18 (by decide) [(4, .int (nI 4)), (3, .int (nI 2)), (0, .ref o), (1, .int (nI i)), (2, .int (nI 4))] rfl 20 rfl ?_
      refine G_iload C dX2_byteAt_20 rfl 22 rfl ?_
      refine G_iconst C dX2_byteAt_22 (v := nI 2) rfl 23 rfl ?_
      refine G_icmp_lt_f C dX2_byteAt_23 39 rfl 26 rfl (by decide) ?_
      refine G_iload_n C dX2_byteAt_26 rfl 27 rfl ?_
      refine G_iconst C dX2_byteAt_27 (v := nI 1) rfl 28 rfl ?_
      refine G_icmp_eq_f C dX2_byteAt_28 36 rfl 31 rfl (by decide) ?_
      refine G_iload_n C dX2_byteAt_31 rfl 32 rfl ?_
      refine G_iconst C dX2_byteAt_32 (v := nI 3) rfl 33 rfl ?_
      refine G_icmp_ne_t C dX2_byteAt_33 39 rfl (by decide) ?_
      refine G_iload C dX2_byteAt_39 rfl 41 rfl ?_
      refine G_tabOut C dX2_byteAt_41 (by decide) 112 rfl ?_
      refine G_bipush C dX2_byteAt_112 (v := nI 59) (by decide) 114 rfl ?_
      exact G_iret C hr dX2_byteAt_114 rfl () trivial (by simp [lb, hs]) rfl
  · have hk2 : k < 5 := by simp only [ll, hs] at hk; simpa using hk
    rcases (show k = 0 ∨ k = 1 ∨ k = 2 ∨ k = 3 ∨ k = 4 by omega) with rfl | rfl | rfl | rfl | rfl
    · refine G_aload_n C dX2_byteAt_0 rfl 1 rfl ?_
      refine G_iload_n C dX2_byteAt_1 rfl 2 rfl ?_
      refine G_cV C dX2_byteAt_2 (c_X2_sortAt l E o a n Cd i v (by first | assumption | omega) (by first | assumption | omega) (by first | assumption | omega)) wm_X2_37 wi_X2_sortAt wsel_X2_sortAt wn_X2 wc_X2_sortAt rfl rfl ⟨by decide, by decide, rfl⟩ rfl (Nat.le_of_ble_eq_true rfl) 2 rfl rfl 0 rfl [0, 1] [] (wr := []) rfl rfl rfl rfl rfl [0, 1] rfl [(o, .inr (2, [.ref a, .int (nI n)])), (a, .inl (E.2.1, 14, .inl (aN Cd)))] rfl rfl [.int (nI (v / 100))] rfl 5 rfl ?_
      refine G_top (v' := .int (nI 3)) (by rw [hs]) ?_
      refine G_istore_n C dX2_byteAt_5 (by decide) [(3, .int (nI 3)), (0, .ref o), (1, .int (nI i)), (2, .int (nI 0))] rfl 6 rfl ?_
      refine G_iload_n C dX2_byteAt_6 rfl 7 rfl ?_
      refine G_iconst C dX2_byteAt_7 (v := nI 3) rfl 8 rfl ?_
      refine G_icmp_ne_f C dX2_byteAt_8 17 rfl 11 rfl (by decide) ?_
      refine G_iload_n C dX2_byteAt_11 rfl 12 rfl ?_
      refine G_iconst C dX2_byteAt_12 (v := nI 1) rfl 13 rfl ?_
      refine G_isub C dX2_byteAt_13 (v := (-1 : Int32)) (by decide) 14 rfl ?_
      refine G_goto C dX2_byteAt_14 18 rfl ?_
      refine G_istore C dX2_byteAt_18 (by decide) [(4, .int (-1 : Int32)), (3, .int (nI 3)), (0, .ref o), (1, .int (nI i)), (2, .int (nI 0))] rfl 20 rfl ?_
      refine G_iload C dX2_byteAt_20 rfl 22 rfl ?_
      refine G_iconst C dX2_byteAt_22 (v := nI 2) rfl 23 rfl ?_
      refine G_icmp_lt_t C dX2_byteAt_23 39 rfl (by decide) ?_
      refine G_iload C dX2_byteAt_39 rfl 41 rfl ?_
      refine G_tabIn C dX2_byteAt_41 (35) (by decide) (by decide) rfl 76 rfl ?_
      refine G_bipush C dX2_byteAt_76 (v := nI 42) (by decide) 78 rfl ?_
      exact G_iret C hr dX2_byteAt_78 rfl () trivial (by simp [lb, hs]) rfl
    · refine G_aload_n C dX2_byteAt_0 rfl 1 rfl ?_
      refine G_iload_n C dX2_byteAt_1 rfl 2 rfl ?_
      refine G_cV C dX2_byteAt_2 (c_X2_sortAt l E o a n Cd i v (by first | assumption | omega) (by first | assumption | omega) (by first | assumption | omega)) wm_X2_37 wi_X2_sortAt wsel_X2_sortAt wn_X2 wc_X2_sortAt rfl rfl ⟨by decide, by decide, rfl⟩ rfl (Nat.le_of_ble_eq_true rfl) 2 rfl rfl 0 rfl [0, 1] [] (wr := []) rfl rfl rfl rfl rfl [0, 1] rfl [(o, .inr (2, [.ref a, .int (nI n)])), (a, .inl (E.2.1, 14, .inl (aN Cd)))] rfl rfl [.int (nI (v / 100))] rfl 5 rfl ?_
      refine G_top (v' := .int (nI 3)) (by rw [hs]) ?_
      refine G_istore_n C dX2_byteAt_5 (by decide) [(3, .int (nI 3)), (0, .ref o), (1, .int (nI i)), (2, .int (nI 1))] rfl 6 rfl ?_
      refine G_iload_n C dX2_byteAt_6 rfl 7 rfl ?_
      refine G_iconst C dX2_byteAt_7 (v := nI 3) rfl 8 rfl ?_
      refine G_icmp_ne_f C dX2_byteAt_8 17 rfl 11 rfl (by decide) ?_
      refine G_iload_n C dX2_byteAt_11 rfl 12 rfl ?_
      refine G_iconst C dX2_byteAt_12 (v := nI 1) rfl 13 rfl ?_
      refine G_isub C dX2_byteAt_13 (v := nI 0) (by decide) 14 rfl ?_
      refine G_goto C dX2_byteAt_14 18 rfl ?_
      refine G_istore C dX2_byteAt_18 (by decide) [(4, .int (nI 0)), (3, .int (nI 3)), (0, .ref o), (1, .int (nI i)), (2, .int (nI 1))] rfl 20 rfl ?_
      refine G_iload C dX2_byteAt_20 rfl 22 rfl ?_
      refine G_iconst C dX2_byteAt_22 (v := nI 2) rfl 23 rfl ?_
      refine G_icmp_lt_t C dX2_byteAt_23 39 rfl (by decide) ?_
      refine G_iload C dX2_byteAt_39 rfl 41 rfl ?_
      refine G_tabIn C dX2_byteAt_41 (38) (by decide) (by decide) rfl 79 rfl ?_
      refine G_bipush C dX2_byteAt_79 (v := nI 97) (by decide) 81 rfl ?_
      refine G_aload_n C dX2_byteAt_81 rfl 82 rfl ?_
      refine G_iload_n C dX2_byteAt_82 rfl 83 rfl ?_
      refine G_cV C dX2_byteAt_83 (c_X2_leftAt l E o a n Cd i v (by first | assumption | omega) (by first | assumption | omega) (by first | assumption | omega)) wm_X2_40 wi_X2_leftAt wsel_X2_leftAt wn_X2 wc_X2_leftAt rfl rfl ⟨by decide, by decide, rfl⟩ rfl (Nat.le_of_ble_eq_true rfl) 2 rfl rfl 0 rfl [0, 1] [] (wr := []) rfl rfl rfl rfl rfl [0, 1] rfl [(o, .inr (2, [.ref a, .int (nI n)])), (a, .inl (E.2.1, 14, .inl (aN Cd)))] rfl rfl [.int (nI (v / 10 % 10)), .int (nI 97)] rfl 86 rfl ?_
      refine G_iadd C dX2_byteAt_86 (v := nI (97 + (v / 10 % 10))) (nI_add _ _) 87 rfl ?_
      exact G_iret C hr dX2_byteAt_87 rfl () trivial (by simp [lb, hs]) rfl
    · refine G_aload_n C dX2_byteAt_0 rfl 1 rfl ?_
      refine G_iload_n C dX2_byteAt_1 rfl 2 rfl ?_
      refine G_cV C dX2_byteAt_2 (c_X2_sortAt l E o a n Cd i v (by first | assumption | omega) (by first | assumption | omega) (by first | assumption | omega)) wm_X2_37 wi_X2_sortAt wsel_X2_sortAt wn_X2 wc_X2_sortAt rfl rfl ⟨by decide, by decide, rfl⟩ rfl (Nat.le_of_ble_eq_true rfl) 2 rfl rfl 0 rfl [0, 1] [] (wr := []) rfl rfl rfl rfl rfl [0, 1] rfl [(o, .inr (2, [.ref a, .int (nI n)])), (a, .inl (E.2.1, 14, .inl (aN Cd)))] rfl rfl [.int (nI (v / 100))] rfl 5 rfl ?_
      refine G_top (v' := .int (nI 3)) (by rw [hs]) ?_
      refine G_istore_n C dX2_byteAt_5 (by decide) [(3, .int (nI 3)), (0, .ref o), (1, .int (nI i)), (2, .int (nI 2))] rfl 6 rfl ?_
      refine G_iload_n C dX2_byteAt_6 rfl 7 rfl ?_
      refine G_iconst C dX2_byteAt_7 (v := nI 3) rfl 8 rfl ?_
      refine G_icmp_ne_f C dX2_byteAt_8 17 rfl 11 rfl (by decide) ?_
      refine G_iload_n C dX2_byteAt_11 rfl 12 rfl ?_
      refine G_iconst C dX2_byteAt_12 (v := nI 1) rfl 13 rfl ?_
      refine G_isub C dX2_byteAt_13 (v := nI 1) (by decide) 14 rfl ?_
      refine G_goto C dX2_byteAt_14 18 rfl ?_
      refine G_istore C dX2_byteAt_18 (by decide) [(4, .int (nI 1)), (3, .int (nI 3)), (0, .ref o), (1, .int (nI i)), (2, .int (nI 2))] rfl 20 rfl ?_
      refine G_iload C dX2_byteAt_20 rfl 22 rfl ?_
      refine G_iconst C dX2_byteAt_22 (v := nI 2) rfl 23 rfl ?_
      refine G_icmp_lt_t C dX2_byteAt_23 39 rfl (by decide) ?_
      refine G_iload C dX2_byteAt_39 rfl 41 rfl ?_
      refine G_tabIn C dX2_byteAt_41 (47) (by decide) (by decide) rfl 88 rfl ?_
      refine G_bipush C dX2_byteAt_88 (v := nI 61) (by decide) 90 rfl ?_
      exact G_iret C hr dX2_byteAt_90 rfl () trivial (by simp [lb, hs]) rfl
    · refine G_aload_n C dX2_byteAt_0 rfl 1 rfl ?_
      refine G_iload_n C dX2_byteAt_1 rfl 2 rfl ?_
      refine G_cV C dX2_byteAt_2 (c_X2_sortAt l E o a n Cd i v (by first | assumption | omega) (by first | assumption | omega) (by first | assumption | omega)) wm_X2_37 wi_X2_sortAt wsel_X2_sortAt wn_X2 wc_X2_sortAt rfl rfl ⟨by decide, by decide, rfl⟩ rfl (Nat.le_of_ble_eq_true rfl) 2 rfl rfl 0 rfl [0, 1] [] (wr := []) rfl rfl rfl rfl rfl [0, 1] rfl [(o, .inr (2, [.ref a, .int (nI n)])), (a, .inl (E.2.1, 14, .inl (aN Cd)))] rfl rfl [.int (nI (v / 100))] rfl 5 rfl ?_
      refine G_top (v' := .int (nI 3)) (by rw [hs]) ?_
      refine G_istore_n C dX2_byteAt_5 (by decide) [(3, .int (nI 3)), (0, .ref o), (1, .int (nI i)), (2, .int (nI 3))] rfl 6 rfl ?_
      refine G_iload_n C dX2_byteAt_6 rfl 7 rfl ?_
      refine G_iconst C dX2_byteAt_7 (v := nI 3) rfl 8 rfl ?_
      refine G_icmp_ne_f C dX2_byteAt_8 17 rfl 11 rfl (by decide) ?_
      refine G_iload_n C dX2_byteAt_11 rfl 12 rfl ?_
      refine G_iconst C dX2_byteAt_12 (v := nI 1) rfl 13 rfl ?_
      refine G_isub C dX2_byteAt_13 (v := nI 2) (by decide) 14 rfl ?_
      refine G_goto C dX2_byteAt_14 18 rfl ?_
      refine G_istore C dX2_byteAt_18 (by decide) [(4, .int (nI 2)), (3, .int (nI 3)), (0, .ref o), (1, .int (nI i)), (2, .int (nI 3))] rfl 20 rfl ?_
      refine G_iload C dX2_byteAt_20 rfl 22 rfl ?_
      refine G_iconst C dX2_byteAt_22 (v := nI 2) rfl 23 rfl ?_
      refine G_icmp_lt_f C dX2_byteAt_23 39 rfl 26 rfl (by decide) ?_
      refine G_iload_n C dX2_byteAt_26 rfl 27 rfl ?_
      refine G_iconst C dX2_byteAt_27 (v := nI 1) rfl 28 rfl ?_
      refine G_icmp_eq_f C dX2_byteAt_28 36 rfl 31 rfl (by decide) ?_
      refine G_iload_n C dX2_byteAt_31 rfl 32 rfl ?_
      refine G_iconst C dX2_byteAt_32 (v := nI 3) rfl 33 rfl ?_
      refine G_icmp_ne_f C dX2_byteAt_33 39 rfl 36 rfl (by decide) ?_
      refine G_iinc C dX2_byteAt_36 0 rfl (by decide) (by decide) [(4, .int (nI 3)), (3, .int (nI 3)), (0, .ref o), (1, .int (nI i)), (2, .int (nI 3))] rfl 39 rfl ?_
      refine G_iload C dX2_byteAt_39 rfl 41 rfl ?_
      refine G_tabIn C dX2_byteAt_41 (62) (by decide) (by decide) rfl 103 rfl ?_
      refine G_bipush C dX2_byteAt_103 (v := nI 97) (by decide) 105 rfl ?_
      refine G_aload_n C dX2_byteAt_105 rfl 106 rfl ?_
      refine G_iload_n C dX2_byteAt_106 rfl 107 rfl ?_
      refine G_cV C dX2_byteAt_107 (c_X2_rightAt l E o a n Cd i v (by first | assumption | omega) (by first | assumption | omega) (by first | assumption | omega)) wm_X2_43 wi_X2_rightAt wsel_X2_rightAt wn_X2 wc_X2_rightAt rfl rfl ⟨by decide, by decide, rfl⟩ rfl (Nat.le_of_ble_eq_true rfl) 2 rfl rfl 0 rfl [0, 1] [] (wr := []) rfl rfl rfl rfl rfl [0, 1] rfl [(o, .inr (2, [.ref a, .int (nI n)])), (a, .inl (E.2.1, 14, .inl (aN Cd)))] rfl rfl [.int (nI (v % 10)), .int (nI 97)] rfl 110 rfl ?_
      refine G_iadd C dX2_byteAt_110 (v := nI (97 + (v % 10))) (nI_add _ _) 111 rfl ?_
      exact G_iret C hr dX2_byteAt_111 rfl () trivial (by simp [lb, hs]) rfl
    · refine G_aload_n C dX2_byteAt_0 rfl 1 rfl ?_
      refine G_iload_n C dX2_byteAt_1 rfl 2 rfl ?_
      refine G_cV C dX2_byteAt_2 (c_X2_sortAt l E o a n Cd i v (by first | assumption | omega) (by first | assumption | omega) (by first | assumption | omega)) wm_X2_37 wi_X2_sortAt wsel_X2_sortAt wn_X2 wc_X2_sortAt rfl rfl ⟨by decide, by decide, rfl⟩ rfl (Nat.le_of_ble_eq_true rfl) 2 rfl rfl 0 rfl [0, 1] [] (wr := []) rfl rfl rfl rfl rfl [0, 1] rfl [(o, .inr (2, [.ref a, .int (nI n)])), (a, .inl (E.2.1, 14, .inl (aN Cd)))] rfl rfl [.int (nI (v / 100))] rfl 5 rfl ?_
      refine G_top (v' := .int (nI 3)) (by rw [hs]) ?_
      refine G_istore_n C dX2_byteAt_5 (by decide) [(3, .int (nI 3)), (0, .ref o), (1, .int (nI i)), (2, .int (nI 4))] rfl 6 rfl ?_
      refine G_iload_n C dX2_byteAt_6 rfl 7 rfl ?_
      refine G_iconst C dX2_byteAt_7 (v := nI 3) rfl 8 rfl ?_
      refine G_icmp_ne_f C dX2_byteAt_8 17 rfl 11 rfl (by decide) ?_
      refine G_iload_n C dX2_byteAt_11 rfl 12 rfl ?_
      refine G_iconst C dX2_byteAt_12 (v := nI 1) rfl 13 rfl ?_
      refine G_isub C dX2_byteAt_13 (v := nI 3) (by decide) 14 rfl ?_
      refine G_goto C dX2_byteAt_14 18 rfl ?_
      refine G_istore C dX2_byteAt_18 (by decide) [(4, .int (nI 3)), (3, .int (nI 3)), (0, .ref o), (1, .int (nI i)), (2, .int (nI 4))] rfl 20 rfl ?_
      refine G_iload C dX2_byteAt_20 rfl 22 rfl ?_
      refine G_iconst C dX2_byteAt_22 (v := nI 2) rfl 23 rfl ?_
      refine G_icmp_lt_f C dX2_byteAt_23 39 rfl 26 rfl (by decide) ?_
      refine G_iload_n C dX2_byteAt_26 rfl 27 rfl ?_
      refine G_iconst C dX2_byteAt_27 (v := nI 1) rfl 28 rfl ?_
      refine G_icmp_eq_f C dX2_byteAt_28 36 rfl 31 rfl (by decide) ?_
      refine G_iload_n C dX2_byteAt_31 rfl 32 rfl ?_
      refine G_iconst C dX2_byteAt_32 (v := nI 3) rfl 33 rfl ?_
      refine G_icmp_ne_f C dX2_byteAt_33 39 rfl 36 rfl (by decide) ?_
      refine G_iinc C dX2_byteAt_36 0 rfl (by decide) (by decide) [(4, .int (nI 4)), (3, .int (nI 3)), (0, .ref o), (1, .int (nI i)), (2, .int (nI 4))] rfl 39 rfl ?_
      refine G_iload C dX2_byteAt_39 rfl 41 rfl ?_
      refine G_tabOut C dX2_byteAt_41 (by decide) 112 rfl ?_
      refine G_bipush C dX2_byteAt_112 (v := nI 59) (by decide) 114 rfl ?_
      exact G_iret C hr dX2_byteAt_114 rfl () trivial (by simp [lb, hs]) rfl

set_option maxHeartbeats 4000000 in
set_option maxRecDepth 100000 in
theorem c_X2_writtenByte (l : Launch) (E : gE) (o a n : Nat) (Cd : Nat → Nat) (ln : Nat → Nat) (k : Nat) (hok : lok n ln Cd) (hkb : k < 2 ^ 31) : FD l E yX2_writtenByte cX2_writtenByte 4 (some .int) { frames := 2, cells := 0, slots := 0, locals := 45 } [.ref o, .int (nI k)] [(o, .inr (2, [.ref a, .int (nI n)])), (a, .inl (E.2.1, 14, .inl (aN Cd)))] (some (.int (tI (tb ln n k)))) [(o, .inr (2, [.ref a, .int (nI n)])), (a, .inl (E.2.1, 14, .inl (aN Cd)))] := by
  refine Fn_ofL (own := RX2) (by decide) rfl rfl [(0, .ref o), (1, .int (nI k))] rfl ?_
  intro p e s m below meth c A C hr hnm
  have h14 : n ≤ 14 := hok.n
  refine G_iload_n C dX2_writtenByte_0 rfl 1 rfl ?_
  refine G_istore_n C dX2_writtenByte_1 (by decide) [(2, .int (nI k)), (0, .ref o), (1, .int (nI k))] rfl 2 rfl ?_
  refine G_iconst C dX2_writtenByte_2 (v := nI 0) rfl 3 rfl ?_
  refine G_istore_n C dX2_writtenByte_3 (by decide) [(3, .int (nI 0)), (2, .int (nI k)), (0, .ref o), (1, .int (nI k))] rfl 4 rfl ?_
  refine G_sel [1, 0, 2, 3] [(2, .int (nI k)), (3, .int (nI 0)), (0, .ref o), (1, .int (nI k))] rfl ?_
  refine G_while (X := Nat) (Wf := fun i => [(o, .inr (2, [.ref a, .int (nI n)])), (a, .inl (E.2.1, 14, .inl (aN Cd)))]) (Lf := fun i => [(2, .int (nI (k - wlen ln i))), (3, .int (nI i)), (0, .ref o), (1, .int (nI k))]) (Sf := fun _ => []) (fun i => i ≤ n ∧ wlen ln i ≤ k) (fun i => n - i) (fun i hi ih => ?_) 0 ⟨Nat.zero_le _, Nat.zero_le _⟩
  refine G_iload_n C dX2_writtenByte_4 rfl 5 rfl ?_
  refine G_aload_n C dX2_writtenByte_5 rfl 6 rfl ?_
  refine G_getf C dX2_writtenByte_6 wF_X2 wf_X2_15 (f := 1) (by decide) (ci := 2) rfl 0 rfl rfl 9 rfl ?_
  refine G_icmp_ge C dX2_writtenByte_9 42 rfl 12 rfl (nI_leI (by omega) (by omega)) (fun h_1 => ?_) (fun h_1 => ?_)
  · refine G_bipush C dX2_writtenByte_42 (v := (-5 : Int32)) (by decide) 44 rfl ?_
    exact G_iret C hr dX2_writtenByte_44 rfl () trivial (by rw [tb_none ln k n (by rw [show n = i by omega]; omega)]; rfl) rfl
  · refine G_iload_n C dX2_writtenByte_12 rfl 13 rfl ?_
    refine G_aload_n C dX2_writtenByte_13 rfl 14 rfl ?_
    refine G_iload_n C dX2_writtenByte_14 rfl 15 rfl ?_
    refine G_cV C dX2_writtenByte_15 (c_X2_lengthAt l E o a n Cd i (ln i) (by omega) (hok.c (by omega)) (hok.v (by omega))) wm_X2_29 wi_X2_lengthAt wsel_X2_lengthAt wn_X2 wc_X2_lengthAt rfl rfl ⟨by decide, by decide, rfl⟩ rfl (Nat.le_of_ble_eq_true rfl) 2 rfl rfl 0 rfl [0, 1] [] (wr := []) rfl rfl rfl rfl rfl [0, 1] rfl [(o, .inr (2, [.ref a, .int (nI n)])), (a, .inl (E.2.1, 14, .inl (aN Cd)))] rfl rfl [.int (nI (ll (ln i))), .int (nI (k - wlen ln i))] rfl 18 rfl ?_
    have hll := ll_le (ln i)
    refine G_icmp_ge C dX2_writtenByte_18 28 rfl 21 rfl (nI_leI (by omega) (by omega)) (fun h_2 => ?_) (fun h_2 => ?_)
    · refine G_iload_n C dX2_writtenByte_28 rfl 29 rfl ?_
      refine G_aload_n C dX2_writtenByte_29 rfl 30 rfl ?_
      refine G_iload_n C dX2_writtenByte_30 rfl 31 rfl ?_
      refine G_cV C dX2_writtenByte_31 (c_X2_lengthAt l E o a n Cd i (ln i) (by omega) (hok.c (by omega)) (hok.v (by omega))) wm_X2_29 wi_X2_lengthAt wsel_X2_lengthAt wn_X2 wc_X2_lengthAt rfl rfl ⟨by decide, by decide, rfl⟩ rfl (Nat.le_of_ble_eq_true rfl) 2 rfl rfl 0 rfl [0, 1] [] (wr := []) rfl rfl rfl rfl rfl [0, 1] rfl [(o, .inr (2, [.ref a, .int (nI n)])), (a, .inl (E.2.1, 14, .inl (aN Cd)))] rfl rfl [.int (nI (ll (ln i))), .int (nI (k - wlen ln i))] rfl 34 rfl ?_
      refine G_isub C dX2_writtenByte_34 (v := nI ((k - wlen ln i) - (ll (ln i)))) (pk_sub (by omega)) 35 rfl ?_
      refine G_istore_n C dX2_writtenByte_35 (by decide) [(2, .int (nI ((k - wlen ln i) - (ll (ln i))))), (3, .int (nI i)), (0, .ref o), (1, .int (nI k))] rfl 36 rfl ?_
      refine G_iinc C dX2_writtenByte_36 1 rfl (nI_1 _) (by decide) [(3, .int (nI (i + 1))), (2, .int (nI ((k - wlen ln i) - (ll (ln i))))), (0, .ref o), (1, .int (nI k))] rfl 39 rfl ?_
      refine G_goto C dX2_writtenByte_39 4 rfl ?_
      refine G_sel [1, 0, 2, 3] [(2, .int (nI ((k - wlen ln i) - (ll (ln i))))), (3, .int (nI (i + 1))), (0, .ref o), (1, .int (nI k))] rfl ?_
      refine G_eq (L' := [(2, .int (nI (k - wlen ln (i + 1)))), (3, .int (nI (i + 1))), (0, .ref o), (1, .int (nI k))]) rfl (by rw [show wlen ln (i + 1) = wlen ln i + ll (ln i) from rfl, Nat.sub_sub]) rfl ?_
      exact ih (i + 1) ⟨by omega, by simp only [wlen]; omega⟩ (by omega)
    · refine G_aload_n C dX2_writtenByte_21 rfl 22 rfl ?_
      refine G_iload_n C dX2_writtenByte_22 rfl 23 rfl ?_
      refine G_iload_n C dX2_writtenByte_23 rfl 24 rfl ?_
      refine G_cV C dX2_writtenByte_24 (c_X2_byteAt l E o a n Cd i (ln i) (k - wlen ln i) (by omega) (hok.c (by omega)) (hok.v (by omega)) (by omega)) wm_X2_33 wi_X2_byteAt wsel_X2_byteAt wn_X2 wc_X2_byteAt rfl rfl ⟨by decide, by decide, rfl⟩ rfl (Nat.le_of_ble_eq_true rfl) 2 rfl rfl 0 rfl [0, 1] [] (wr := []) rfl rfl rfl rfl rfl [0, 1] rfl [(o, .inr (2, [.ref a, .int (nI n)])), (a, .inl (E.2.1, 14, .inl (aN Cd)))] rfl rfl [.int (nI (lb (ln i) (k - wlen ln i)))] rfl 27 rfl ?_
      exact G_iret C hr dX2_writtenByte_27 rfl () trivial (by rw [show n = i + 1 + (n - i - 1) by omega, tb_found ln i k (by omega) (by simp only [wlen]; omega)]; rfl) rfl
