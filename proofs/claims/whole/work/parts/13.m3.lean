set_option maxHeartbeats 4000000 in
set_option maxRecDepth 100000 in
theorem c_J7_fill (l : Launch) (E : gE) (ar len : Nat) (f : Nat → Int32) (v : Int32) (hlen : len < 1000) : FD l E yJ7_fill_53178 cJ7_fill_53178 4 none { frames := 0, cells := 0, slots := 0, locals := 0 } [.ref ar, .int v] [(ar, .inl (E.2.1, len, .inl f))] none [(ar, .inl (E.2.1, len, .inl (fun _ => v)))] := by
  refine Fn_ofL (own := RJ7) (by decide) rfl rfl [(0, .ref ar), (1, .int v)] rfl ?_
  intro p e s m below meth c A C hr hnm
  refine G_iconst C dJ7_fill_53178_0 (v := nI 0) rfl 1 rfl ?_
  refine G_istore_n C dJ7_fill_53178_1 (by decide) [(2, .int (nI 0)), (0, .ref ar), (1, .int v)] rfl 2 rfl ?_
  refine G_aload_n C dJ7_fill_53178_2 rfl 3 rfl ?_
  refine G_alen C dJ7_fill_53178_3 0 rfl 4 rfl ?_
  refine G_istore_n C dJ7_fill_53178_4 (by decide) [(3, .int (nI len)), (2, .int (nI 0)), (0, .ref ar), (1, .int v)] rfl 5 rfl ?_
  refine G_eq (ws' := [(ar, .inl (E.2.1, len, .inl (flI f v 0)))]) (by rw [flI_0]) rfl rfl ?_
  refine G_sel [1, 0, 2, 3] [(2, .int (nI 0)), (3, .int (nI len)), (0, .ref ar), (1, .int v)] rfl ?_
  refine G_while (X := Nat) (Wf := fun i => [(ar, .inl (E.2.1, len, .inl (flI f v i)))]) (Lf := fun i => [(2, .int (nI i)), (3, .int (nI len)), (0, .ref ar), (1, .int v)]) (Sf := fun _ => []) (fun i => i ≤ len) (fun i => len - i) (fun i hi ih => ?_) 0 (by omega)
  refine G_iload_n C dJ7_fill_53178_5 rfl 6 rfl ?_
  refine G_iload_n C dJ7_fill_53178_6 rfl 7 rfl ?_
  refine G_icmp_ge C dJ7_fill_53178_7 20 rfl 10 rfl (nI_leI (by omega) (by omega)) (fun h_1 => ?_) (fun h_1 => ?_)
  · refine G_cong 0 (fun _ => v) rfl (fun j hj => by simp only [flI]; rw [if_pos (by omega)]) [(ar, .inl (E.2.1, len, .inl (fun _ => v)))] rfl ?_
    exact G_vret C hr dJ7_fill_53178_20 () trivial rfl rfl
  · refine G_aload_n C dJ7_fill_53178_10 rfl 11 rfl ?_
    refine G_iload_n C dJ7_fill_53178_11 rfl 12 rfl ?_
    refine G_iload_n C dJ7_fill_53178_12 rfl 13 rfl ?_
    refine G_iast C dJ7_fill_53178_13 0 rfl (vp_in_nI (by omega) (by omega)) (flI_s f v i (by omega)) [(ar, .inl (E.2.1, len, .inl (flI f v (i + 1))))] rfl 14 rfl ?_
    refine G_iinc C dJ7_fill_53178_14 0 rfl (nI_1 _) (by decide) [(2, .int (nI (i + 1))), (3, .int (nI len)), (0, .ref ar), (1, .int v)] rfl 17 rfl ?_
    refine G_goto C dJ7_fill_53178_17 5 rfl ?_
    exact ih (i + 1) (by omega) (by omega)

set_option maxHeartbeats 4000000 in
set_option maxRecDepth 100000 in
theorem c_J6_bitCount (l : Launch) (E : gE) (x : Nat) (hx : x < 1024) : FD l E yJ6_bitCount_0f7a4 cJ6_bitCount_0f7a4 1 (some .int) { frames := 0, cells := 0, slots := 0, locals := 0 } [.int (nI x)] [] (some (.int (nI (pcn x)))) [] := by
  refine Fn_ofL (own := RJ6) (by decide) rfl rfl [(0, .int (nI x))] rfl ?_
  intro p e s m below meth c A C hr hnm
  refine G_iload_n C dJ6_bitCount_0f7a4_0 rfl 1 rfl ?_
  refine G_iload_n C dJ6_bitCount_0f7a4_1 rfl 2 rfl ?_
  refine G_iconst C dJ6_bitCount_0f7a4_2 (v := nI 1) rfl 3 rfl ?_
  refine G_iushr C dJ6_bitCount_0f7a4_3 (v := ((nI x).toUInt32 >>> ((nI 1).toUInt32 &&& Int32.toUInt32 31)).toInt32) rfl 4 rfl ?_
  refine G_ldcw C dJ6_bitCount_0f7a4_4 wk_J6_265 7 rfl ?_
  refine G_iand C dJ6_bitCount_0f7a4_7 (v := (((nI x).toUInt32 >>> ((nI 1).toUInt32 &&& Int32.toUInt32 31)).toInt32) &&& (1431655765 : Int32)) rfl 8 rfl ?_
  refine G_isub C dJ6_bitCount_0f7a4_8 (v := bc1 (nI x)) rfl 9 rfl ?_
  refine G_istore_n C dJ6_bitCount_0f7a4_9 (by decide) [(0, .int (bc1 (nI x)))] rfl 10 rfl ?_
  refine G_iload_n C dJ6_bitCount_0f7a4_10 rfl 11 rfl ?_
  refine G_ldcw C dJ6_bitCount_0f7a4_11 wk_J6_266 14 rfl ?_
  refine G_iand C dJ6_bitCount_0f7a4_14 (v := (bc1 (nI x)) &&& (858993459 : Int32)) rfl 15 rfl ?_
  refine G_iload_n C dJ6_bitCount_0f7a4_15 rfl 16 rfl ?_
  refine G_iconst C dJ6_bitCount_0f7a4_16 (v := nI 2) rfl 17 rfl ?_
  refine G_iushr C dJ6_bitCount_0f7a4_17 (v := ((bc1 (nI x)).toUInt32 >>> ((nI 2).toUInt32 &&& Int32.toUInt32 31)).toInt32) rfl 18 rfl ?_
  refine G_ldcw C dJ6_bitCount_0f7a4_18 wk_J6_266 21 rfl ?_
  refine G_iand C dJ6_bitCount_0f7a4_21 (v := (((bc1 (nI x)).toUInt32 >>> ((nI 2).toUInt32 &&& Int32.toUInt32 31)).toInt32) &&& (858993459 : Int32)) rfl 22 rfl ?_
  refine G_iadd C dJ6_bitCount_0f7a4_22 (v := bc2 (bc1 (nI x))) rfl 23 rfl ?_
  refine G_istore_n C dJ6_bitCount_0f7a4_23 (by decide) [(0, .int (bc2 (bc1 (nI x))))] rfl 24 rfl ?_
  refine G_iload_n C dJ6_bitCount_0f7a4_24 rfl 25 rfl ?_
  refine G_iload_n C dJ6_bitCount_0f7a4_25 rfl 26 rfl ?_
  refine G_iconst C dJ6_bitCount_0f7a4_26 (v := nI 4) rfl 27 rfl ?_
  refine G_iushr C dJ6_bitCount_0f7a4_27 (v := ((bc2 (bc1 (nI x))).toUInt32 >>> ((nI 4).toUInt32 &&& Int32.toUInt32 31)).toInt32) rfl 28 rfl ?_
  refine G_iadd C dJ6_bitCount_0f7a4_28 (v := (bc2 (bc1 (nI x))) + (((bc2 (bc1 (nI x))).toUInt32 >>> ((nI 4).toUInt32 &&& Int32.toUInt32 31)).toInt32)) rfl 29 rfl ?_
  refine G_ldcw C dJ6_bitCount_0f7a4_29 wk_J6_267 32 rfl ?_
  refine G_iand C dJ6_bitCount_0f7a4_32 (v := bc3 (bc2 (bc1 (nI x)))) rfl 33 rfl ?_
  refine G_istore_n C dJ6_bitCount_0f7a4_33 (by decide) [(0, .int (bc3 (bc2 (bc1 (nI x)))))] rfl 34 rfl ?_
  refine G_iload_n C dJ6_bitCount_0f7a4_34 rfl 35 rfl ?_
  refine G_iload_n C dJ6_bitCount_0f7a4_35 rfl 36 rfl ?_
  refine G_bipush C dJ6_bitCount_0f7a4_36 (v := nI 8) (by decide) 38 rfl ?_
  refine G_iushr C dJ6_bitCount_0f7a4_38 (v := ((bc3 (bc2 (bc1 (nI x)))).toUInt32 >>> ((nI 8).toUInt32 &&& Int32.toUInt32 31)).toInt32) rfl 39 rfl ?_
  refine G_iadd C dJ6_bitCount_0f7a4_39 (v := bc4 (bc3 (bc2 (bc1 (nI x))))) rfl 40 rfl ?_
  refine G_istore_n C dJ6_bitCount_0f7a4_40 (by decide) [(0, .int (bc4 (bc3 (bc2 (bc1 (nI x))))))] rfl 41 rfl ?_
  refine G_iload_n C dJ6_bitCount_0f7a4_41 rfl 42 rfl ?_
  refine G_iload_n C dJ6_bitCount_0f7a4_42 rfl 43 rfl ?_
  refine G_bipush C dJ6_bitCount_0f7a4_43 (v := nI 16) (by decide) 45 rfl ?_
  refine G_iushr C dJ6_bitCount_0f7a4_45 (v := ((bc4 (bc3 (bc2 (bc1 (nI x))))).toUInt32 >>> ((nI 16).toUInt32 &&& Int32.toUInt32 31)).toInt32) rfl 46 rfl ?_
  refine G_iadd C dJ6_bitCount_0f7a4_46 (v := bc5 (bc4 (bc3 (bc2 (bc1 (nI x)))))) rfl 47 rfl ?_
  refine G_istore_n C dJ6_bitCount_0f7a4_47 (by decide) [(0, .int (bc5 (bc4 (bc3 (bc2 (bc1 (nI x)))))))] rfl 48 rfl ?_
  refine G_iload_n C dJ6_bitCount_0f7a4_48 rfl 49 rfl ?_
  refine G_bipush C dJ6_bitCount_0f7a4_49 (v := nI 63) (by decide) 51 rfl ?_
  refine G_iand C dJ6_bitCount_0f7a4_51 (v := bc6 (bc5 (bc4 (bc3 (bc2 (bc1 (nI x))))))) rfl 52 rfl ?_
  exact G_iret C hr dJ6_bitCount_0f7a4_52 rfl () trivial (by rw [bc_pcn x hx]) rfl

set_option maxHeartbeats 4000000 in
set_option maxRecDepth 100000 in
theorem c_X6_hasBit (l : Launch) (E : gE) (st x : Nat) (hst : st < 1024) (hx : x < 10) : FD l E yX6_hasBit cX6_hasBit 2 (some .boolean) { frames := 1, cells := 0, slots := 0, locals := 20 } [.int (nI st), .int (nI x)] [] (some (.int (bI (st.testBit x)))) [] := by
  refine Fn_ofL (own := RX6) (by decide) rfl rfl [(0, .int (nI st)), (1, .int (nI x))] rfl ?_
  intro p e s m below meth c A C hr hnm
  refine G_iload_n C dX6_hasBit_0 rfl 1 rfl ?_
  refine G_iload_n C dX6_hasBit_1 rfl 2 rfl ?_
  refine G_cS C dX6_hasBit_2 (c_X6_bit l E x (by first | assumption | omega)) wm_X6_182 wt_X6_bit wn_X6 wc_X6_bit rfl rfl ⟨by decide, by decide, rfl⟩ rfl (Nat.le_of_ble_eq_true rfl) [] [] (wr := []) rfl rfl rfl rfl rfl [] rfl [] rfl rfl [.int (nI (2 ^ x)), .int (nI st)] rfl 5 rfl ?_
  refine G_iand C dX6_hasBit_5 (v := nI (st &&& (2 ^ x))) (fa_and _ _) 6 rfl ?_
  refine G_if_eq C dX6_hasBit_6 13 rfl 9 rfl (n_eq0 (Nat.lt_of_le_of_lt Nat.and_le_left (by omega))) (fun h_1 => ?_) (fun h_1 => ?_)
  · refine G_iconst C dX6_hasBit_13 (v := nI 0) rfl 14 rfl ?_
    exact G_iret C hr dX6_hasBit_14 (by decide) () trivial (bI_rf ((bit_nat _ _).mp h_1)) rfl
  · refine G_iconst C dX6_hasBit_9 (v := nI 1) rfl 10 rfl ?_
    refine G_goto C dX6_hasBit_10 14 rfl ?_
    exact G_iret C hr dX6_hasBit_14 (by decide) () trivial (bI_rt (by rw [← Bool.not_eq_false, ← bit_nat]; exact h_1)) rfl

set_option maxHeartbeats 4000000 in
set_option maxRecDepth 100000 in
theorem c_X1_setOf (l : Launch) (E : gE) (fo fa : Nat) (S : Nat → Nat) (x : Nat) (hx : x < 10) : FD l E yX1_setOf cX1_setOf 2 (some .int) { frames := 0, cells := 0, slots := 0, locals := 0 } [.ref fo, .int (nI x)] [(fo, .inr (1, [.ref fa])), (fa, .inl (E.2.1, 10, .inl (aN S)))] (some (.int (nI (S x)))) [(fo, .inr (1, [.ref fa])), (fa, .inl (E.2.1, 10, .inl (aN S)))] := by
  refine Fn_ofL (own := RX1) (by decide) rfl rfl [(0, .ref fo), (1, .int (nI x))] rfl ?_
  intro p e s m below meth c A C hr hnm
  refine G_aload_n C dX1_setOf_0 rfl 1 rfl ?_
  refine G_getf C dX1_setOf_1 wF_X1 wf_X1_9 (f := 0) (by decide) (ci := 1) rfl 0 rfl rfl 4 rfl ?_
  refine G_iload_n C dX1_setOf_4 rfl 5 rfl ?_
  refine G_ialdN C dX1_setOf_5 1 rfl rfl (by omega) 6 rfl ?_
  exact G_iret C hr dX1_setOf_6 rfl () trivial rfl rfl

set_option maxHeartbeats 4000000 in
set_option maxRecDepth 100000 in
theorem c_X1_total (l : Launch) (E : gE) (fo fa : Nat) (S : Nat → Nat) (hS : sok S) : FD l E yX1_total cX1_total 3 (some .int) { frames := 1, cells := 0, slots := 0, locals := 20 } [.ref fo] [(fo, .inr (1, [.ref fa])), (fa, .inl (E.2.1, 10, .inl (aN S)))] (some (.int (nI (ftot S 10)))) [(fo, .inr (1, [.ref fa])), (fa, .inl (E.2.1, 10, .inl (aN S)))] := by
  refine Fn_ofL (own := RX1) (by decide) rfl rfl [(0, .ref fo)] rfl ?_
  intro p e s m below meth c A C hr hnm
  refine G_iconst C dX1_total_0 (v := nI 0) rfl 1 rfl ?_
  refine G_istore_n C dX1_total_1 (by decide) [(1, .int (nI 0)), (0, .ref fo)] rfl 2 rfl ?_
  refine G_iconst C dX1_total_2 (v := nI 0) rfl 3 rfl ?_
  refine G_istore_n C dX1_total_3 (by decide) [(2, .int (nI 0)), (1, .int (nI 0)), (0, .ref fo)] rfl 4 rfl ?_
  refine G_sel [1, 0, 2] [(1, .int (nI 0)), (2, .int (nI 0)), (0, .ref fo)] rfl ?_
  refine G_while (X := Nat) (Wf := fun i => [(fo, .inr (1, [.ref fa])), (fa, .inl (E.2.1, 10, .inl (aN S)))]) (Lf := fun i => [(1, .int (nI (ftot S i))), (2, .int (nI i)), (0, .ref fo)]) (Sf := fun _ => []) (fun i => i ≤ 10) (fun i => 10 - i) (fun i hi ih => ?_) 0 (by omega)
  refine G_iload_n C dX1_total_4 rfl 5 rfl ?_
  refine G_bipush C dX1_total_5 (v := nI 10) (by decide) 7 rfl ?_
  refine G_icmp_ge C dX1_total_7 28 rfl 10 rfl (nI_leI (by omega) (by omega)) (fun h_1 => ?_) (fun h_1 => ?_)
  · refine G_iload_n C dX1_total_28 rfl 29 rfl ?_
    exact G_iret C hr dX1_total_29 rfl () trivial (by rw [show i = 10 by omega]) rfl
  · refine G_iload_n C dX1_total_10 rfl 11 rfl ?_
    refine G_aload_n C dX1_total_11 rfl 12 rfl ?_
    refine G_getf C dX1_total_12 wF_X1 wf_X1_9 (f := 0) (by decide) (ci := 1) rfl 0 rfl rfl 15 rfl ?_
    refine G_iload_n C dX1_total_15 rfl 16 rfl ?_
    refine G_ialdN C dX1_total_16 1 rfl rfl (by omega) 17 rfl ?_
    refine G_cS C dX1_total_17 (c_J6_bitCount l E (S i) (hS i (by omega))) wm_X1_15 wt_J6_bitCount wn_J6 wc_J6_bitCount rfl rfl ⟨by decide, by decide, rfl⟩ rfl (Nat.le_of_ble_eq_true rfl) [] [0, 1] (wr := [(fo, .inr (1, [.ref fa])), (fa, .inl (E.2.1, 10, .inl (aN S)))]) rfl rfl rfl rfl rfl [0, 1] rfl [(fo, .inr (1, [.ref fa])), (fa, .inl (E.2.1, 10, .inl (aN S)))] rfl rfl [.int (nI (pcn (S i))), .int (nI (ftot S i))] rfl 20 rfl ?_
    refine G_iadd C dX1_total_20 (v := nI (ftot S i + (pcn (S i)))) (nI_add _ _) 21 rfl ?_
    refine G_istore_n C dX1_total_21 (by decide) [(1, .int (nI (ftot S i + (pcn (S i))))), (2, .int (nI i)), (0, .ref fo)] rfl 22 rfl ?_
    refine G_iinc C dX1_total_22 1 rfl (nI_1 _) (by decide) [(2, .int (nI (i + 1))), (1, .int (nI (ftot S i + (pcn (S i))))), (0, .ref fo)] rfl 25 rfl ?_
    refine G_goto C dX1_total_25 4 rfl ?_
    refine G_sel [1, 0, 2] [(1, .int (nI (ftot S i + (pcn (S i))))), (2, .int (nI (i + 1))), (0, .ref fo)] rfl ?_
    exact ih (i + 1) (by omega) (by omega)

set_option maxHeartbeats 4000000 in
set_option maxRecDepth 100000 in
theorem c_X1_grow (l : Launch) (E : gE) (fo fa : Nat) (S : Nat → Nat) (x b : Nat) (hx : x < 10) (hb : b < 1024) (hS : S x < 1024) : FD l E yX1_grow cX1_grow 4 (some .boolean) { frames := 0, cells := 0, slots := 0, locals := 0 } [.ref fo, .int (nI x), .int (nI b)] [(fo, .inr (1, [.ref fa])), (fa, .inl (E.2.1, 10, .inl (aN S)))] (some (.int (bI (grw (S x) b)))) [(fo, .inr (1, [.ref fa])), (fa, .inl (E.2.1, 10, .inl (aN (va_up S x (S x ||| b)))))] := by
  refine Fn_ofL (own := RX1) (by decide) rfl rfl [(0, .ref fo), (1, .int (nI x)), (2, .int (nI b))] rfl ?_
  intro p e s m below meth c A C hr hnm
  refine G_iload_n C dX1_grow_0 rfl 1 rfl ?_
  refine G_aload_n C dX1_grow_1 rfl 2 rfl ?_
  refine G_getf C dX1_grow_2 wF_X1 wf_X1_9 (f := 0) (by decide) (ci := 1) rfl 0 rfl rfl 5 rfl ?_
  refine G_iload_n C dX1_grow_5 rfl 6 rfl ?_
  refine G_ialdN C dX1_grow_6 1 rfl rfl (by omega) 7 rfl ?_
  refine G_iconst C dX1_grow_7 (v := oI none) rfl 8 rfl ?_
  refine G_ixor C dX1_grow_8 (v := (nI (S x)) ^^^ (oI none)) rfl 9 rfl ?_
  refine G_iand C dX1_grow_9 (v := (nI b) &&& ((nI (S x)) ^^^ (oI none))) rfl 10 rfl ?_
  refine G_if_eq C dX1_grow_10 17 rfl 13 rfl (grw_iff hS hb) (fun h_1 => ?_) (fun h_1 => ?_)
  · refine G_iconst C dX1_grow_17 (v := nI 0) rfl 18 rfl ?_
    refine G_istore_n C dX1_grow_18 (by decide) [(3, .int (nI 0)), (0, .ref fo), (1, .int (nI x)), (2, .int (nI b))] rfl 19 rfl ?_
    refine G_aload_n C dX1_grow_19 rfl 20 rfl ?_
    refine G_getf C dX1_grow_20 wF_X1 wf_X1_9 (f := 0) (by decide) (ci := 1) rfl 0 rfl rfl 23 rfl ?_
    refine G_iload_n C dX1_grow_23 rfl 24 rfl ?_
    refine G_dup2 C dX1_grow_24 rfl rfl 25 rfl ?_
    refine G_ialdN C dX1_grow_25 1 rfl rfl (by omega) 26 rfl ?_
    refine G_iload_n C dX1_grow_26 rfl 27 rfl ?_
    refine G_ior C dX1_grow_27 (v := nI ((S x) ||| b)) (fa_or _ _) 28 rfl ?_
    refine G_iastN C dX1_grow_28 1 rfl rfl (x := (S x) ||| b) (by omega) [(fo, .inr (1, [.ref fa])), (fa, .inl (E.2.1, 10, .inl (aN (va_up S x ((S x) ||| b)))))] rfl 29 rfl ?_
    refine G_iload_n C dX1_grow_29 rfl 30 rfl ?_
    exact G_iret C hr dX1_grow_30 (by decide) () trivial (bI_rf (by simp [grw, h_1])) rfl
  · refine G_iconst C dX1_grow_13 (v := nI 1) rfl 14 rfl ?_
    refine G_goto C dX1_grow_14 18 rfl ?_
    refine G_istore_n C dX1_grow_18 (by decide) [(3, .int (nI 1)), (0, .ref fo), (1, .int (nI x)), (2, .int (nI b))] rfl 19 rfl ?_
    refine G_aload_n C dX1_grow_19 rfl 20 rfl ?_
    refine G_getf C dX1_grow_20 wF_X1 wf_X1_9 (f := 0) (by decide) (ci := 1) rfl 0 rfl rfl 23 rfl ?_
    refine G_iload_n C dX1_grow_23 rfl 24 rfl ?_
    refine G_dup2 C dX1_grow_24 rfl rfl 25 rfl ?_
    refine G_ialdN C dX1_grow_25 1 rfl rfl (by omega) 26 rfl ?_
    refine G_iload_n C dX1_grow_26 rfl 27 rfl ?_
    refine G_ior C dX1_grow_27 (v := nI ((S x) ||| b)) (fa_or _ _) 28 rfl ?_
    refine G_iastN C dX1_grow_28 1 rfl rfl (x := (S x) ||| b) (by omega) [(fo, .inr (1, [.ref fa])), (fa, .inl (E.2.1, 10, .inl (aN (va_up S x ((S x) ||| b)))))] rfl 29 rfl ?_
    refine G_iload_n C dX1_grow_29 rfl 30 rfl ?_
    exact G_iret C hr dX1_grow_30 (by decide) () trivial (bI_rt (by simp [grw, h_1])) rfl

set_option maxHeartbeats 4000000 in
set_option maxRecDepth 100000 in
theorem c_X1_unionOver (l : Launch) (E : gE) (fo fa : Nat) (S : Nat → Nat) (nm : Nat) (hS : sok S) (hnm : nm < 1024) : FD l E yX1_unionOver cX1_unionOver 4 (some .int) { frames := 2, cells := 0, slots := 0, locals := 41 } [.ref fo, .int (nI nm)] [(fo, .inr (1, [.ref fa])), (fa, .inl (E.2.1, 10, .inl (aN S)))] (some (.int (nI (uni S nm 10)))) [(fo, .inr (1, [.ref fa])), (fa, .inl (E.2.1, 10, .inl (aN S)))] := by
  refine Fn_ofL (own := RX1) (by decide) rfl rfl [(0, .ref fo), (1, .int (nI nm))] rfl ?_
  intro p e s m below meth c A C hr hnm
  refine G_iconst C dX1_unionOver_0 (v := nI 0) rfl 1 rfl ?_
  refine G_istore_n C dX1_unionOver_1 (by decide) [(2, .int (nI 0)), (0, .ref fo), (1, .int (nI nm))] rfl 2 rfl ?_
  refine G_iconst C dX1_unionOver_2 (v := nI 0) rfl 3 rfl ?_
  refine G_istore_n C dX1_unionOver_3 (by decide) [(3, .int (nI 0)), (2, .int (nI 0)), (0, .ref fo), (1, .int (nI nm))] rfl 4 rfl ?_
  refine G_sel [1, 0, 2, 3] [(2, .int (nI 0)), (3, .int (nI 0)), (0, .ref fo), (1, .int (nI nm))] rfl ?_
  refine G_while (X := Nat) (Wf := fun i => [(fo, .inr (1, [.ref fa])), (fa, .inl (E.2.1, 10, .inl (aN S)))]) (Lf := fun i => [(2, .int (nI (uni S nm i))), (3, .int (nI i)), (0, .ref fo), (1, .int (nI nm))]) (Sf := fun _ => []) (fun i => i ≤ 10) (fun i => 10 - i) (fun i hi ih => ?_) 0 (by omega)
  refine G_iload_n C dX1_unionOver_4 rfl 5 rfl ?_
  refine G_bipush C dX1_unionOver_5 (v := nI 10) (by decide) 7 rfl ?_
  refine G_icmp_ge C dX1_unionOver_7 33 rfl 10 rfl (nI_leI (by omega) (by omega)) (fun h_1 => ?_) (fun h_1 => ?_)
  · refine G_iload_n C dX1_unionOver_33 rfl 34 rfl ?_
    exact G_iret C hr dX1_unionOver_34 rfl () trivial (by rw [show i = 10 by omega]) rfl
  · refine G_iload_n C dX1_unionOver_10 rfl 11 rfl ?_
    refine G_iload_n C dX1_unionOver_11 rfl 12 rfl ?_
    refine G_cSN C dX1_unionOver_12 (c_X6_hasBit l E nm i (by first | assumption | omega) (by first | assumption | omega)) wq_X1_59 wt_X6_hasBit wn_X6 wc_X6_hasBit rfl rfl ⟨by decide, by decide, rfl⟩ rfl (Nat.le_of_ble_eq_true rfl) [] [0, 1] (wr := [(fo, .inr (1, [.ref fa])), (fa, .inl (E.2.1, 10, .inl (aN S)))]) rfl rfl rfl rfl rfl [0, 1] rfl [(fo, .inr (1, [.ref fa])), (fa, .inl (E.2.1, 10, .inl (aN S)))] rfl rfl [.int (bI (nm.testBit i))] rfl 15 rfl ?_
    refine G_if_eq C dX1_unionOver_15 27 rfl 18 rfl (bI_0 _) (fun h_2 => ?_) (fun h_2 => ?_)
    · refine G_iinc C dX1_unionOver_27 1 rfl (nI_1 _) (by decide) [(3, .int (nI (i + 1))), (2, .int (nI (uni S nm i))), (0, .ref fo), (1, .int (nI nm))] rfl 30 rfl ?_
      refine G_goto C dX1_unionOver_30 4 rfl ?_
      refine G_sel [1, 0, 2, 3] [(2, .int (nI (uni S nm i))), (3, .int (nI (i + 1))), (0, .ref fo), (1, .int (nI nm))] rfl ?_
      refine G_eq (ws' := [(fo, .inr (1, [.ref fa])), (fa, .inl (E.2.1, 10, .inl (aN S)))]) (L' := [(2, .int (nI (uni S nm (i + 1)))), (3, .int (nI (i + 1))), (0, .ref fo), (1, .int (nI nm))]) rfl (by simp [uni, h_2]) rfl ?_
      exact ih (i + 1) (by omega) (by omega)
    · refine G_iload_n C dX1_unionOver_18 rfl 19 rfl ?_
      refine G_aload_n C dX1_unionOver_19 rfl 20 rfl ?_
      refine G_getf C dX1_unionOver_20 wF_X1 wf_X1_9 (f := 0) (by decide) (ci := 1) rfl 0 rfl rfl 23 rfl ?_
      refine G_iload_n C dX1_unionOver_23 rfl 24 rfl ?_
      refine G_ialdN C dX1_unionOver_24 1 rfl rfl (by omega) 25 rfl ?_
      refine G_ior C dX1_unionOver_25 (v := nI ((uni S nm i) ||| (S i))) (fa_or _ _) 26 rfl ?_
      refine G_istore_n C dX1_unionOver_26 (by decide) [(2, .int (nI ((uni S nm i) ||| (S i)))), (3, .int (nI i)), (0, .ref fo), (1, .int (nI nm))] rfl 27 rfl ?_
      refine G_iinc C dX1_unionOver_27 1 rfl (nI_1 _) (by decide) [(3, .int (nI (i + 1))), (2, .int (nI ((uni S nm i) ||| (S i)))), (0, .ref fo), (1, .int (nI nm))] rfl 30 rfl ?_
      refine G_goto C dX1_unionOver_30 4 rfl ?_
      refine G_sel [1, 0, 2, 3] [(2, .int (nI ((uni S nm i) ||| (S i)))), (3, .int (nI (i + 1))), (0, .ref fo), (1, .int (nI nm))] rfl ?_
      refine G_eq (ws' := [(fo, .inr (1, [.ref fa])), (fa, .inl (E.2.1, 10, .inl (aN S)))]) (L' := [(2, .int (nI (uni S nm (i + 1)))), (3, .int (nI (i + 1))), (0, .ref fo), (1, .int (nI nm))]) rfl (by simp [uni, h_2]) rfl ?_
      exact ih (i + 1) (by omega) (by omega)

set_option maxHeartbeats 4000000 in
set_option maxRecDepth 100000 in
theorem c_X1_growAll (l : Launch) (E : gE) (fo fa : Nat) (S : Nat → Nat) (nm b : Nat) (hS : sok S) (hnm : nm < 1024) (hb : b < 1024) : FD l E yX1_growAll cX1_growAll 5 (some .boolean) { frames := 2, cells := 0, slots := 0, locals := 41 } [.ref fo, .int (nI nm), .int (nI b)] [(fo, .inr (1, [.ref fa])), (fa, .inl (E.2.1, 10, .inl (aN S)))] (some (.int (bI (gaF S nm b 10)))) [(fo, .inr (1, [.ref fa])), (fa, .inl (E.2.1, 10, .inl (aN (gaS S nm b 10))))] := by
  refine Fn_ofL (own := RX1) (by decide) rfl rfl [(0, .ref fo), (1, .int (nI nm)), (2, .int (nI b))] rfl ?_
  intro p e s m below meth c A C hr hnm
  refine G_iconst C dX1_growAll_0 (v := nI 0) rfl 1 rfl ?_
  refine G_istore_n C dX1_growAll_1 (by decide) [(3, .int (nI 0)), (0, .ref fo), (1, .int (nI nm)), (2, .int (nI b))] rfl 2 rfl ?_
  refine G_iconst C dX1_growAll_2 (v := nI 0) rfl 3 rfl ?_
  refine G_istore C dX1_growAll_3 (by decide) [(4, .int (nI 0)), (3, .int (nI 0)), (0, .ref fo), (1, .int (nI nm)), (2, .int (nI b))] rfl 5 rfl ?_
  refine G_eq (ws' := [(fo, .inr (1, [.ref fa])), (fa, .inl (E.2.1, 10, .inl (aN (gaS S nm b 0))))]) (L' := [(4, .int (nI 0)), (3, .int (bI (gaF S nm b 0))), (0, .ref fo), (1, .int (nI nm)), (2, .int (nI b))]) (by rw [gaS_0]) rfl rfl ?_
  refine G_sel [1, 0, 2, 3, 4] [(3, .int (nI 0)), (4, .int (nI 0)), (0, .ref fo), (1, .int (nI nm)), (2, .int (nI b))] rfl ?_
  refine G_while (X := Nat) (Wf := fun i => [(fo, .inr (1, [.ref fa])), (fa, .inl (E.2.1, 10, .inl (aN (gaS S nm b i))))]) (Lf := fun i => [(3, .int (bI (gaF S nm b i))), (4, .int (nI i)), (0, .ref fo), (1, .int (nI nm)), (2, .int (nI b))]) (Sf := fun _ => []) (fun i => i ≤ 10) (fun i => 10 - i) (fun i hi ih => ?_) 0 (by omega)
  refine G_iload C dX1_growAll_5 rfl 7 rfl ?_
  refine G_bipush C dX1_growAll_7 (v := nI 10) (by decide) 9 rfl ?_
  refine G_icmp_ge C dX1_growAll_9 39 rfl 12 rfl (nI_leI (by omega) (by omega)) (fun h_1 => ?_) (fun h_1 => ?_)
  · refine G_iload_n C dX1_growAll_39 rfl 40 rfl ?_
    exact G_iret C hr dX1_growAll_40 (bI_nar _) () trivial (by rw [show i = 10 by omega]) (by rw [show i = 10 by omega])
  · refine G_iload_n C dX1_growAll_12 rfl 13 rfl ?_
    refine G_iload C dX1_growAll_13 rfl 15 rfl ?_
    refine G_cSN C dX1_growAll_15 (c_X6_hasBit l E nm i (by first | assumption | omega) (by first | assumption | omega)) wq_X1_59 wt_X6_hasBit wn_X6 wc_X6_hasBit rfl rfl ⟨by decide, by decide, rfl⟩ rfl (Nat.le_of_ble_eq_true rfl) [] [0, 1] (wr := [(fo, .inr (1, [.ref fa])), (fa, .inl (E.2.1, 10, .inl (aN (gaS S nm b i))))]) rfl rfl rfl rfl rfl [0, 1] rfl [(fo, .inr (1, [.ref fa])), (fa, .inl (E.2.1, 10, .inl (aN (gaS S nm b i))))] rfl rfl [.int (bI (nm.testBit i))] rfl 18 rfl ?_
    refine G_if_eq C dX1_growAll_18 33 rfl 21 rfl (bI_0 _) (fun h_2 => ?_) (fun h_2 => ?_)
    · refine G_iinc C dX1_growAll_33 1 rfl (nI_1 _) (by decide) [(4, .int (nI (i + 1))), (3, .int (bI (gaF S nm b i))), (0, .ref fo), (1, .int (nI nm)), (2, .int (nI b))] rfl 36 rfl ?_
      refine G_goto C dX1_growAll_36 5 rfl ?_
      refine G_sel [1, 0, 2, 3, 4] [(3, .int (bI (gaF S nm b i))), (4, .int (nI (i + 1))), (0, .ref fo), (1, .int (nI nm)), (2, .int (nI b))] rfl ?_
      refine G_eq (ws' := [(fo, .inr (1, [.ref fa])), (fa, .inl (E.2.1, 10, .inl (aN (gaS S nm b (i + 1)))))]) (L' := [(3, .int (bI (gaF S nm b (i + 1)))), (4, .int (nI (i + 1))), (0, .ref fo), (1, .int (nI nm)), (2, .int (nI b))]) (by rw [← gaS_s0 _ _ _ _ h_2]) (by simp [gaF, h_2, bI]) rfl ?_
      exact ih (i + 1) (by omega) (by omega)
    · refine G_aload_n C dX1_growAll_21 rfl 22 rfl ?_
      refine G_iload C dX1_growAll_22 rfl 24 rfl ?_
      refine G_iload_n C dX1_growAll_24 rfl 25 rfl ?_
      refine G_cV C dX1_growAll_25 (c_X1_grow l E fo fa (gaS S nm b i) i b (by first | assumption | omega) (by first | assumption | omega) (by rw [gaS_at]; exact hS i (by omega))) wm_X1_49 wi_X1_grow wsel_X1_grow wn_X1 wc_X1_grow rfl rfl ⟨by decide, by decide, rfl⟩ rfl (Nat.le_of_ble_eq_true rfl) 1 rfl rfl 0 rfl [0, 1] [] (wr := []) rfl rfl rfl rfl rfl [0, 1] rfl [(fo, .inr (1, [.ref fa])), (fa, .inl (E.2.1, 10, .inl (aN (va_up (gaS S nm b i) i ((gaS S nm b i) i ||| b)))))] rfl rfl [.int (bI (grw ((gaS S nm b i) i) b))] rfl 28 rfl ?_
      refine G_if_eq C dX1_growAll_28 33 rfl 31 rfl (show bI (grw (gaS S nm b i i) b) = 0 ↔ grw (S i) b = false by rw [gaS_at]; exact bI_0 _) (fun h_3 => ?_) (fun h_3 => ?_)
      · refine G_iinc C dX1_growAll_33 1 rfl (nI_1 _) (by decide) [(4, .int (nI (i + 1))), (3, .int (bI (gaF S nm b i))), (0, .ref fo), (1, .int (nI nm)), (2, .int (nI b))] rfl 36 rfl ?_
        refine G_goto C dX1_growAll_36 5 rfl ?_
        refine G_sel [1, 0, 2, 3, 4] [(3, .int (bI (gaF S nm b i))), (4, .int (nI (i + 1))), (0, .ref fo), (1, .int (nI nm)), (2, .int (nI b))] rfl ?_
        refine G_eq (ws' := [(fo, .inr (1, [.ref fa])), (fa, .inl (E.2.1, 10, .inl (aN (gaS S nm b (i + 1)))))]) (L' := [(3, .int (bI (gaF S nm b (i + 1)))), (4, .int (nI (i + 1))), (0, .ref fo), (1, .int (nI nm)), (2, .int (nI b))]) (by rw [gaS_s1 _ _ _ _ (by simpa using h_2)]) (by simp [gaF, h_2, h_3, bI]) rfl ?_
        exact ih (i + 1) (by omega) (by omega)
      · refine G_iconst C dX1_growAll_31 (v := nI 1) rfl 32 rfl ?_
        refine G_istore_n C dX1_growAll_32 (by decide) [(3, .int (nI 1)), (4, .int (nI i)), (0, .ref fo), (1, .int (nI nm)), (2, .int (nI b))] rfl 33 rfl ?_
        refine G_iinc C dX1_growAll_33 1 rfl (nI_1 _) (by decide) [(4, .int (nI (i + 1))), (3, .int (nI 1)), (0, .ref fo), (1, .int (nI nm)), (2, .int (nI b))] rfl 36 rfl ?_
        refine G_goto C dX1_growAll_36 5 rfl ?_
        refine G_sel [1, 0, 2, 3, 4] [(3, .int (nI 1)), (4, .int (nI (i + 1))), (0, .ref fo), (1, .int (nI nm)), (2, .int (nI b))] rfl ?_
        refine G_eq (ws' := [(fo, .inr (1, [.ref fa])), (fa, .inl (E.2.1, 10, .inl (aN (gaS S nm b (i + 1)))))]) (L' := [(3, .int (bI (gaF S nm b (i + 1)))), (4, .int (nI (i + 1))), (0, .ref fo), (1, .int (nI nm)), (2, .int (nI b))]) (by rw [gaS_s1 _ _ _ _ (by simpa using h_2)]) (by simp [gaF, h_2, h_3, bI]) rfl ?_
        exact ih (i + 1) (by omega) (by omega)

set_option maxHeartbeats 4000000 in
set_option maxRecDepth 100000 in
theorem c_X1_apply (l : Launch) (E : gE) (fo fa : Nat) (S : Nat → Nat) (o a n : Nat) (Cd : Nat → Nat) (i v : Nat) (hS : sok S) (hi : i < 14) (hc : Cd i = ce v) (hv : v < 400) : FD l E yX1_apply cX1_apply 5 (some .boolean) { frames := 3, cells := 0, slots := 0, locals := 65 } [.ref fo, .ref o, .int (nI i)] [(fo, .inr (1, [.ref fa])), (fa, .inl (E.2.1, 10, .inl (aN S))), (o, .inr (2, [.ref a, .int (nI n)])), (a, .inl (E.2.1, 14, .inl (aN Cd)))] (some (.int (bI (fF v S)))) [(fo, .inr (1, [.ref fa])), (fa, .inl (E.2.1, 10, .inl (aN (fS v S)))), (o, .inr (2, [.ref a, .int (nI n)])), (a, .inl (E.2.1, 14, .inl (aN Cd)))] := by
  refine Fn_ofL (own := RX1) (by decide) rfl rfl [(0, .ref fo), (1, .ref o), (2, .int (nI i))] rfl ?_
  intro p e s m below meth c A C hr hnm
  refine G_aload_n C dX1_apply_0 rfl 1 rfl ?_
  refine G_iload_n C dX1_apply_1 rfl 2 rfl ?_
  refine G_cV C dX1_apply_2 (c_X2_leftAt l E o a n Cd i v (by first | assumption | omega) (by first | assumption | omega) (by first | assumption | omega)) wm_X1_37 wi_X2_leftAt wsel_X2_leftAt wn_X2 wc_X2_leftAt rfl rfl ⟨by decide, by decide, rfl⟩ rfl (Nat.le_of_ble_eq_true rfl) 2 rfl rfl 0 rfl [2, 3] [0, 1] (wr := [(fo, .inr (1, [.ref fa])), (fa, .inl (E.2.1, 10, .inl (aN S)))]) rfl rfl rfl rfl rfl [0, 1, 2, 3] rfl [(fo, .inr (1, [.ref fa])), (fa, .inl (E.2.1, 10, .inl (aN S))), (o, .inr (2, [.ref a, .int (nI n)])), (a, .inl (E.2.1, 14, .inl (aN Cd)))] rfl rfl [.int (nI (v / 10 % 10))] rfl 5 rfl ?_
  refine G_istore_n C dX1_apply_5 (by decide) [(3, .int (nI (v / 10 % 10))), (0, .ref fo), (1, .ref o), (2, .int (nI i))] rfl 6 rfl ?_
  refine G_aload_n C dX1_apply_6 rfl 7 rfl ?_
  refine G_iload_n C dX1_apply_7 rfl 8 rfl ?_
  refine G_cV C dX1_apply_8 (c_X2_rightAt l E o a n Cd i v (by first | assumption | omega) (by first | assumption | omega) (by first | assumption | omega)) wm_X1_40 wi_X2_rightAt wsel_X2_rightAt wn_X2 wc_X2_rightAt rfl rfl ⟨by decide, by decide, rfl⟩ rfl (Nat.le_of_ble_eq_true rfl) 2 rfl rfl 0 rfl [2, 3] [0, 1] (wr := [(fo, .inr (1, [.ref fa])), (fa, .inl (E.2.1, 10, .inl (aN S)))]) rfl rfl rfl rfl rfl [0, 1, 2, 3] rfl [(fo, .inr (1, [.ref fa])), (fa, .inl (E.2.1, 10, .inl (aN S))), (o, .inr (2, [.ref a, .int (nI n)])), (a, .inl (E.2.1, 14, .inl (aN Cd)))] rfl rfl [.int (nI (v % 10))] rfl 11 rfl ?_
  refine G_istore C dX1_apply_11 (by decide) [(4, .int (nI (v % 10))), (3, .int (nI (v / 10 % 10))), (0, .ref fo), (1, .ref o), (2, .int (nI i))] rfl 13 rfl ?_
  refine G_aload_n C dX1_apply_13 rfl 14 rfl ?_
  refine G_iload_n C dX1_apply_14 rfl 15 rfl ?_
  refine G_cV C dX1_apply_15 (c_X2_sortAt l E o a n Cd i v (by first | assumption | omega) (by first | assumption | omega) (by first | assumption | omega)) wm_X1_43 wi_X2_sortAt wsel_X2_sortAt wn_X2 wc_X2_sortAt rfl rfl ⟨by decide, by decide, rfl⟩ rfl (Nat.le_of_ble_eq_true rfl) 2 rfl rfl 0 rfl [2, 3] [0, 1] (wr := [(fo, .inr (1, [.ref fa])), (fa, .inl (E.2.1, 10, .inl (aN S)))]) rfl rfl rfl rfl rfl [0, 1, 2, 3] rfl [(fo, .inr (1, [.ref fa])), (fa, .inl (E.2.1, 10, .inl (aN S))), (o, .inr (2, [.ref a, .int (nI n)])), (a, .inl (E.2.1, 14, .inl (aN Cd)))] rfl rfl [.int (nI (v / 100))] rfl 18 rfl ?_
  rcases (show v / 100 = 0 ∨ v / 100 = 1 ∨ v / 100 = 2 ∨ v / 100 = 3 by omega) with hs_1 | hs_1 | hs_1 | hs_1
  · refine G_top (v' := .int (nI 0)) (by rw [hs_1]) ?_
    refine G_tabIn C dX1_apply_18 (26) (by decide) (by decide) rfl 44 rfl ?_
    refine G_aload_n C dX1_apply_44 rfl 45 rfl ?_
    refine G_iload_n C dX1_apply_45 rfl 46 rfl ?_
    refine G_iload C dX1_apply_46 rfl 48 rfl ?_
    refine G_cSN C dX1_apply_48 (c_X6_bit l E (v % 10) (by first | assumption | omega)) wq_X1_46 wt_X6_bit wn_X6 wc_X6_bit rfl rfl ⟨by decide, by decide, rfl⟩ rfl (Nat.le_of_ble_eq_true rfl) [] [0, 1, 2, 3] (wr := [(fo, .inr (1, [.ref fa])), (fa, .inl (E.2.1, 10, .inl (aN S))), (o, .inr (2, [.ref a, .int (nI n)])), (a, .inl (E.2.1, 14, .inl (aN Cd)))]) rfl rfl rfl rfl rfl [0, 1, 2, 3] rfl [(fo, .inr (1, [.ref fa])), (fa, .inl (E.2.1, 10, .inl (aN S))), (o, .inr (2, [.ref a, .int (nI n)])), (a, .inl (E.2.1, 14, .inl (aN Cd)))] rfl rfl [.int (nI (2 ^ (v % 10))), .int (nI (v / 10 % 10)), .ref fo] rfl 51 rfl ?_
    refine G_cV C dX1_apply_51 (c_X1_grow l E fo fa S (v / 10 % 10) (2 ^ (v % 10)) (by first | assumption | omega) (pow_lt10 (by omega)) (hS _ (by omega))) wm_X1_49 wi_X1_grow wsel_X1_grow wn_X1 wc_X1_grow rfl rfl ⟨by decide, by decide, rfl⟩ rfl (Nat.le_of_ble_eq_true rfl) 1 rfl rfl 0 rfl [0, 1] [2, 3] (wr := [(o, .inr (2, [.ref a, .int (nI n)])), (a, .inl (E.2.1, 14, .inl (aN Cd)))]) rfl rfl rfl rfl rfl [2, 3, 0, 1] rfl [(fo, .inr (1, [.ref fa])), (fa, .inl (E.2.1, 10, .inl (aN (va_up S (v / 10 % 10) (S (v / 10 % 10) ||| (2 ^ (v % 10))))))), (o, .inr (2, [.ref a, .int (nI n)])), (a, .inl (E.2.1, 14, .inl (aN Cd)))] rfl rfl [.int (bI (grw (S (v / 10 % 10)) (2 ^ (v % 10))))] rfl 54 rfl ?_
    exact G_iret C hr dX1_apply_54 (bI_nar _) () trivial (by simp [fF, hs_1]) (by simp [fS, hs_1])
  · refine G_top (v' := .int (nI 1)) (by rw [hs_1]) ?_
    refine G_tabIn C dX1_apply_18 (37) (by decide) (by decide) rfl 55 rfl ?_
    refine G_aload_n C dX1_apply_55 rfl 56 rfl ?_
    refine G_iload_n C dX1_apply_56 rfl 57 rfl ?_
    refine G_aload_n C dX1_apply_57 rfl 58 rfl ?_
    refine G_getf C dX1_apply_58 wF_X1 wf_X1_9 (f := 0) (by decide) (ci := 1) rfl 0 rfl rfl 61 rfl ?_
    refine G_iload C dX1_apply_61 rfl 63 rfl ?_
    refine G_ialdN C dX1_apply_63 1 rfl rfl (by omega) 64 rfl ?_
    refine G_cV C dX1_apply_64 (c_X1_grow l E fo fa S (v / 10 % 10) (S (v % 10)) (by first | assumption | omega) (hS _ (by omega)) (hS _ (by omega))) wm_X1_49 wi_X1_grow wsel_X1_grow wn_X1 wc_X1_grow rfl rfl ⟨by decide, by decide, rfl⟩ rfl (Nat.le_of_ble_eq_true rfl) 1 rfl rfl 0 rfl [0, 1] [2, 3] (wr := [(o, .inr (2, [.ref a, .int (nI n)])), (a, .inl (E.2.1, 14, .inl (aN Cd)))]) rfl rfl rfl rfl rfl [2, 3, 0, 1] rfl [(fo, .inr (1, [.ref fa])), (fa, .inl (E.2.1, 10, .inl (aN (va_up S (v / 10 % 10) (S (v / 10 % 10) ||| (S (v % 10))))))), (o, .inr (2, [.ref a, .int (nI n)])), (a, .inl (E.2.1, 14, .inl (aN Cd)))] rfl rfl [.int (bI (grw (S (v / 10 % 10)) (S (v % 10))))] rfl 67 rfl ?_
    exact G_iret C hr dX1_apply_67 (bI_nar _) () trivial (by simp [fF, hs_1]) (by simp [fS, hs_1])
  · refine G_top (v' := .int (nI 2)) (by rw [hs_1]) ?_
    refine G_tabIn C dX1_apply_18 (50) (by decide) (by decide) rfl 68 rfl ?_
    refine G_aload_n C dX1_apply_68 rfl 69 rfl ?_
    refine G_iload_n C dX1_apply_69 rfl 70 rfl ?_
    refine G_aload_n C dX1_apply_70 rfl 71 rfl ?_
    refine G_aload_n C dX1_apply_71 rfl 72 rfl ?_
    refine G_getf C dX1_apply_72 wF_X1 wf_X1_9 (f := 0) (by decide) (ci := 1) rfl 0 rfl rfl 75 rfl ?_
    refine G_iload C dX1_apply_75 rfl 77 rfl ?_
    refine G_ialdN C dX1_apply_77 1 rfl rfl (by omega) 78 rfl ?_
    refine G_cV C dX1_apply_78 (c_X1_unionOver l E fo fa S (S (v % 10)) (by first | assumption | omega) (hS _ (by omega))) wm_X1_53 wi_X1_unionOver wsel_X1_unionOver wn_X1 wc_X1_unionOver rfl rfl ⟨by decide, by decide, rfl⟩ rfl (Nat.le_of_ble_eq_true rfl) 1 rfl rfl 0 rfl [0, 1] [2, 3] (wr := [(o, .inr (2, [.ref a, .int (nI n)])), (a, .inl (E.2.1, 14, .inl (aN Cd)))]) rfl rfl rfl rfl rfl [2, 3, 0, 1] rfl [(fo, .inr (1, [.ref fa])), (fa, .inl (E.2.1, 10, .inl (aN S))), (o, .inr (2, [.ref a, .int (nI n)])), (a, .inl (E.2.1, 14, .inl (aN Cd)))] rfl rfl [.int (nI (uni S (S (v % 10)) 10)), .int (nI (v / 10 % 10)), .ref fo] rfl 81 rfl ?_
    refine G_cV C dX1_apply_81 (c_X1_grow l E fo fa S (v / 10 % 10) (uni S (S (v % 10)) 10) (by first | assumption | omega) (uni_lt hS _ 10 (by omega)) (hS _ (by omega))) wm_X1_49 wi_X1_grow wsel_X1_grow wn_X1 wc_X1_grow rfl rfl ⟨by decide, by decide, rfl⟩ rfl (Nat.le_of_ble_eq_true rfl) 1 rfl rfl 0 rfl [0, 1] [2, 3] (wr := [(o, .inr (2, [.ref a, .int (nI n)])), (a, .inl (E.2.1, 14, .inl (aN Cd)))]) rfl rfl rfl rfl rfl [2, 3, 0, 1] rfl [(fo, .inr (1, [.ref fa])), (fa, .inl (E.2.1, 10, .inl (aN (va_up S (v / 10 % 10) (S (v / 10 % 10) ||| (uni S (S (v % 10)) 10)))))), (o, .inr (2, [.ref a, .int (nI n)])), (a, .inl (E.2.1, 14, .inl (aN Cd)))] rfl rfl [.int (bI (grw (S (v / 10 % 10)) (uni S (S (v % 10)) 10)))] rfl 84 rfl ?_
    exact G_iret C hr dX1_apply_84 (bI_nar _) () trivial (by simp [fF, hs_1]) (by simp [fS, hs_1])
  · refine G_top (v' := .int (nI 3)) (by rw [hs_1]) ?_
    refine G_tabOut C dX1_apply_18 (by decide) 85 rfl ?_
    refine G_aload_n C dX1_apply_85 rfl 86 rfl ?_
    refine G_aload_n C dX1_apply_86 rfl 87 rfl ?_
    refine G_getf C dX1_apply_87 wF_X1 wf_X1_9 (f := 0) (by decide) (ci := 1) rfl 0 rfl rfl 90 rfl ?_
    refine G_iload_n C dX1_apply_90 rfl 91 rfl ?_
    refine G_ialdN C dX1_apply_91 1 rfl rfl (by omega) 92 rfl ?_
    refine G_aload_n C dX1_apply_92 rfl 93 rfl ?_
    refine G_getf C dX1_apply_93 wF_X1 wf_X1_9 (f := 0) (by decide) (ci := 1) rfl 0 rfl rfl 96 rfl ?_
    refine G_iload C dX1_apply_96 rfl 98 rfl ?_
    refine G_ialdN C dX1_apply_98 1 rfl rfl (by omega) 99 rfl ?_
    refine G_cV C dX1_apply_99 (c_X1_growAll l E fo fa S (S (v / 10 % 10)) (S (v % 10)) (by first | assumption | omega) (hS _ (by omega)) (hS _ (by omega))) wm_X1_56 wi_X1_growAll wsel_X1_growAll wn_X1 wc_X1_growAll rfl rfl ⟨by decide, by decide, rfl⟩ rfl (Nat.le_of_ble_eq_true rfl) 1 rfl rfl 0 rfl [0, 1] [2, 3] (wr := [(o, .inr (2, [.ref a, .int (nI n)])), (a, .inl (E.2.1, 14, .inl (aN Cd)))]) rfl rfl rfl rfl rfl [2, 3, 0, 1] rfl [(fo, .inr (1, [.ref fa])), (fa, .inl (E.2.1, 10, .inl (aN (gaS S (S (v / 10 % 10)) (S (v % 10)) 10)))), (o, .inr (2, [.ref a, .int (nI n)])), (a, .inl (E.2.1, 14, .inl (aN Cd)))] rfl rfl [.int (bI (gaF S (S (v / 10 % 10)) (S (v % 10)) 10))] rfl 102 rfl ?_
    exact G_iret C hr dX1_apply_102 (bI_nar _) () trivial (by simp [fF, hs_1]) (by simp [fS, hs_1])

set_option maxHeartbeats 4000000 in
set_option maxRecDepth 100000 in
theorem c_X1_solve (l : Launch) (E : gE) (fo fa : Nat) (S : Nat → Nat) (o a n : Nat) (Cd : Nat → Nat) (ln : Nat → Nat) (lo : Option Nat) (hok : lok n ln Cd) (hlo : ∀ g, lo = some g → g < 2 ^ 31) : FD l E yX1_solve cX1_solve 6 none { frames := 4, cells := 0, slots := 0, locals := 89 } [.ref fo, .ref o, .int (oI lo)] [(fo, .inr (1, [.ref fa])), (fa, .inl (E.2.1, 10, .inl (aN S))), (o, .inr (2, [.ref a, .int (nI n)])), (a, .inl (E.2.1, 14, .inl (aN Cd)))] none [(fo, .inr (1, [.ref fa])), (fa, .inl (E.2.1, 10, .inl (aN (fineC ln n lo)))), (o, .inr (2, [.ref a, .int (nI n)])), (a, .inl (E.2.1, 14, .inl (aN Cd)))] := by
  refine Fn_ofL (own := RX1) (by decide) rfl rfl [(0, .ref fo), (1, .ref o), (2, .int (oI lo))] rfl ?_
  intro p e s m below meth c A C hr hnm
  have h14 : n ≤ 14 := hok.n
  refine G_aload_n C dX1_solve_0 rfl 1 rfl ?_
  refine G_getf C dX1_solve_1 wF_X1 wf_X1_9 (f := 0) (by decide) (ci := 1) rfl 0 rfl rfl 4 rfl ?_
  refine G_iconst C dX1_solve_4 (v := nI 0) rfl 5 rfl ?_
  refine G_cS C dX1_solve_5 (c_J7_fill l E fa 10 (aN S) (nI 0) (by decide)) wm_X1_21 wt_J7_fill wn_J7 wc_J7_fill rfl rfl ⟨by decide, by decide, rfl⟩ rfl (Nat.le_of_ble_eq_true rfl) [1] [0, 2, 3] (wr := [(fo, .inr (1, [.ref fa])), (o, .inr (2, [.ref a, .int (nI n)])), (a, .inl (E.2.1, 14, .inl (aN Cd)))]) rfl rfl rfl rfl rfl [0, 3, 1, 2] rfl [(fo, .inr (1, [.ref fa])), (fa, .inl (E.2.1, 10, .inl (fun _ => (nI 0)))), (o, .inr (2, [.ref a, .int (nI n)])), (a, .inl (E.2.1, 14, .inl (aN Cd)))] rfl rfl [] rfl 8 rfl ?_
  refine G_eq (ws' := [(fo, .inr (1, [.ref fa])), (fa, .inl (E.2.1, 10, .inl (aN (fun _ => 0)))), (o, .inr (2, [.ref a, .int (nI n)])), (a, .inl (E.2.1, 14, .inl (aN Cd)))]) rfl rfl rfl ?_
  refine G_iconst C dX1_solve_8 (v := nI 1) rfl 9 rfl ?_
  refine G_istore_n C dX1_solve_9 (by decide) [(3, .int (nI 1)), (0, .ref fo), (1, .ref o), (2, .int (oI lo))] rfl 10 rfl ?_
  refine G_iconst C dX1_solve_10 (v := nI 0) rfl 11 rfl ?_
  refine G_istore C dX1_solve_11 (by decide) [(4, .int (nI 0)), (3, .int (nI 1)), (0, .ref fo), (1, .ref o), (2, .int (oI lo))] rfl 13 rfl ?_
  refine G_eq (ws' := [(fo, .inr (1, [.ref fa])), (fa, .inl (E.2.1, 10, .inl (aN ((fit ln n lo 0).1)))), (o, .inr (2, [.ref a, .int (nI n)])), (a, .inl (E.2.1, 14, .inl (aN Cd)))]) (L' := [(4, .int (nI 0)), (3, .int (bI ((fit ln n lo 0).2))), (0, .ref fo), (1, .ref o), (2, .int (oI lo))]) rfl rfl rfl ?_
  refine G_sel [1, 0, 2, 3, 4] [(3, .int (nI 1)), (4, .int (nI 0)), (0, .ref fo), (1, .ref o), (2, .int (oI lo))] rfl ?_
  refine G_while (X := Nat) (Wf := fun j => [(fo, .inr (1, [.ref fa])), (fa, .inl (E.2.1, 10, .inl (aN ((fit ln n lo j).1)))), (o, .inr (2, [.ref a, .int (nI n)])), (a, .inl (E.2.1, 14, .inl (aN Cd)))]) (Lf := fun j => [(3, .int (bI ((fit ln n lo j).2))), (4, .int (nI j)), (0, .ref fo), (1, .ref o), (2, .int (oI lo))]) (Sf := fun _ => []) (fun j => j ≤ 101) (fun j => 101 - j) (fun j hj ihj => ?_) 0 (by omega)
  refine G_iload C dX1_solve_13 rfl 15 rfl ?_
  refine G_bipush C dX1_solve_15 (v := nI 100) (by decide) 17 rfl ?_
  refine G_icmp_gt C dX1_solve_17 68 rfl 20 rfl (nI_ltI (by omega) (by omega)) (fun h_1 => ?_) (fun h_1 => ?_)
  · exact G_vret C hr dX1_solve_68 () trivial rfl (by first | (rw [show j = 101 by omega]; rfl) | (have e := fit_stay h_2 (101 - j); rw [show j + (101 - j) = 101 by omega] at e; simp only [fineC, e]))
  · refine G_iload_n C dX1_solve_20 rfl 21 rfl ?_
    refine G_if_eq C dX1_solve_21 68 rfl 24 rfl (bI_0 _) (fun h_2 => ?_) (fun h_2 => ?_)
    · exact G_vret C hr dX1_solve_68 () trivial rfl (by first | (rw [show j = 101 by omega]; rfl) | (have e := fit_stay h_2 (101 - j); rw [show j + (101 - j) = 101 by omega] at e; simp only [fineC, e]))
    · refine G_iconst C dX1_solve_24 (v := nI 0) rfl 25 rfl ?_
      refine G_istore_n C dX1_solve_25 (by decide) [(3, .int (nI 0)), (4, .int (nI j)), (0, .ref fo), (1, .ref o), (2, .int (oI lo))] rfl 26 rfl ?_
      refine G_iconst C dX1_solve_26 (v := nI 0) rfl 27 rfl ?_
      refine G_istore C dX1_solve_27 (by decide) [(5, .int (nI 0)), (3, .int (nI 0)), (4, .int (nI j)), (0, .ref fo), (1, .ref o), (2, .int (oI lo))] rfl 29 rfl ?_
      refine G_eq (ws' := [(fo, .inr (1, [.ref fa])), (fa, .inl (E.2.1, 10, .inl (aN ((fp ln lo (fit ln n lo j).1 0).1)))), (o, .inr (2, [.ref a, .int (nI n)])), (a, .inl (E.2.1, 14, .inl (aN Cd)))]) (L' := [(5, .int (nI 0)), (3, .int (bI ((fp ln lo (fit ln n lo j).1 0).2))), (4, .int (nI j)), (0, .ref fo), (1, .ref o), (2, .int (oI lo))]) rfl rfl rfl ?_
      refine G_sel [1, 0, 2, 3, 4, 5] [(3, .int (nI 0)), (5, .int (nI 0)), (4, .int (nI j)), (0, .ref fo), (1, .ref o), (2, .int (oI lo))] rfl ?_
      refine G_while (X := Nat) (Wf := fun i => [(fo, .inr (1, [.ref fa])), (fa, .inl (E.2.1, 10, .inl (aN ((fp ln lo (fit ln n lo j).1 i).1)))), (o, .inr (2, [.ref a, .int (nI n)])), (a, .inl (E.2.1, 14, .inl (aN Cd)))]) (Lf := fun i => [(3, .int (bI ((fp ln lo (fit ln n lo j).1 i).2))), (5, .int (nI i)), (4, .int (nI j)), (0, .ref fo), (1, .ref o), (2, .int (oI lo))]) (Sf := fun _ => []) (fun i => i ≤ n) (fun i => n - i) (fun i hi ih => ?_) 0 (by omega)
      refine G_iload C dX1_solve_29 rfl 31 rfl ?_
      refine G_aload_n C dX1_solve_31 rfl 32 rfl ?_
      refine G_cV C dX1_solve_32 (c_X2_size l E o a n Cd ) wm_X1_27 wi_X2_size wsel_X2_size wn_X2 wc_X2_size rfl rfl ⟨by decide, by decide, rfl⟩ rfl (Nat.le_of_ble_eq_true rfl) 2 rfl rfl 0 rfl [2, 3] [0, 1] (wr := [(fo, .inr (1, [.ref fa])), (fa, .inl (E.2.1, 10, .inl (aN ((fp ln lo (fit ln n lo j).1 i).1))))]) rfl rfl rfl rfl rfl [0, 1, 2, 3] rfl [(fo, .inr (1, [.ref fa])), (fa, .inl (E.2.1, 10, .inl (aN ((fp ln lo (fit ln n lo j).1 i).1)))), (o, .inr (2, [.ref a, .int (nI n)])), (a, .inl (E.2.1, 14, .inl (aN Cd)))] rfl rfl [.int (nI n), .int (nI i)] rfl 35 rfl ?_
      refine G_icmp_ge C dX1_solve_35 62 rfl 38 rfl (nI_leI (by omega) (by omega)) (fun h_3 => ?_) (fun h_3 => ?_)
      · refine G_iinc C dX1_solve_62 2 rfl (nI_1 _) (by decide) [(4, .int (nI (j + 1))), (3, .int (bI ((fp ln lo (fit ln n lo j).1 i).2))), (5, .int (nI i)), (0, .ref fo), (1, .ref o), (2, .int (oI lo))] rfl 65 rfl ?_
        refine G_goto C dX1_solve_65 13 rfl ?_
        refine G_sel [1, 0, 3, 4, 5] [(3, .int (bI ((fp ln lo (fit ln n lo j).1 i).2))), (4, .int (nI (j + 1))), (0, .ref fo), (1, .ref o), (2, .int (oI lo))] rfl ?_
        refine G_eq (ws' := [(fo, .inr (1, [.ref fa])), (fa, .inl (E.2.1, 10, .inl (aN ((fit ln n lo (j + 1)).1)))), (o, .inr (2, [.ref a, .int (nI n)])), (a, .inl (E.2.1, 14, .inl (aN Cd)))]) (L' := [(3, .int (bI ((fit ln n lo (j + 1)).2))), (4, .int (nI (j + 1))), (0, .ref fo), (1, .ref o), (2, .int (oI lo))]) (by simp only [fit]; rw [if_pos (by simpa using h_2), show i = n by omega]) (by simp only [fit]; rw [if_pos (by simpa using h_2), show i = n by omega]) rfl ?_
        exact ihj (j + 1) (by omega) (by omega)
      · refine G_iload C dX1_solve_38 rfl 40 rfl ?_
        refine G_iload_n C dX1_solve_40 rfl 41 rfl ?_
        refine G_icmp_eq C dX1_solve_41 56 rfl 44 rfl (oI_eq (t := some i) (u := lo) (fun _ h => (by cases h; omega)) hlo) (fun h_4 => ?_) (fun h_4 => ?_)
        · refine G_iinc C dX1_solve_56 1 rfl (nI_1 _) (by decide) [(5, .int (nI (i + 1))), (3, .int (bI ((fp ln lo (fit ln n lo j).1 i).2))), (4, .int (nI j)), (0, .ref fo), (1, .ref o), (2, .int (oI lo))] rfl 59 rfl ?_
          refine G_goto C dX1_solve_59 29 rfl ?_
          refine G_sel [1, 0, 2, 3, 4, 5] [(3, .int (bI ((fp ln lo (fit ln n lo j).1 i).2))), (5, .int (nI (i + 1))), (4, .int (nI j)), (0, .ref fo), (1, .ref o), (2, .int (oI lo))] rfl ?_
          refine G_eq (ws' := [(fo, .inr (1, [.ref fa])), (fa, .inl (E.2.1, 10, .inl (aN ((fp ln lo (fit ln n lo j).1 (i + 1)).1)))), (o, .inr (2, [.ref a, .int (nI n)])), (a, .inl (E.2.1, 14, .inl (aN Cd)))]) (L' := [(3, .int (bI ((fp ln lo (fit ln n lo j).1 (i + 1)).2))), (5, .int (nI (i + 1))), (4, .int (nI j)), (0, .ref fo), (1, .ref o), (2, .int (oI lo))]) (by simp [fp, h_4]) (by simp [fp, h_4]) rfl ?_
          exact ih (i + 1) (by omega) (by omega)
        · refine G_aload_n C dX1_solve_44 rfl 45 rfl ?_
          refine G_aload_n C dX1_solve_45 rfl 46 rfl ?_
          refine G_iload C dX1_solve_46 rfl 48 rfl ?_
          refine G_cV C dX1_solve_48 (c_X1_apply l E fo fa ((fp ln lo (fit ln n lo j).1 i).1) o a n Cd i (ln i) (sok_fp (sok_fit j) i) (by omega) (hok.c (by omega)) (hok.v (by omega))) wm_X1_33 wi_X1_apply wsel_X1_apply wn_X1 wc_X1_apply rfl rfl ⟨by decide, by decide, rfl⟩ rfl (Nat.le_of_ble_eq_true rfl) 1 rfl rfl 0 rfl [0, 1, 2, 3] [] (wr := []) rfl rfl rfl rfl rfl [0, 1, 2, 3] rfl [(fo, .inr (1, [.ref fa])), (fa, .inl (E.2.1, 10, .inl (aN (fS (ln i) ((fp ln lo (fit ln n lo j).1 i).1))))), (o, .inr (2, [.ref a, .int (nI n)])), (a, .inl (E.2.1, 14, .inl (aN Cd)))] rfl rfl [.int (bI (fF (ln i) ((fp ln lo (fit ln n lo j).1 i).1)))] rfl 51 rfl ?_
          refine G_if_eq C dX1_solve_51 56 rfl 54 rfl (bI_0 _) (fun h_5 => ?_) (fun h_5 => ?_)
          · refine G_iinc C dX1_solve_56 1 rfl (nI_1 _) (by decide) [(5, .int (nI (i + 1))), (3, .int (bI ((fp ln lo (fit ln n lo j).1 i).2))), (4, .int (nI j)), (0, .ref fo), (1, .ref o), (2, .int (oI lo))] rfl 59 rfl ?_
            refine G_goto C dX1_solve_59 29 rfl ?_
            refine G_sel [1, 0, 2, 3, 4, 5] [(3, .int (bI ((fp ln lo (fit ln n lo j).1 i).2))), (5, .int (nI (i + 1))), (4, .int (nI j)), (0, .ref fo), (1, .ref o), (2, .int (oI lo))] rfl ?_
            refine G_eq (ws' := [(fo, .inr (1, [.ref fa])), (fa, .inl (E.2.1, 10, .inl (aN ((fp ln lo (fit ln n lo j).1 (i + 1)).1)))), (o, .inr (2, [.ref a, .int (nI n)])), (a, .inl (E.2.1, 14, .inl (aN Cd)))]) (L' := [(3, .int (bI ((fp ln lo (fit ln n lo j).1 (i + 1)).2))), (5, .int (nI (i + 1))), (4, .int (nI j)), (0, .ref fo), (1, .ref o), (2, .int (oI lo))]) (by simp [fp, h_4]) (by simp [fp, h_4, h_5, bI]) rfl ?_
            exact ih (i + 1) (by omega) (by omega)
          · refine G_iconst C dX1_solve_54 (v := nI 1) rfl 55 rfl ?_
            refine G_istore_n C dX1_solve_55 (by decide) [(3, .int (nI 1)), (5, .int (nI i)), (4, .int (nI j)), (0, .ref fo), (1, .ref o), (2, .int (oI lo))] rfl 56 rfl ?_
            refine G_iinc C dX1_solve_56 1 rfl (nI_1 _) (by decide) [(5, .int (nI (i + 1))), (3, .int (nI 1)), (4, .int (nI j)), (0, .ref fo), (1, .ref o), (2, .int (oI lo))] rfl 59 rfl ?_
            refine G_goto C dX1_solve_59 29 rfl ?_
            refine G_sel [1, 0, 2, 3, 4, 5] [(3, .int (nI 1)), (5, .int (nI (i + 1))), (4, .int (nI j)), (0, .ref fo), (1, .ref o), (2, .int (oI lo))] rfl ?_
            refine G_eq (ws' := [(fo, .inr (1, [.ref fa])), (fa, .inl (E.2.1, 10, .inl (aN ((fp ln lo (fit ln n lo j).1 (i + 1)).1)))), (o, .inr (2, [.ref a, .int (nI n)])), (a, .inl (E.2.1, 14, .inl (aN Cd)))]) (L' := [(3, .int (bI ((fp ln lo (fit ln n lo j).1 (i + 1)).2))), (5, .int (nI (i + 1))), (4, .int (nI j)), (0, .ref fo), (1, .ref o), (2, .int (oI lo))]) (by simp [fp, h_4]) (by simp [fp, h_4, h_5, bI]) rfl ?_
            exact ih (i + 1) (by omega) (by omega)
