set_option maxHeartbeats 4000000 in
set_option maxRecDepth 100000 in
theorem c_X3_endOf (l : Launch) (E : gE) (ro re rv : Nat) (En : Nat → Option Nat) (Ev : Nat → Nat) (ms : Nat) (x : Nat) (hx : x < 10) : FD l E yX3_endOf cX3_endOf 2 (some .int) { frames := 0, cells := 0, slots := 0, locals := 0 } [.ref ro, .int (nI x)] [(ro, .inr (3, [.ref re, .ref rv, .int (nI ms)])), (re, .inl (E.2.1, 10, .inl (aO En))), (rv, .inl (E.2.1, 10, .inl (aN Ev)))] (some (.int (oI (En x)))) [(ro, .inr (3, [.ref re, .ref rv, .int (nI ms)])), (re, .inl (E.2.1, 10, .inl (aO En))), (rv, .inl (E.2.1, 10, .inl (aN Ev)))] := by
  refine Fn_ofL (own := RX3) (by decide) rfl rfl [(0, .ref ro), (1, .int (nI x))] rfl ?_
  intro p e s m below meth c A C hr hnm
  refine G_aload_n C dX3_endOf_0 rfl 1 rfl ?_
  refine G_getf C dX3_endOf_1 wF_X3 wf_X3_9 (f := 0) (by decide) (ci := 3) rfl 0 rfl rfl 4 rfl ?_
  refine G_iload_n C dX3_endOf_4 rfl 5 rfl ?_
  refine G_ialdO C dX3_endOf_5 1 rfl rfl (by omega) 6 rfl ?_
  exact G_iret C hr dX3_endOf_6 rfl () trivial rfl rfl

set_option maxHeartbeats 4000000 in
set_option maxRecDepth 100000 in
theorem c_X3_everOf (l : Launch) (E : gE) (ro re rv : Nat) (En : Nat → Option Nat) (Ev : Nat → Nat) (ms : Nat) (x : Nat) (hx : x < 10) : FD l E yX3_everOf cX3_everOf 2 (some .int) { frames := 0, cells := 0, slots := 0, locals := 0 } [.ref ro, .int (nI x)] [(ro, .inr (3, [.ref re, .ref rv, .int (nI ms)])), (re, .inl (E.2.1, 10, .inl (aO En))), (rv, .inl (E.2.1, 10, .inl (aN Ev)))] (some (.int (nI (Ev x)))) [(ro, .inr (3, [.ref re, .ref rv, .int (nI ms)])), (re, .inl (E.2.1, 10, .inl (aO En))), (rv, .inl (E.2.1, 10, .inl (aN Ev)))] := by
  refine Fn_ofL (own := RX3) (by decide) rfl rfl [(0, .ref ro), (1, .int (nI x))] rfl ?_
  intro p e s m below meth c A C hr hnm
  refine G_aload_n C dX3_everOf_0 rfl 1 rfl ?_
  refine G_getf C dX3_everOf_1 wF_X3 wf_X3_15 (f := 1) (by decide) (ci := 3) rfl 0 rfl rfl 4 rfl ?_
  refine G_iload_n C dX3_everOf_4 rfl 5 rfl ?_
  refine G_ialdN C dX3_everOf_5 2 rfl rfl (by omega) 6 rfl ?_
  exact G_iret C hr dX3_everOf_6 rfl () trivial rfl rfl

set_option maxHeartbeats 4000000 in
set_option maxRecDepth 100000 in
theorem c_X3_missed (l : Launch) (E : gE) (ro re rv : Nat) (En : Nat → Option Nat) (Ev : Nat → Nat) (ms : Nat)  : FD l E yX3_missed cX3_missed 1 (some .int) { frames := 0, cells := 0, slots := 0, locals := 0 } [.ref ro] [(ro, .inr (3, [.ref re, .ref rv, .int (nI ms)])), (re, .inl (E.2.1, 10, .inl (aO En))), (rv, .inl (E.2.1, 10, .inl (aN Ev)))] (some (.int (nI ms))) [(ro, .inr (3, [.ref re, .ref rv, .int (nI ms)])), (re, .inl (E.2.1, 10, .inl (aO En))), (rv, .inl (E.2.1, 10, .inl (aN Ev)))] := by
  refine Fn_ofL (own := RX3) (by decide) rfl rfl [(0, .ref ro)] rfl ?_
  intro p e s m below meth c A C hr hnm
  refine G_aload_n C dX3_missed_0 rfl 1 rfl ?_
  refine G_getf C dX3_missed_1 wF_X3 wf_X3_18 (f := 2) (by decide) (ci := 3) rfl 0 rfl rfl 4 rfl ?_
  exact G_iret C hr dX3_missed_4 rfl () trivial rfl rfl

set_option maxHeartbeats 4000000 in
set_option maxRecDepth 100000 in
theorem c_X3_point (l : Launch) (E : gE) (ro re rv : Nat) (En : Nat → Option Nat) (Ev : Nat → Nat) (ms : Nat) (x : Nat) (t : Option Nat) (hx : x < 10) (ht : ook t) : FD l E yX3_point cX3_point 3 none { frames := 1, cells := 0, slots := 0, locals := 20 } [.ref ro, .int (nI x), .int (oI t)] [(ro, .inr (3, [.ref re, .ref rv, .int (nI ms)])), (re, .inl (E.2.1, 10, .inl (aO En))), (rv, .inl (E.2.1, 10, .inl (aN Ev)))] none [(ro, .inr (3, [.ref re, .ref rv, .int (nI ms)])), (re, .inl (E.2.1, 10, .inl (aO (va_up En x t)))), (rv, .inl (E.2.1, 10, .inl (aN (rpV Ev x t))))] := by
  refine Fn_ofL (own := RX3) (by decide) rfl rfl [(0, .ref ro), (1, .int (nI x)), (2, .int (oI t))] rfl ?_
  intro p e s m below meth c A C hr hnm
  cases t with
  | none =>
    refine G_aload_n C dX3_point_0 rfl 1 rfl ?_
    refine G_getf C dX3_point_1 wF_X3 wf_X3_9 (f := 0) (by decide) (ci := 3) rfl 0 rfl rfl 4 rfl ?_
    refine G_iload_n C dX3_point_4 rfl 5 rfl ?_
    refine G_iload_n C dX3_point_5 rfl 6 rfl ?_
    refine G_iastO C dX3_point_6 1 rfl rfl (x := none) (by omega) [(ro, .inr (3, [.ref re, .ref rv, .int (nI ms)])), (re, .inl (E.2.1, 10, .inl (aO (va_up En x none)))), (rv, .inl (E.2.1, 10, .inl (aN Ev)))] rfl 7 rfl ?_
    refine G_iload_n C dX3_point_7 rfl 8 rfl ?_
    refine G_iconst C dX3_point_8 (v := oI none) rfl 9 rfl ?_
    refine G_icmp_eq_t C dX3_point_9 25 rfl rfl ?_
    exact G_vret C hr dX3_point_25 () trivial rfl rfl
  | some g =>
    have hg : g < 10 := ht g rfl
    refine G_eq (ws' := [(ro, .inr (3, [.ref re, .ref rv, .int (nI ms)])), (re, .inl (E.2.1, 10, .inl (aO En))), (rv, .inl (E.2.1, 10, .inl (aN Ev)))]) (L' := [(0, .ref ro), (1, .int (nI x)), (2, .int (nI g))]) rfl rfl rfl ?_
    refine G_aload_n C dX3_point_0 rfl 1 rfl ?_
    refine G_getf C dX3_point_1 wF_X3 wf_X3_9 (f := 0) (by decide) (ci := 3) rfl 0 rfl rfl 4 rfl ?_
    refine G_iload_n C dX3_point_4 rfl 5 rfl ?_
    refine G_iload_n C dX3_point_5 rfl 6 rfl ?_
    refine G_iastO C dX3_point_6 1 rfl rfl (x := some g) (by omega) [(ro, .inr (3, [.ref re, .ref rv, .int (nI ms)])), (re, .inl (E.2.1, 10, .inl (aO (va_up En x (some g))))), (rv, .inl (E.2.1, 10, .inl (aN Ev)))] rfl 7 rfl ?_
    refine G_iload_n C dX3_point_7 rfl 8 rfl ?_
    refine G_iconst C dX3_point_8 (v := oI none) rfl 9 rfl ?_
    refine G_icmp_eq_f C dX3_point_9 25 rfl 12 rfl (oI_ne (by omega)) ?_
    refine G_aload_n C dX3_point_12 rfl 13 rfl ?_
    refine G_getf C dX3_point_13 wF_X3 wf_X3_15 (f := 1) (by decide) (ci := 3) rfl 0 rfl rfl 16 rfl ?_
    refine G_iload_n C dX3_point_16 rfl 17 rfl ?_
    refine G_dup2 C dX3_point_17 rfl rfl 18 rfl ?_
    refine G_ialdN C dX3_point_18 2 rfl rfl (by omega) 19 rfl ?_
    refine G_iload_n C dX3_point_19 rfl 20 rfl ?_
    refine G_cSN C dX3_point_20 (c_X6_bit l E g (by first | assumption | omega)) wq_X3_58 wt_X6_bit wn_X6 wc_X6_bit rfl rfl ⟨by decide, by decide, rfl⟩ rfl (Nat.le_of_ble_eq_true rfl) [] [0, 1, 2] (wr := [(ro, .inr (3, [.ref re, .ref rv, .int (nI ms)])), (re, .inl (E.2.1, 10, .inl (aO (va_up En x (some g))))), (rv, .inl (E.2.1, 10, .inl (aN Ev)))]) rfl rfl rfl rfl rfl [0, 1, 2] rfl [(ro, .inr (3, [.ref re, .ref rv, .int (nI ms)])), (re, .inl (E.2.1, 10, .inl (aO (va_up En x (some g))))), (rv, .inl (E.2.1, 10, .inl (aN Ev)))] rfl rfl [.int (nI (2 ^ g)), .int (nI (Ev x)), .int (nI x), .ref rv] rfl 23 rfl ?_
    refine G_ior C dX3_point_23 (v := nI ((Ev x) ||| (2 ^ g))) (fa_or _ _) 24 rfl ?_
    refine G_iastN C dX3_point_24 2 rfl rfl (x := (Ev x) ||| (2 ^ g)) (by omega) [(ro, .inr (3, [.ref re, .ref rv, .int (nI ms)])), (re, .inl (E.2.1, 10, .inl (aO (va_up En x (some g))))), (rv, .inl (E.2.1, 10, .inl (aN (va_up Ev x ((Ev x) ||| (2 ^ g))))))] rfl 25 rfl ?_
    exact G_vret C hr dX3_point_25 () trivial rfl rfl

set_option maxHeartbeats 4000000 in
set_option maxRecDepth 100000 in
theorem c_X3_load (l : Launch) (E : gE) (ro re rv : Nat) (En : Nat → Option Nat) (Ev : Nat → Nat) (ms : Nat) (x : Nat) (t : Option Nat) (hE : tok En) (hx : x < 10) (ht : ook t) : FD l E yX3_load cX3_load 3 none { frames := 2, cells := 0, slots := 0, locals := 42 } [.ref ro, .int (nI x), .int (oI t)] [(ro, .inr (3, [.ref re, .ref rv, .int (nI ms)])), (re, .inl (E.2.1, 10, .inl (aO En))), (rv, .inl (E.2.1, 10, .inl (aN Ev)))] none [(ro, .inr (3, [.ref re, .ref rv, .int (nI ((rld (En, Ev, ms) x t).2.2))])), (re, .inl (E.2.1, 10, .inl (aO ((rld (En, Ev, ms) x t).1)))), (rv, .inl (E.2.1, 10, .inl (aN ((rld (En, Ev, ms) x t).2.1))))] := by
  refine Fn_ofL (own := RX3) (by decide) rfl rfl [(0, .ref ro), (1, .int (nI x)), (2, .int (oI t))] rfl ?_
  intro p e s m below meth c A C hr hnm
  cases t with
  | none =>
    refine G_iload_n C dX3_load_0 rfl 1 rfl ?_
    refine G_iconst C dX3_load_1 (v := oI none) rfl 2 rfl ?_
    refine G_icmp_ne_f C dX3_load_2 18 rfl 5 rfl rfl ?_
    refine G_aload_n C dX3_load_5 rfl 6 rfl ?_
    refine G_dup C dX3_load_6 rfl 7 rfl ?_
    refine G_getf C dX3_load_7 wF_X3 wf_X3_18 (f := 2) (by decide) (ci := 3) rfl 0 rfl rfl 10 rfl ?_
    refine G_iconst C dX3_load_10 (v := nI 1) rfl 11 rfl ?_
    refine G_iadd C dX3_load_11 (v := nI (ms + 1)) (nI_add _ _) 12 rfl ?_
    refine G_putf C dX3_load_12 wF_X3 wf_X3_18 (f := 2) (by decide) (ci := 3) rfl tyX3_ok nmX3 rfl 0 rfl rfl rfl (Nat.le_of_ble_eq_true rfl) [(ro, .inr (3, [.ref re, .ref rv, .int (nI (ms + 1))])), (re, .inl (E.2.1, 10, .inl (aO En))), (rv, .inl (E.2.1, 10, .inl (aN Ev)))] rfl 15 rfl ?_
    refine G_goto C dX3_load_15 29 rfl ?_
    exact G_vret C hr dX3_load_29 () trivial rfl rfl
  | some g =>
    have hg : g < 10 := ht g rfl
    refine G_eq (ws' := [(ro, .inr (3, [.ref re, .ref rv, .int (nI ms)])), (re, .inl (E.2.1, 10, .inl (aO En))), (rv, .inl (E.2.1, 10, .inl (aN Ev)))]) (L' := [(0, .ref ro), (1, .int (nI x)), (2, .int (nI g))]) rfl rfl rfl ?_
    refine G_iload_n C dX3_load_0 rfl 1 rfl ?_
    refine G_iconst C dX3_load_1 (v := oI none) rfl 2 rfl ?_
    refine G_icmp_ne_t C dX3_load_2 18 rfl (oI_ne (by omega)) ?_
    refine G_aload_n C dX3_load_18 rfl 19 rfl ?_
    refine G_iload_n C dX3_load_19 rfl 20 rfl ?_
    refine G_aload_n C dX3_load_20 rfl 21 rfl ?_
    refine G_getf C dX3_load_21 wF_X3 wf_X3_9 (f := 0) (by decide) (ci := 3) rfl 0 rfl rfl 24 rfl ?_
    refine G_iload_n C dX3_load_24 rfl 25 rfl ?_
    refine G_ialdO C dX3_load_25 1 rfl rfl (by omega) 26 rfl ?_
    refine G_cV C dX3_load_26 (c_X3_point l E ro re rv En Ev ms x (En g) (by first | assumption | omega) (hE g hg)) wm_X3_48 wi_X3_point wsel_X3_point wn_X3 wc_X3_point rfl rfl ⟨by decide, by decide, rfl⟩ rfl (Nat.le_of_ble_eq_true rfl) 3 rfl rfl 0 rfl [0, 1, 2] [] (wr := []) rfl rfl rfl rfl rfl [0, 1, 2] rfl [(ro, .inr (3, [.ref re, .ref rv, .int (nI ms)])), (re, .inl (E.2.1, 10, .inl (aO (va_up En x (En g))))), (rv, .inl (E.2.1, 10, .inl (aN (rpV Ev x (En g)))))] rfl rfl [] rfl 29 rfl ?_
    exact G_vret C hr dX3_load_29 () trivial rfl rfl

set_option maxHeartbeats 4000000 in
set_option maxRecDepth 100000 in
theorem c_X3_store (l : Launch) (E : gE) (ro re rv : Nat) (En : Nat → Option Nat) (Ev : Nat → Nat) (ms : Nat) (t u : Option Nat) (ht : ook t) (hu : ook u) : FD l E yX3_store cX3_store 3 none { frames := 2, cells := 0, slots := 0, locals := 42 } [.ref ro, .int (oI u), .int (oI t)] [(ro, .inr (3, [.ref re, .ref rv, .int (nI ms)])), (re, .inl (E.2.1, 10, .inl (aO En))), (rv, .inl (E.2.1, 10, .inl (aN Ev)))] none [(ro, .inr (3, [.ref re, .ref rv, .int (nI ((rsto (En, Ev, ms) t u).2.2))])), (re, .inl (E.2.1, 10, .inl (aO ((rsto (En, Ev, ms) t u).1)))), (rv, .inl (E.2.1, 10, .inl (aN ((rsto (En, Ev, ms) t u).2.1))))] := by
  refine Fn_ofL (own := RX3) (by decide) rfl rfl [(0, .ref ro), (1, .int (oI u)), (2, .int (oI t))] rfl ?_
  intro p e s m below meth c A C hr hnm
  cases u with
  | none =>
    refine G_iload_n C dX3_store_0 rfl 1 rfl ?_
    refine G_iconst C dX3_store_1 (v := oI none) rfl 2 rfl ?_
    refine G_icmp_ne_f C dX3_store_2 18 rfl 5 rfl rfl ?_
    refine G_aload_n C dX3_store_5 rfl 6 rfl ?_
    refine G_dup C dX3_store_6 rfl 7 rfl ?_
    refine G_getf C dX3_store_7 wF_X3 wf_X3_18 (f := 2) (by decide) (ci := 3) rfl 0 rfl rfl 10 rfl ?_
    refine G_iconst C dX3_store_10 (v := nI 1) rfl 11 rfl ?_
    refine G_iadd C dX3_store_11 (v := nI (ms + 1)) (nI_add _ _) 12 rfl ?_
    refine G_putf C dX3_store_12 wF_X3 wf_X3_18 (f := 2) (by decide) (ci := 3) rfl tyX3_ok nmX3 rfl 0 rfl rfl rfl (Nat.le_of_ble_eq_true rfl) [(ro, .inr (3, [.ref re, .ref rv, .int (nI (ms + 1))])), (re, .inl (E.2.1, 10, .inl (aO En))), (rv, .inl (E.2.1, 10, .inl (aN Ev)))] rfl 15 rfl ?_
    refine G_goto C dX3_store_15 24 rfl ?_
    exact G_vret C hr dX3_store_24 () trivial rfl rfl
  | some g =>
    have hg : g < 10 := hu g rfl
    refine G_eq (ws' := [(ro, .inr (3, [.ref re, .ref rv, .int (nI ms)])), (re, .inl (E.2.1, 10, .inl (aO En))), (rv, .inl (E.2.1, 10, .inl (aN Ev)))]) (L' := [(0, .ref ro), (1, .int (nI g)), (2, .int (oI t))]) rfl rfl rfl ?_
    refine G_iload_n C dX3_store_0 rfl 1 rfl ?_
    refine G_iconst C dX3_store_1 (v := oI none) rfl 2 rfl ?_
    refine G_icmp_ne_t C dX3_store_2 18 rfl (oI_ne (by omega)) ?_
    refine G_aload_n C dX3_store_18 rfl 19 rfl ?_
    refine G_iload_n C dX3_store_19 rfl 20 rfl ?_
    refine G_iload_n C dX3_store_20 rfl 21 rfl ?_
    refine G_cV C dX3_store_21 (c_X3_point l E ro re rv En Ev ms g t (by first | assumption | omega) (by first | assumption | omega)) wm_X3_48 wi_X3_point wsel_X3_point wn_X3 wc_X3_point rfl rfl ⟨by decide, by decide, rfl⟩ rfl (Nat.le_of_ble_eq_true rfl) 3 rfl rfl 0 rfl [0, 1, 2] [] (wr := []) rfl rfl rfl rfl rfl [0, 1, 2] rfl [(ro, .inr (3, [.ref re, .ref rv, .int (nI ms)])), (re, .inl (E.2.1, 10, .inl (aO (va_up En g t)))), (rv, .inl (E.2.1, 10, .inl (aN (rpV Ev g t))))] rfl rfl [] rfl 24 rfl ?_
    exact G_vret C hr dX3_store_24 () trivial rfl rfl

set_option maxHeartbeats 4000000 in
set_option maxRecDepth 100000 in
theorem c_X3_carryOut (l : Launch) (E : gE) (ro re rv : Nat) (En : Nat → Option Nat) (Ev : Nat → Nat) (ms : Nat) (o a n : Nat) (Cd : Nat → Nat) (i v : Nat) (hE : tok En) (hi : i < 14) (hc : Cd i = ce v) (hv : v < 400) : FD l E yX3_carryOut cX3_carryOut 5 none { frames := 3, cells := 0, slots := 0, locals := 64 } [.ref ro, .ref o, .int (nI i)] [(ro, .inr (3, [.ref re, .ref rv, .int (nI ms)])), (re, .inl (E.2.1, 10, .inl (aO En))), (rv, .inl (E.2.1, 10, .inl (aN Ev))), (o, .inr (2, [.ref a, .int (nI n)])), (a, .inl (E.2.1, 14, .inl (aN Cd)))] none [(ro, .inr (3, [.ref re, .ref rv, .int (nI ((rst v (En, Ev, ms)).2.2))])), (re, .inl (E.2.1, 10, .inl (aO ((rst v (En, Ev, ms)).1)))), (rv, .inl (E.2.1, 10, .inl (aN ((rst v (En, Ev, ms)).2.1)))), (o, .inr (2, [.ref a, .int (nI n)])), (a, .inl (E.2.1, 14, .inl (aN Cd)))] := by
  refine Fn_ofL (own := RX3) (by decide) rfl rfl [(0, .ref ro), (1, .ref o), (2, .int (nI i))] rfl ?_
  intro p e s m below meth c A C hr hnm
  refine G_aload_n C dX3_carryOut_0 rfl 1 rfl ?_
  refine G_iload_n C dX3_carryOut_1 rfl 2 rfl ?_
  refine G_cV C dX3_carryOut_2 (c_X2_leftAt l E o a n Cd i v (by first | assumption | omega) (by first | assumption | omega) (by first | assumption | omega)) wm_X3_38 wi_X2_leftAt wsel_X2_leftAt wn_X2 wc_X2_leftAt rfl rfl ⟨by decide, by decide, rfl⟩ rfl (Nat.le_of_ble_eq_true rfl) 2 rfl rfl 0 rfl [3, 4] [0, 1, 2] (wr := [(ro, .inr (3, [.ref re, .ref rv, .int (nI ms)])), (re, .inl (E.2.1, 10, .inl (aO En))), (rv, .inl (E.2.1, 10, .inl (aN Ev)))]) rfl rfl rfl rfl rfl [0, 1, 2, 3, 4] rfl [(ro, .inr (3, [.ref re, .ref rv, .int (nI ms)])), (re, .inl (E.2.1, 10, .inl (aO En))), (rv, .inl (E.2.1, 10, .inl (aN Ev))), (o, .inr (2, [.ref a, .int (nI n)])), (a, .inl (E.2.1, 14, .inl (aN Cd)))] rfl rfl [.int (nI (v / 10 % 10))] rfl 5 rfl ?_
  refine G_istore_n C dX3_carryOut_5 (by decide) [(3, .int (nI (v / 10 % 10))), (0, .ref ro), (1, .ref o), (2, .int (nI i))] rfl 6 rfl ?_
  refine G_aload_n C dX3_carryOut_6 rfl 7 rfl ?_
  refine G_iload_n C dX3_carryOut_7 rfl 8 rfl ?_
  refine G_cV C dX3_carryOut_8 (c_X2_rightAt l E o a n Cd i v (by first | assumption | omega) (by first | assumption | omega) (by first | assumption | omega)) wm_X3_42 wi_X2_rightAt wsel_X2_rightAt wn_X2 wc_X2_rightAt rfl rfl ⟨by decide, by decide, rfl⟩ rfl (Nat.le_of_ble_eq_true rfl) 2 rfl rfl 0 rfl [3, 4] [0, 1, 2] (wr := [(ro, .inr (3, [.ref re, .ref rv, .int (nI ms)])), (re, .inl (E.2.1, 10, .inl (aO En))), (rv, .inl (E.2.1, 10, .inl (aN Ev)))]) rfl rfl rfl rfl rfl [0, 1, 2, 3, 4] rfl [(ro, .inr (3, [.ref re, .ref rv, .int (nI ms)])), (re, .inl (E.2.1, 10, .inl (aO En))), (rv, .inl (E.2.1, 10, .inl (aN Ev))), (o, .inr (2, [.ref a, .int (nI n)])), (a, .inl (E.2.1, 14, .inl (aN Cd)))] rfl rfl [.int (nI (v % 10))] rfl 11 rfl ?_
  refine G_istore C dX3_carryOut_11 (by decide) [(4, .int (nI (v % 10))), (3, .int (nI (v / 10 % 10))), (0, .ref ro), (1, .ref o), (2, .int (nI i))] rfl 13 rfl ?_
  refine G_aload_n C dX3_carryOut_13 rfl 14 rfl ?_
  refine G_iload_n C dX3_carryOut_14 rfl 15 rfl ?_
  refine G_cV C dX3_carryOut_15 (c_X2_sortAt l E o a n Cd i v (by first | assumption | omega) (by first | assumption | omega) (by first | assumption | omega)) wm_X3_45 wi_X2_sortAt wsel_X2_sortAt wn_X2 wc_X2_sortAt rfl rfl ⟨by decide, by decide, rfl⟩ rfl (Nat.le_of_ble_eq_true rfl) 2 rfl rfl 0 rfl [3, 4] [0, 1, 2] (wr := [(ro, .inr (3, [.ref re, .ref rv, .int (nI ms)])), (re, .inl (E.2.1, 10, .inl (aO En))), (rv, .inl (E.2.1, 10, .inl (aN Ev)))]) rfl rfl rfl rfl rfl [0, 1, 2, 3, 4] rfl [(ro, .inr (3, [.ref re, .ref rv, .int (nI ms)])), (re, .inl (E.2.1, 10, .inl (aO En))), (rv, .inl (E.2.1, 10, .inl (aN Ev))), (o, .inr (2, [.ref a, .int (nI n)])), (a, .inl (E.2.1, 14, .inl (aN Cd)))] rfl rfl [.int (nI (v / 100))] rfl 18 rfl ?_
  rcases (show v / 100 = 0 ∨ v / 100 = 1 ∨ v / 100 = 2 ∨ v / 100 = 3 by omega) with hs_1 | hs_1 | hs_1 | hs_1
  · refine G_top (v' := .int (nI 0)) (by rw [hs_1]) ?_
    refine G_tabIn C dX3_carryOut_18 (26) (by decide) (by decide) rfl 44 rfl ?_
    refine G_aload_n C dX3_carryOut_44 rfl 45 rfl ?_
    refine G_iload_n C dX3_carryOut_45 rfl 46 rfl ?_
    refine G_iload C dX3_carryOut_46 rfl 48 rfl ?_
    refine G_cV C dX3_carryOut_48 (c_X3_point l E ro re rv En Ev ms (v / 10 % 10) (some (v % 10)) (by first | assumption | omega) (ook_s (by omega))) wm_X3_48 wi_X3_point wsel_X3_point wn_X3 wc_X3_point rfl rfl ⟨by decide, by decide, rfl⟩ rfl (Nat.le_of_ble_eq_true rfl) 3 rfl rfl 0 rfl [0, 1, 2] [3, 4] (wr := [(o, .inr (2, [.ref a, .int (nI n)])), (a, .inl (E.2.1, 14, .inl (aN Cd)))]) rfl rfl rfl rfl rfl [2, 3, 4, 0, 1] rfl [(ro, .inr (3, [.ref re, .ref rv, .int (nI ms)])), (re, .inl (E.2.1, 10, .inl (aO (va_up En (v / 10 % 10) (some (v % 10)))))), (rv, .inl (E.2.1, 10, .inl (aN (rpV Ev (v / 10 % 10) (some (v % 10)))))), (o, .inr (2, [.ref a, .int (nI n)])), (a, .inl (E.2.1, 14, .inl (aN Cd)))] rfl rfl [] rfl 51 rfl ?_
    refine G_goto C dX3_carryOut_51 101 rfl ?_
    exact G_vret C hr dX3_carryOut_101 () trivial rfl (by simp [rst, hs_1])
  · refine G_top (v' := .int (nI 1)) (by rw [hs_1]) ?_
    refine G_tabIn C dX3_carryOut_18 (36) (by decide) (by decide) rfl 54 rfl ?_
    refine G_aload_n C dX3_carryOut_54 rfl 55 rfl ?_
    refine G_iload_n C dX3_carryOut_55 rfl 56 rfl ?_
    refine G_aload_n C dX3_carryOut_56 rfl 57 rfl ?_
    refine G_getf C dX3_carryOut_57 wF_X3 wf_X3_9 (f := 0) (by decide) (ci := 3) rfl 0 rfl rfl 60 rfl ?_
    refine G_iload C dX3_carryOut_60 rfl 62 rfl ?_
    refine G_ialdO C dX3_carryOut_62 1 rfl rfl (by omega) 63 rfl ?_
    refine G_cV C dX3_carryOut_63 (c_X3_point l E ro re rv En Ev ms (v / 10 % 10) (En (v % 10)) (by first | assumption | omega) (hE _ (by omega))) wm_X3_48 wi_X3_point wsel_X3_point wn_X3 wc_X3_point rfl rfl ⟨by decide, by decide, rfl⟩ rfl (Nat.le_of_ble_eq_true rfl) 3 rfl rfl 0 rfl [0, 1, 2] [3, 4] (wr := [(o, .inr (2, [.ref a, .int (nI n)])), (a, .inl (E.2.1, 14, .inl (aN Cd)))]) rfl rfl rfl rfl rfl [2, 3, 4, 0, 1] rfl [(ro, .inr (3, [.ref re, .ref rv, .int (nI ms)])), (re, .inl (E.2.1, 10, .inl (aO (va_up En (v / 10 % 10) (En (v % 10)))))), (rv, .inl (E.2.1, 10, .inl (aN (rpV Ev (v / 10 % 10) (En (v % 10)))))), (o, .inr (2, [.ref a, .int (nI n)])), (a, .inl (E.2.1, 14, .inl (aN Cd)))] rfl rfl [] rfl 66 rfl ?_
    refine G_goto C dX3_carryOut_66 101 rfl ?_
    exact G_vret C hr dX3_carryOut_101 () trivial rfl (by simp [rst, hs_1])
  · refine G_top (v' := .int (nI 2)) (by rw [hs_1]) ?_
    refine G_tabIn C dX3_carryOut_18 (51) (by decide) (by decide) rfl 69 rfl ?_
    refine G_aload_n C dX3_carryOut_69 rfl 70 rfl ?_
    refine G_iload_n C dX3_carryOut_70 rfl 71 rfl ?_
    refine G_aload_n C dX3_carryOut_71 rfl 72 rfl ?_
    refine G_getf C dX3_carryOut_72 wF_X3 wf_X3_9 (f := 0) (by decide) (ci := 3) rfl 0 rfl rfl 75 rfl ?_
    refine G_iload C dX3_carryOut_75 rfl 77 rfl ?_
    refine G_ialdO C dX3_carryOut_77 1 rfl rfl (by omega) 78 rfl ?_
    refine G_cV C dX3_carryOut_78 (c_X3_load l E ro re rv En Ev ms (v / 10 % 10) (En (v % 10)) (by first | assumption | omega) (by first | assumption | omega) (hE _ (by omega))) wm_X3_52 wi_X3_load wsel_X3_load wn_X3 wc_X3_load rfl rfl ⟨by decide, by decide, rfl⟩ rfl (Nat.le_of_ble_eq_true rfl) 3 rfl rfl 0 rfl [0, 1, 2] [3, 4] (wr := [(o, .inr (2, [.ref a, .int (nI n)])), (a, .inl (E.2.1, 14, .inl (aN Cd)))]) rfl rfl rfl rfl rfl [2, 3, 4, 0, 1] rfl [(ro, .inr (3, [.ref re, .ref rv, .int (nI ((rld (En, Ev, ms) (v / 10 % 10) (En (v % 10))).2.2))])), (re, .inl (E.2.1, 10, .inl (aO ((rld (En, Ev, ms) (v / 10 % 10) (En (v % 10))).1)))), (rv, .inl (E.2.1, 10, .inl (aN ((rld (En, Ev, ms) (v / 10 % 10) (En (v % 10))).2.1)))), (o, .inr (2, [.ref a, .int (nI n)])), (a, .inl (E.2.1, 14, .inl (aN Cd)))] rfl rfl [] rfl 81 rfl ?_
    refine G_goto C dX3_carryOut_81 101 rfl ?_
    exact G_vret C hr dX3_carryOut_101 () trivial rfl (by simp [rst, hs_1])
  · refine G_top (v' := .int (nI 3)) (by rw [hs_1]) ?_
    refine G_tabOut C dX3_carryOut_18 (by decide) 84 rfl ?_
    refine G_aload_n C dX3_carryOut_84 rfl 85 rfl ?_
    refine G_aload_n C dX3_carryOut_85 rfl 86 rfl ?_
    refine G_getf C dX3_carryOut_86 wF_X3 wf_X3_9 (f := 0) (by decide) (ci := 3) rfl 0 rfl rfl 89 rfl ?_
    refine G_iload_n C dX3_carryOut_89 rfl 90 rfl ?_
    refine G_ialdO C dX3_carryOut_90 1 rfl rfl (by omega) 91 rfl ?_
    refine G_aload_n C dX3_carryOut_91 rfl 92 rfl ?_
    refine G_getf C dX3_carryOut_92 wF_X3 wf_X3_9 (f := 0) (by decide) (ci := 3) rfl 0 rfl rfl 95 rfl ?_
    refine G_iload C dX3_carryOut_95 rfl 97 rfl ?_
    refine G_ialdO C dX3_carryOut_97 1 rfl rfl (by omega) 98 rfl ?_
    refine G_cV C dX3_carryOut_98 (c_X3_store l E ro re rv En Ev ms (En (v % 10)) (En (v / 10 % 10)) (hE _ (by omega)) (hE _ (by omega))) wm_X3_55 wi_X3_store wsel_X3_store wn_X3 wc_X3_store rfl rfl ⟨by decide, by decide, rfl⟩ rfl (Nat.le_of_ble_eq_true rfl) 3 rfl rfl 0 rfl [0, 1, 2] [3, 4] (wr := [(o, .inr (2, [.ref a, .int (nI n)])), (a, .inl (E.2.1, 14, .inl (aN Cd)))]) rfl rfl rfl rfl rfl [2, 3, 4, 0, 1] rfl [(ro, .inr (3, [.ref re, .ref rv, .int (nI ((rsto (En, Ev, ms) (En (v % 10)) (En (v / 10 % 10))).2.2))])), (re, .inl (E.2.1, 10, .inl (aO ((rsto (En, Ev, ms) (En (v % 10)) (En (v / 10 % 10))).1)))), (rv, .inl (E.2.1, 10, .inl (aN ((rsto (En, Ev, ms) (En (v % 10)) (En (v / 10 % 10))).2.1)))), (o, .inr (2, [.ref a, .int (nI n)])), (a, .inl (E.2.1, 14, .inl (aN Cd)))] rfl rfl [] rfl 101 rfl ?_
    exact G_vret C hr dX3_carryOut_101 () trivial rfl (by simp [rst, hs_1])

set_option maxHeartbeats 4000000 in
set_option maxRecDepth 100000 in
theorem c_X3_play (l : Launch) (E : gE) (ro re rv : Nat) (En : Nat → Option Nat) (Ev : Nat → Nat) (ms : Nat) (o a n : Nat) (Cd : Nat → Nat) (ln : Nat → Nat) (rn : Nat) (hok : lok n ln Cd) (hr9 : rn ≤ 9) : FD l E yX3_play cX3_play 5 none { frames := 4, cells := 0, slots := 0, locals := 88 } [.ref ro, .ref o, .int (nI rn)] [(ro, .inr (3, [.ref re, .ref rv, .int (nI ms)])), (re, .inl (E.2.1, 10, .inl (aO En))), (rv, .inl (E.2.1, 10, .inl (aN Ev))), (o, .inr (2, [.ref a, .int (nI n)])), (a, .inl (E.2.1, 14, .inl (aN Cd)))] none [(ro, .inr (3, [.ref re, .ref rv, .int (nI ((rr ln n (rn * n)).2.2))])), (re, .inl (E.2.1, 10, .inl (aO ((rr ln n (rn * n)).1)))), (rv, .inl (E.2.1, 10, .inl (aN ((rr ln n (rn * n)).2.1)))), (o, .inr (2, [.ref a, .int (nI n)])), (a, .inl (E.2.1, 14, .inl (aN Cd)))] := by
  refine Fn_ofL (own := RX3) (by decide) rfl rfl [(0, .ref ro), (1, .ref o), (2, .int (nI rn))] rfl ?_
  intro p e s m below meth c A C hr hnm
  have h14 : n ≤ 14 := hok.n
  refine G_aload_n C dX3_play_0 rfl 1 rfl ?_
  refine G_getf C dX3_play_1 wF_X3 wf_X3_9 (f := 0) (by decide) (ci := 3) rfl 0 rfl rfl 4 rfl ?_
  refine G_iconst C dX3_play_4 (v := oI none) rfl 5 rfl ?_
  refine G_cS C dX3_play_5 (c_J7_fill l E re 10 (aO En) (oI none) (by decide)) wm_X3_22 wt_J7_fill wn_J7 wc_J7_fill rfl rfl ⟨by decide, by decide, rfl⟩ rfl (Nat.le_of_ble_eq_true rfl) [1] [0, 2, 3, 4] (wr := [(ro, .inr (3, [.ref re, .ref rv, .int (nI ms)])), (rv, .inl (E.2.1, 10, .inl (aN Ev))), (o, .inr (2, [.ref a, .int (nI n)])), (a, .inl (E.2.1, 14, .inl (aN Cd)))]) rfl rfl rfl rfl rfl [0, 4, 1, 2, 3] rfl [(ro, .inr (3, [.ref re, .ref rv, .int (nI ms)])), (re, .inl (E.2.1, 10, .inl (fun _ => (oI none)))), (rv, .inl (E.2.1, 10, .inl (aN Ev))), (o, .inr (2, [.ref a, .int (nI n)])), (a, .inl (E.2.1, 14, .inl (aN Cd)))] rfl rfl [] rfl 8 rfl ?_
  refine G_eq (ws' := [(ro, .inr (3, [.ref re, .ref rv, .int (nI ms)])), (re, .inl (E.2.1, 10, .inl (aO (fun _ => none)))), (rv, .inl (E.2.1, 10, .inl (aN Ev))), (o, .inr (2, [.ref a, .int (nI n)])), (a, .inl (E.2.1, 14, .inl (aN Cd)))]) rfl rfl rfl ?_
  refine G_aload_n C dX3_play_8 rfl 9 rfl ?_
  refine G_getf C dX3_play_9 wF_X3 wf_X3_15 (f := 1) (by decide) (ci := 3) rfl 0 rfl rfl 12 rfl ?_
  refine G_iconst C dX3_play_12 (v := nI 0) rfl 13 rfl ?_
  refine G_cS C dX3_play_13 (c_J7_fill l E rv 10 (aN Ev) (nI 0) (by decide)) wm_X3_22 wt_J7_fill wn_J7 wc_J7_fill rfl rfl ⟨by decide, by decide, rfl⟩ rfl (Nat.le_of_ble_eq_true rfl) [2] [0, 1, 3, 4] (wr := [(ro, .inr (3, [.ref re, .ref rv, .int (nI ms)])), (re, .inl (E.2.1, 10, .inl (aO (fun _ => none)))), (o, .inr (2, [.ref a, .int (nI n)])), (a, .inl (E.2.1, 14, .inl (aN Cd)))]) rfl rfl rfl rfl rfl [0, 1, 4, 2, 3] rfl [(ro, .inr (3, [.ref re, .ref rv, .int (nI ms)])), (re, .inl (E.2.1, 10, .inl (aO (fun _ => none)))), (rv, .inl (E.2.1, 10, .inl (fun _ => (nI 0)))), (o, .inr (2, [.ref a, .int (nI n)])), (a, .inl (E.2.1, 14, .inl (aN Cd)))] rfl rfl [] rfl 16 rfl ?_
  refine G_eq (ws' := [(ro, .inr (3, [.ref re, .ref rv, .int (nI ms)])), (re, .inl (E.2.1, 10, .inl (aO (fun _ => none)))), (rv, .inl (E.2.1, 10, .inl (aN (fun _ => 0)))), (o, .inr (2, [.ref a, .int (nI n)])), (a, .inl (E.2.1, 14, .inl (aN Cd)))]) rfl rfl rfl ?_
  refine G_aload_n C dX3_play_16 rfl 17 rfl ?_
  refine G_iconst C dX3_play_17 (v := nI 0) rfl 18 rfl ?_
  refine G_putf C dX3_play_18 wF_X3 wf_X3_18 (f := 2) (by decide) (ci := 3) rfl tyX3_ok nmX3 rfl 0 rfl rfl rfl (Nat.le_of_ble_eq_true rfl) [(ro, .inr (3, [.ref re, .ref rv, .int (nI 0)])), (re, .inl (E.2.1, 10, .inl (aO (fun _ => none)))), (rv, .inl (E.2.1, 10, .inl (aN (fun _ => 0)))), (o, .inr (2, [.ref a, .int (nI n)])), (a, .inl (E.2.1, 14, .inl (aN Cd)))] rfl 21 rfl ?_
  refine G_iconst C dX3_play_21 (v := nI 0) rfl 22 rfl ?_
  refine G_istore_n C dX3_play_22 (by decide) [(3, .int (nI 0)), (0, .ref ro), (1, .ref o), (2, .int (nI rn))] rfl 23 rfl ?_
  refine G_eq (ws' := [(ro, .inr (3, [.ref re, .ref rv, .int (nI ((rr ln n (0 * n)).2.2))])), (re, .inl (E.2.1, 10, .inl (aO ((rr ln n (0 * n)).1)))), (rv, .inl (E.2.1, 10, .inl (aN ((rr ln n (0 * n)).2.1)))), (o, .inr (2, [.ref a, .int (nI n)])), (a, .inl (E.2.1, 14, .inl (aN Cd)))]) (by rw [Nat.zero_mul]; rfl) rfl rfl ?_
  refine G_while (X := Nat) (Wf := fun r => [(ro, .inr (3, [.ref re, .ref rv, .int (nI ((rr ln n (r * n)).2.2))])), (re, .inl (E.2.1, 10, .inl (aO ((rr ln n (r * n)).1)))), (rv, .inl (E.2.1, 10, .inl (aN ((rr ln n (r * n)).2.1)))), (o, .inr (2, [.ref a, .int (nI n)])), (a, .inl (E.2.1, 14, .inl (aN Cd)))]) (Lf := fun r => [(3, .int (nI r)), (0, .ref ro), (1, .ref o), (2, .int (nI rn))]) (Sf := fun _ => []) (fun r => r ≤ rn) (fun r => rn - r) (fun r hr5 ihr => ?_) 0 (by omega)
  refine G_iload_n C dX3_play_23 rfl 24 rfl ?_
  refine G_iload_n C dX3_play_24 rfl 25 rfl ?_
  refine G_icmp_ge C dX3_play_25 59 rfl 28 rfl (nI_leI (by omega) (by omega)) (fun h_1 => ?_) (fun h_1 => ?_)
  · exact G_vret C hr dX3_play_59 () trivial rfl (by rw [show r = rn by omega])
  · refine G_iconst C dX3_play_28 (v := nI 0) rfl 29 rfl ?_
    refine G_istore C dX3_play_29 (by decide) [(4, .int (nI 0)), (3, .int (nI r)), (0, .ref ro), (1, .ref o), (2, .int (nI rn))] rfl 31 rfl ?_
    refine G_while (X := Nat) (Wf := fun i => [(ro, .inr (3, [.ref re, .ref rv, .int (nI ((rr ln n (r * n + i)).2.2))])), (re, .inl (E.2.1, 10, .inl (aO ((rr ln n (r * n + i)).1)))), (rv, .inl (E.2.1, 10, .inl (aN ((rr ln n (r * n + i)).2.1)))), (o, .inr (2, [.ref a, .int (nI n)])), (a, .inl (E.2.1, 14, .inl (aN Cd)))]) (Lf := fun i => [(4, .int (nI i)), (3, .int (nI r)), (0, .ref ro), (1, .ref o), (2, .int (nI rn))]) (Sf := fun _ => []) (fun i => i ≤ n) (fun i => n - i) (fun i hi ih => ?_) 0 (by omega)
    refine G_iload C dX3_play_31 rfl 33 rfl ?_
    refine G_aload_n C dX3_play_33 rfl 34 rfl ?_
    refine G_cV C dX3_play_34 (c_X2_size l E o a n Cd ) wm_X3_28 wi_X2_size wsel_X2_size wn_X2 wc_X2_size rfl rfl ⟨by decide, by decide, rfl⟩ rfl (Nat.le_of_ble_eq_true rfl) 2 rfl rfl 0 rfl [3, 4] [0, 1, 2] (wr := [(ro, .inr (3, [.ref re, .ref rv, .int (nI ((rr ln n (r * n + i)).2.2))])), (re, .inl (E.2.1, 10, .inl (aO ((rr ln n (r * n + i)).1)))), (rv, .inl (E.2.1, 10, .inl (aN ((rr ln n (r * n + i)).2.1))))]) rfl rfl rfl rfl rfl [0, 1, 2, 3, 4] rfl [(ro, .inr (3, [.ref re, .ref rv, .int (nI ((rr ln n (r * n + i)).2.2))])), (re, .inl (E.2.1, 10, .inl (aO ((rr ln n (r * n + i)).1)))), (rv, .inl (E.2.1, 10, .inl (aN ((rr ln n (r * n + i)).2.1)))), (o, .inr (2, [.ref a, .int (nI n)])), (a, .inl (E.2.1, 14, .inl (aN Cd)))] rfl rfl [.int (nI n), .int (nI i)] rfl 37 rfl ?_
    refine G_icmp_ge C dX3_play_37 53 rfl 40 rfl (nI_leI (by omega) (by omega)) (fun h_2 => ?_) (fun h_2 => ?_)
    · refine G_iinc C dX3_play_53 1 rfl (nI_1 _) (by decide) [(3, .int (nI (r + 1))), (4, .int (nI i)), (0, .ref ro), (1, .ref o), (2, .int (nI rn))] rfl 56 rfl ?_
      refine G_goto C dX3_play_56 23 rfl ?_
      refine G_sel [0, 2, 3, 4] [(3, .int (nI (r + 1))), (0, .ref ro), (1, .ref o), (2, .int (nI rn))] rfl ?_
      refine G_eq (ws' := [(ro, .inr (3, [.ref re, .ref rv, .int (nI ((rr ln n ((r + 1) * n)).2.2))])), (re, .inl (E.2.1, 10, .inl (aO ((rr ln n ((r + 1) * n)).1)))), (rv, .inl (E.2.1, 10, .inl (aN ((rr ln n ((r + 1) * n)).2.1)))), (o, .inr (2, [.ref a, .int (nI n)])), (a, .inl (E.2.1, 14, .inl (aN Cd)))]) (by rw [Nat.succ_mul, show i = n by omega]) rfl rfl ?_
      exact ihr (r + 1) (by omega) (by omega)
    · refine G_aload_n C dX3_play_40 rfl 41 rfl ?_
      refine G_aload_n C dX3_play_41 rfl 42 rfl ?_
      refine G_iload C dX3_play_42 rfl 44 rfl ?_
      refine G_cV C dX3_play_44 (c_X3_carryOut l E ro re rv ((rr ln n (r * n + i)).1) ((rr ln n (r * n + i)).2.1) ((rr ln n (r * n + i)).2.2) o a n Cd i (ln i) (tok_rr _) (by omega) (hok.c (by omega)) (hok.v (by omega))) wm_X3_34 wi_X3_carryOut wsel_X3_carryOut wn_X3 wc_X3_carryOut rfl rfl ⟨by decide, by decide, rfl⟩ rfl (Nat.le_of_ble_eq_true rfl) 3 rfl rfl 0 rfl [0, 1, 2, 3, 4] [] (wr := []) rfl rfl rfl rfl rfl [0, 1, 2, 3, 4] rfl [(ro, .inr (3, [.ref re, .ref rv, .int (nI ((rst (ln i) (((rr ln n (r * n + i)).1), ((rr ln n (r * n + i)).2.1), ((rr ln n (r * n + i)).2.2))).2.2))])), (re, .inl (E.2.1, 10, .inl (aO ((rst (ln i) (((rr ln n (r * n + i)).1), ((rr ln n (r * n + i)).2.1), ((rr ln n (r * n + i)).2.2))).1)))), (rv, .inl (E.2.1, 10, .inl (aN ((rst (ln i) (((rr ln n (r * n + i)).1), ((rr ln n (r * n + i)).2.1), ((rr ln n (r * n + i)).2.2))).2.1)))), (o, .inr (2, [.ref a, .int (nI n)])), (a, .inl (E.2.1, 14, .inl (aN Cd)))] rfl rfl [] rfl 47 rfl ?_
      refine G_iinc C dX3_play_47 0 rfl (nI_1 _) (by decide) [(4, .int (nI (i + 1))), (3, .int (nI r)), (0, .ref ro), (1, .ref o), (2, .int (nI rn))] rfl 50 rfl ?_
      refine G_goto C dX3_play_50 31 rfl ?_
      refine G_eq (ws' := [(ro, .inr (3, [.ref re, .ref rv, .int (nI ((rr ln n (r * n + (i + 1))).2.2))])), (re, .inl (E.2.1, 10, .inl (aO ((rr ln n (r * n + (i + 1))).1)))), (rv, .inl (E.2.1, 10, .inl (aN ((rr ln n (r * n + (i + 1))).2.1)))), (o, .inr (2, [.ref a, .int (nI n)])), (a, .inl (E.2.1, 14, .inl (aN Cd)))]) (by rw [rr_s (by omega)]) rfl rfl ?_
      exact ih (i + 1) (by omega) (by omega)

set_option maxHeartbeats 4000000 in
set_option maxRecDepth 100000 in
theorem c_X4_size (l : Launch) (E : gE) (so sk sn : Nat)  : FD l E yX4_size cX4_size 1 (some .int) { frames := 0, cells := 0, slots := 0, locals := 0 } [.ref so] [(so, .inr (4, [.ref sk, .int (nI sn)]))] (some (.int (nI sn))) [(so, .inr (4, [.ref sk, .int (nI sn)]))] := by
  refine Fn_ofL (own := RX4) (by decide) rfl rfl [(0, .ref so)] rfl ?_
  intro p e s m below meth c A C hr hnm
  refine G_aload_n C dX4_size_0 rfl 1 rfl ?_
  refine G_getf C dX4_size_1 wF_X4 wf_X4_18 (f := 1) (by decide) (ci := 4) rfl 0 rfl rfl 4 rfl ?_
  exact G_iret C hr dX4_size_4 rfl () trivial rfl rfl

set_option maxHeartbeats 4000000 in
set_option maxRecDepth 100000 in
theorem c_X4_loseOldest (l : Launch) (E : gE) (so sk : Nat) (Ha Aa : Nat → Nat) (sn : Nat) (NS : Nat → Nat) (CS : Nat → Nat → Nat)  : FD l E yX4_loseOldest cX4_loseOldest 3 none { frames := 0, cells := 0, slots := 0, locals := 0 } [.ref so] [(so, .inr (4, [.ref sk, .int (nI sn)])), (sk, .inl (E.2.2, 5, .inr (.inr (.inr (.inr (fun j => some (Ha j))))))), ((Ha 0), .inr (2, [.ref (Aa 0), .int (nI (NS 0))])), ((Aa 0), .inl (E.2.1, 14, .inl (aN (CS 0)))), ((Ha 1), .inr (2, [.ref (Aa 1), .int (nI (NS 1))])), ((Aa 1), .inl (E.2.1, 14, .inl (aN (CS 1)))), ((Ha 2), .inr (2, [.ref (Aa 2), .int (nI (NS 2))])), ((Aa 2), .inl (E.2.1, 14, .inl (aN (CS 2)))), ((Ha 3), .inr (2, [.ref (Aa 3), .int (nI (NS 3))])), ((Aa 3), .inl (E.2.1, 14, .inl (aN (CS 3)))), ((Ha 4), .inr (2, [.ref (Aa 4), .int (nI (NS 4))])), ((Aa 4), .inl (E.2.1, 14, .inl (aN (CS 4))))] none [(so, .inr (4, [.ref sk, .int (nI 4)])), (sk, .inl (E.2.2, 5, .inr (.inr (.inr (.inr (fun j => some (rotA Ha j))))))), ((rotA Ha 0), .inr (2, [.ref (rotA Aa 0), .int (nI (NS 1))])), ((rotA Aa 0), .inl (E.2.1, 14, .inl (aN (CS 1)))), ((rotA Ha 1), .inr (2, [.ref (rotA Aa 1), .int (nI (NS 2))])), ((rotA Aa 1), .inl (E.2.1, 14, .inl (aN (CS 2)))), ((rotA Ha 2), .inr (2, [.ref (rotA Aa 2), .int (nI (NS 3))])), ((rotA Aa 2), .inl (E.2.1, 14, .inl (aN (CS 3)))), ((rotA Ha 3), .inr (2, [.ref (rotA Aa 3), .int (nI (NS 4))])), ((rotA Aa 3), .inl (E.2.1, 14, .inl (aN (CS 4)))), ((rotA Ha 4), .inr (2, [.ref (rotA Aa 4), .int (nI (NS 0))])), ((rotA Aa 4), .inl (E.2.1, 14, .inl (aN (CS 0))))] := by
  refine Fn_ofL (own := RX4) (by decide) rfl rfl [(0, .ref so)] rfl ?_
  intro p e s m below meth c A C hr hnm
  refine G_aload_n C dX4_loseOldest_0 rfl 1 rfl ?_
  refine G_getf C dX4_loseOldest_1 wF_X4 wf_X4_11 (f := 0) (by decide) (ci := 4) rfl 0 rfl rfl 4 rfl ?_
  refine G_iconst C dX4_loseOldest_4 (v := nI 0) rfl 5 rfl ?_
  refine G_aald C dX4_loseOldest_5 1 rfl (v := .ref (Ha 0)) (vp_in_nI (by decide) (by decide)) rfl 6 rfl ?_
  refine G_astore_n C dX4_loseOldest_6 (by decide) [(1, .ref (Ha 0)), (0, .ref so)] rfl 7 rfl ?_
  refine G_iconst C dX4_loseOldest_7 (v := nI 1) rfl 8 rfl ?_
  refine G_istore_n C dX4_loseOldest_8 (by decide) [(2, .int (nI 1)), (1, .ref (Ha 0)), (0, .ref so)] rfl 9 rfl ?_
  refine G_iload_n C dX4_loseOldest_9 rfl 10 rfl ?_
  refine G_iconst C dX4_loseOldest_10 (v := nI 5) rfl 11 rfl ?_
  refine G_icmp_ge_f C dX4_loseOldest_11 34 rfl 14 rfl (by decide) ?_
  refine G_aload_n C dX4_loseOldest_14 rfl 15 rfl ?_
  refine G_getf C dX4_loseOldest_15 wF_X4 wf_X4_11 (f := 0) (by decide) (ci := 4) rfl 0 rfl rfl 18 rfl ?_
  refine G_iload_n C dX4_loseOldest_18 rfl 19 rfl ?_
  refine G_iconst C dX4_loseOldest_19 (v := nI 1) rfl 20 rfl ?_
  refine G_isub C dX4_loseOldest_20 (v := nI 0) (by decide) 21 rfl ?_
  refine G_aload_n C dX4_loseOldest_21 rfl 22 rfl ?_
  refine G_getf C dX4_loseOldest_22 wF_X4 wf_X4_11 (f := 0) (by decide) (ci := 4) rfl 0 rfl rfl 25 rfl ?_
  refine G_iload_n C dX4_loseOldest_25 rfl 26 rfl ?_
  refine G_aald C dX4_loseOldest_26 1 rfl (v := .ref (Ha 1)) (vp_in_nI (by decide) (by decide)) rfl 27 rfl ?_
  refine G_aast C dX4_loseOldest_27 1 4 rfl rfl (vp_in_nI (by decide) (by decide)) rfl [(so, .inr (4, [.ref sk, .int (nI sn)])), (sk, .inl (E.2.2, 5, .inr (.inr (.inr (.inr (va_up (fun j => some (Ha j)) 0 (some (Ha 1)))))))), ((Ha 0), .inr (2, [.ref (Aa 0), .int (nI (NS 0))])), ((Aa 0), .inl (E.2.1, 14, .inl (aN (CS 0)))), ((Ha 1), .inr (2, [.ref (Aa 1), .int (nI (NS 1))])), ((Aa 1), .inl (E.2.1, 14, .inl (aN (CS 1)))), ((Ha 2), .inr (2, [.ref (Aa 2), .int (nI (NS 2))])), ((Aa 2), .inl (E.2.1, 14, .inl (aN (CS 2)))), ((Ha 3), .inr (2, [.ref (Aa 3), .int (nI (NS 3))])), ((Aa 3), .inl (E.2.1, 14, .inl (aN (CS 3)))), ((Ha 4), .inr (2, [.ref (Aa 4), .int (nI (NS 4))])), ((Aa 4), .inl (E.2.1, 14, .inl (aN (CS 4))))] rfl 28 rfl ?_
  refine G_iinc C dX4_loseOldest_28 0 rfl (by decide) (by decide) [(2, .int (nI 2)), (1, .ref (Ha 0)), (0, .ref so)] rfl 31 rfl ?_
  refine G_goto C dX4_loseOldest_31 9 rfl ?_
  refine G_iload_n C dX4_loseOldest_9 rfl 10 rfl ?_
  refine G_iconst C dX4_loseOldest_10 (v := nI 5) rfl 11 rfl ?_
  refine G_icmp_ge_f C dX4_loseOldest_11 34 rfl 14 rfl (by decide) ?_
  refine G_aload_n C dX4_loseOldest_14 rfl 15 rfl ?_
  refine G_getf C dX4_loseOldest_15 wF_X4 wf_X4_11 (f := 0) (by decide) (ci := 4) rfl 0 rfl rfl 18 rfl ?_
  refine G_iload_n C dX4_loseOldest_18 rfl 19 rfl ?_
  refine G_iconst C dX4_loseOldest_19 (v := nI 1) rfl 20 rfl ?_
  refine G_isub C dX4_loseOldest_20 (v := nI 1) (by decide) 21 rfl ?_
  refine G_aload_n C dX4_loseOldest_21 rfl 22 rfl ?_
  refine G_getf C dX4_loseOldest_22 wF_X4 wf_X4_11 (f := 0) (by decide) (ci := 4) rfl 0 rfl rfl 25 rfl ?_
  refine G_iload_n C dX4_loseOldest_25 rfl 26 rfl ?_
  refine G_aald C dX4_loseOldest_26 1 rfl (v := .ref (Ha 2)) (vp_in_nI (by decide) (by decide)) rfl 27 rfl ?_
  refine G_aast C dX4_loseOldest_27 1 6 rfl rfl (vp_in_nI (by decide) (by decide)) rfl [(so, .inr (4, [.ref sk, .int (nI sn)])), (sk, .inl (E.2.2, 5, .inr (.inr (.inr (.inr (va_up (va_up (fun j => some (Ha j)) 0 (some (Ha 1))) 1 (some (Ha 2)))))))), ((Ha 0), .inr (2, [.ref (Aa 0), .int (nI (NS 0))])), ((Aa 0), .inl (E.2.1, 14, .inl (aN (CS 0)))), ((Ha 1), .inr (2, [.ref (Aa 1), .int (nI (NS 1))])), ((Aa 1), .inl (E.2.1, 14, .inl (aN (CS 1)))), ((Ha 2), .inr (2, [.ref (Aa 2), .int (nI (NS 2))])), ((Aa 2), .inl (E.2.1, 14, .inl (aN (CS 2)))), ((Ha 3), .inr (2, [.ref (Aa 3), .int (nI (NS 3))])), ((Aa 3), .inl (E.2.1, 14, .inl (aN (CS 3)))), ((Ha 4), .inr (2, [.ref (Aa 4), .int (nI (NS 4))])), ((Aa 4), .inl (E.2.1, 14, .inl (aN (CS 4))))] rfl 28 rfl ?_
  refine G_iinc C dX4_loseOldest_28 0 rfl (by decide) (by decide) [(2, .int (nI 3)), (1, .ref (Ha 0)), (0, .ref so)] rfl 31 rfl ?_
  refine G_goto C dX4_loseOldest_31 9 rfl ?_
  refine G_iload_n C dX4_loseOldest_9 rfl 10 rfl ?_
  refine G_iconst C dX4_loseOldest_10 (v := nI 5) rfl 11 rfl ?_
  refine G_icmp_ge_f C dX4_loseOldest_11 34 rfl 14 rfl (by decide) ?_
  refine G_aload_n C dX4_loseOldest_14 rfl 15 rfl ?_
  refine G_getf C dX4_loseOldest_15 wF_X4 wf_X4_11 (f := 0) (by decide) (ci := 4) rfl 0 rfl rfl 18 rfl ?_
  refine G_iload_n C dX4_loseOldest_18 rfl 19 rfl ?_
  refine G_iconst C dX4_loseOldest_19 (v := nI 1) rfl 20 rfl ?_
  refine G_isub C dX4_loseOldest_20 (v := nI 2) (by decide) 21 rfl ?_
  refine G_aload_n C dX4_loseOldest_21 rfl 22 rfl ?_
  refine G_getf C dX4_loseOldest_22 wF_X4 wf_X4_11 (f := 0) (by decide) (ci := 4) rfl 0 rfl rfl 25 rfl ?_
  refine G_iload_n C dX4_loseOldest_25 rfl 26 rfl ?_
  refine G_aald C dX4_loseOldest_26 1 rfl (v := .ref (Ha 3)) (vp_in_nI (by decide) (by decide)) rfl 27 rfl ?_
  refine G_aast C dX4_loseOldest_27 1 8 rfl rfl (vp_in_nI (by decide) (by decide)) rfl [(so, .inr (4, [.ref sk, .int (nI sn)])), (sk, .inl (E.2.2, 5, .inr (.inr (.inr (.inr (va_up (va_up (va_up (fun j => some (Ha j)) 0 (some (Ha 1))) 1 (some (Ha 2))) 2 (some (Ha 3)))))))), ((Ha 0), .inr (2, [.ref (Aa 0), .int (nI (NS 0))])), ((Aa 0), .inl (E.2.1, 14, .inl (aN (CS 0)))), ((Ha 1), .inr (2, [.ref (Aa 1), .int (nI (NS 1))])), ((Aa 1), .inl (E.2.1, 14, .inl (aN (CS 1)))), ((Ha 2), .inr (2, [.ref (Aa 2), .int (nI (NS 2))])), ((Aa 2), .inl (E.2.1, 14, .inl (aN (CS 2)))), ((Ha 3), .inr (2, [.ref (Aa 3), .int (nI (NS 3))])), ((Aa 3), .inl (E.2.1, 14, .inl (aN (CS 3)))), ((Ha 4), .inr (2, [.ref (Aa 4), .int (nI (NS 4))])), ((Aa 4), .inl (E.2.1, 14, .inl (aN (CS 4))))] rfl 28 rfl ?_
  refine G_iinc C dX4_loseOldest_28 0 rfl (by decide) (by decide) [(2, .int (nI 4)), (1, .ref (Ha 0)), (0, .ref so)] rfl 31 rfl ?_
  refine G_goto C dX4_loseOldest_31 9 rfl ?_
  refine G_iload_n C dX4_loseOldest_9 rfl 10 rfl ?_
  refine G_iconst C dX4_loseOldest_10 (v := nI 5) rfl 11 rfl ?_
  refine G_icmp_ge_f C dX4_loseOldest_11 34 rfl 14 rfl (by decide) ?_
  refine G_aload_n C dX4_loseOldest_14 rfl 15 rfl ?_
  refine G_getf C dX4_loseOldest_15 wF_X4 wf_X4_11 (f := 0) (by decide) (ci := 4) rfl 0 rfl rfl 18 rfl ?_
  refine G_iload_n C dX4_loseOldest_18 rfl 19 rfl ?_
  refine G_iconst C dX4_loseOldest_19 (v := nI 1) rfl 20 rfl ?_
  refine G_isub C dX4_loseOldest_20 (v := nI 3) (by decide) 21 rfl ?_
  refine G_aload_n C dX4_loseOldest_21 rfl 22 rfl ?_
  refine G_getf C dX4_loseOldest_22 wF_X4 wf_X4_11 (f := 0) (by decide) (ci := 4) rfl 0 rfl rfl 25 rfl ?_
  refine G_iload_n C dX4_loseOldest_25 rfl 26 rfl ?_
  refine G_aald C dX4_loseOldest_26 1 rfl (v := .ref (Ha 4)) (vp_in_nI (by decide) (by decide)) rfl 27 rfl ?_
  refine G_aast C dX4_loseOldest_27 1 10 rfl rfl (vp_in_nI (by decide) (by decide)) rfl [(so, .inr (4, [.ref sk, .int (nI sn)])), (sk, .inl (E.2.2, 5, .inr (.inr (.inr (.inr (va_up (va_up (va_up (va_up (fun j => some (Ha j)) 0 (some (Ha 1))) 1 (some (Ha 2))) 2 (some (Ha 3))) 3 (some (Ha 4)))))))), ((Ha 0), .inr (2, [.ref (Aa 0), .int (nI (NS 0))])), ((Aa 0), .inl (E.2.1, 14, .inl (aN (CS 0)))), ((Ha 1), .inr (2, [.ref (Aa 1), .int (nI (NS 1))])), ((Aa 1), .inl (E.2.1, 14, .inl (aN (CS 1)))), ((Ha 2), .inr (2, [.ref (Aa 2), .int (nI (NS 2))])), ((Aa 2), .inl (E.2.1, 14, .inl (aN (CS 2)))), ((Ha 3), .inr (2, [.ref (Aa 3), .int (nI (NS 3))])), ((Aa 3), .inl (E.2.1, 14, .inl (aN (CS 3)))), ((Ha 4), .inr (2, [.ref (Aa 4), .int (nI (NS 4))])), ((Aa 4), .inl (E.2.1, 14, .inl (aN (CS 4))))] rfl 28 rfl ?_
  refine G_iinc C dX4_loseOldest_28 0 rfl (by decide) (by decide) [(2, .int (nI 5)), (1, .ref (Ha 0)), (0, .ref so)] rfl 31 rfl ?_
  refine G_goto C dX4_loseOldest_31 9 rfl ?_
  refine G_iload_n C dX4_loseOldest_9 rfl 10 rfl ?_
  refine G_iconst C dX4_loseOldest_10 (v := nI 5) rfl 11 rfl ?_
  refine G_icmp_ge_t C dX4_loseOldest_11 34 rfl (by decide) ?_
  refine G_aload_n C dX4_loseOldest_34 rfl 35 rfl ?_
  refine G_getf C dX4_loseOldest_35 wF_X4 wf_X4_11 (f := 0) (by decide) (ci := 4) rfl 0 rfl rfl 38 rfl ?_
  refine G_iconst C dX4_loseOldest_38 (v := nI 4) rfl 39 rfl ?_
  refine G_aload_n C dX4_loseOldest_39 rfl 40 rfl ?_
  refine G_aast C dX4_loseOldest_40 1 2 rfl rfl (vp_in_nI (by decide) (by decide)) rfl [(so, .inr (4, [.ref sk, .int (nI sn)])), (sk, .inl (E.2.2, 5, .inr (.inr (.inr (.inr (va_up (va_up (va_up (va_up (va_up (fun j => some (Ha j)) 0 (some (Ha 1))) 1 (some (Ha 2))) 2 (some (Ha 3))) 3 (some (Ha 4))) 4 (some (Ha 0)))))))), ((Ha 0), .inr (2, [.ref (Aa 0), .int (nI (NS 0))])), ((Aa 0), .inl (E.2.1, 14, .inl (aN (CS 0)))), ((Ha 1), .inr (2, [.ref (Aa 1), .int (nI (NS 1))])), ((Aa 1), .inl (E.2.1, 14, .inl (aN (CS 1)))), ((Ha 2), .inr (2, [.ref (Aa 2), .int (nI (NS 2))])), ((Aa 2), .inl (E.2.1, 14, .inl (aN (CS 2)))), ((Ha 3), .inr (2, [.ref (Aa 3), .int (nI (NS 3))])), ((Aa 3), .inl (E.2.1, 14, .inl (aN (CS 3)))), ((Ha 4), .inr (2, [.ref (Aa 4), .int (nI (NS 4))])), ((Aa 4), .inl (E.2.1, 14, .inl (aN (CS 4))))] rfl 41 rfl ?_
  refine G_aload_n C dX4_loseOldest_41 rfl 42 rfl ?_
  refine G_iconst C dX4_loseOldest_42 (v := nI 4) rfl 43 rfl ?_
  refine G_putf C dX4_loseOldest_43 wF_X4 wf_X4_18 (f := 1) (by decide) (ci := 4) rfl tyX4_ok nmX4 rfl 0 rfl rfl rfl (Nat.le_of_ble_eq_true rfl) [(so, .inr (4, [.ref sk, .int (nI 4)])), (sk, .inl (E.2.2, 5, .inr (.inr (.inr (.inr (va_up (va_up (va_up (va_up (va_up (fun j => some (Ha j)) 0 (some (Ha 1))) 1 (some (Ha 2))) 2 (some (Ha 3))) 3 (some (Ha 4))) 4 (some (Ha 0)))))))), ((Ha 0), .inr (2, [.ref (Aa 0), .int (nI (NS 0))])), ((Aa 0), .inl (E.2.1, 14, .inl (aN (CS 0)))), ((Ha 1), .inr (2, [.ref (Aa 1), .int (nI (NS 1))])), ((Aa 1), .inl (E.2.1, 14, .inl (aN (CS 1)))), ((Ha 2), .inr (2, [.ref (Aa 2), .int (nI (NS 2))])), ((Aa 2), .inl (E.2.1, 14, .inl (aN (CS 2)))), ((Ha 3), .inr (2, [.ref (Aa 3), .int (nI (NS 3))])), ((Aa 3), .inl (E.2.1, 14, .inl (aN (CS 3)))), ((Ha 4), .inr (2, [.ref (Aa 4), .int (nI (NS 4))])), ((Aa 4), .inl (E.2.1, 14, .inl (aN (CS 4))))] rfl 46 rfl ?_
  refine G_congR 1 (fun j => some (rotA Ha j)) rfl (fun j hj => by rcases (show j = 0 ∨ j = 1 ∨ j = 2 ∨ j = 3 ∨ j = 4 by omega) with rfl | rfl | rfl | rfl | rfl <;> rfl) [(so, .inr (4, [.ref sk, .int (nI 4)])), (sk, .inl (E.2.2, 5, .inr (.inr (.inr (.inr (fun j => some (rotA Ha j))))))), ((Ha 0), .inr (2, [.ref (Aa 0), .int (nI (NS 0))])), ((Aa 0), .inl (E.2.1, 14, .inl (aN (CS 0)))), ((Ha 1), .inr (2, [.ref (Aa 1), .int (nI (NS 1))])), ((Aa 1), .inl (E.2.1, 14, .inl (aN (CS 1)))), ((Ha 2), .inr (2, [.ref (Aa 2), .int (nI (NS 2))])), ((Aa 2), .inl (E.2.1, 14, .inl (aN (CS 2)))), ((Ha 3), .inr (2, [.ref (Aa 3), .int (nI (NS 3))])), ((Aa 3), .inl (E.2.1, 14, .inl (aN (CS 3)))), ((Ha 4), .inr (2, [.ref (Aa 4), .int (nI (NS 4))])), ((Aa 4), .inl (E.2.1, 14, .inl (aN (CS 4))))] rfl ?_
  refine G_perm [0, 1, 4, 5, 6, 7, 8, 9, 10, 11, 2, 3] rfl [(so, .inr (4, [.ref sk, .int (nI 4)])), (sk, .inl (E.2.2, 5, .inr (.inr (.inr (.inr (fun j => some (rotA Ha j))))))), ((rotA Ha 0), .inr (2, [.ref (rotA Aa 0), .int (nI (NS 1))])), ((rotA Aa 0), .inl (E.2.1, 14, .inl (aN (CS 1)))), ((rotA Ha 1), .inr (2, [.ref (rotA Aa 1), .int (nI (NS 2))])), ((rotA Aa 1), .inl (E.2.1, 14, .inl (aN (CS 2)))), ((rotA Ha 2), .inr (2, [.ref (rotA Aa 2), .int (nI (NS 3))])), ((rotA Aa 2), .inl (E.2.1, 14, .inl (aN (CS 3)))), ((rotA Ha 3), .inr (2, [.ref (rotA Aa 3), .int (nI (NS 4))])), ((rotA Aa 3), .inl (E.2.1, 14, .inl (aN (CS 4)))), ((rotA Ha 4), .inr (2, [.ref (rotA Aa 4), .int (nI (NS 0))])), ((rotA Aa 4), .inl (E.2.1, 14, .inl (aN (CS 0))))] rfl ?_
  exact G_vret C hr dX4_loseOldest_46 () trivial rfl rfl

set_option maxHeartbeats 4000000 in
set_option maxRecDepth 100000 in
theorem c_X4_keep (l : Launch) (E : gE) (so sk : Nat) (Ha Aa : Nat → Nat) (sn : Nat) (NS : Nat → Nat) (CS : Nat → Nat → Nat) (o a n : Nat) (Cd : Nat → Nat) (hs5 : sn ≤ 5) (hn : n ≤ 14) : FD l E yX4_keep cX4_keep 2 none { frames := 2, cells := 0, slots := 0, locals := 61 } [.ref so, .ref o] [(so, .inr (4, [.ref sk, .int (nI sn)])), (sk, .inl (E.2.2, 5, .inr (.inr (.inr (.inr (fun j => some (Ha j))))))), ((Ha 0), .inr (2, [.ref (Aa 0), .int (nI (NS 0))])), ((Aa 0), .inl (E.2.1, 14, .inl (aN (CS 0)))), ((Ha 1), .inr (2, [.ref (Aa 1), .int (nI (NS 1))])), ((Aa 1), .inl (E.2.1, 14, .inl (aN (CS 1)))), ((Ha 2), .inr (2, [.ref (Aa 2), .int (nI (NS 2))])), ((Aa 2), .inl (E.2.1, 14, .inl (aN (CS 2)))), ((Ha 3), .inr (2, [.ref (Aa 3), .int (nI (NS 3))])), ((Aa 3), .inl (E.2.1, 14, .inl (aN (CS 3)))), ((Ha 4), .inr (2, [.ref (Aa 4), .int (nI (NS 4))])), ((Aa 4), .inl (E.2.1, 14, .inl (aN (CS 4)))), (o, .inr (2, [.ref a, .int (nI n)])), (a, .inl (E.2.1, 14, .inl (aN Cd)))] none [(so, .inr (4, [.ref sk, .int (nI (kS sn))])), (sk, .inl (E.2.2, 5, .inr (.inr (.inr (.inr (fun j => some ((kA sn Ha) j))))))), (((kA sn Ha) 0), .inr (2, [.ref ((kA sn Aa) 0), .int (nI ((kN sn NS n) 0))])), (((kA sn Aa) 0), .inl (E.2.1, 14, .inl (aN ((kC sn CS Cd n) 0)))), (((kA sn Ha) 1), .inr (2, [.ref ((kA sn Aa) 1), .int (nI ((kN sn NS n) 1))])), (((kA sn Aa) 1), .inl (E.2.1, 14, .inl (aN ((kC sn CS Cd n) 1)))), (((kA sn Ha) 2), .inr (2, [.ref ((kA sn Aa) 2), .int (nI ((kN sn NS n) 2))])), (((kA sn Aa) 2), .inl (E.2.1, 14, .inl (aN ((kC sn CS Cd n) 2)))), (((kA sn Ha) 3), .inr (2, [.ref ((kA sn Aa) 3), .int (nI ((kN sn NS n) 3))])), (((kA sn Aa) 3), .inl (E.2.1, 14, .inl (aN ((kC sn CS Cd n) 3)))), (((kA sn Ha) 4), .inr (2, [.ref ((kA sn Aa) 4), .int (nI ((kN sn NS n) 4))])), (((kA sn Aa) 4), .inl (E.2.1, 14, .inl (aN ((kC sn CS Cd n) 4)))), (o, .inr (2, [.ref a, .int (nI n)])), (a, .inl (E.2.1, 14, .inl (aN Cd)))] := by
  refine Fn_ofL (own := RX4) (by decide) rfl rfl [(0, .ref so), (1, .ref o)] rfl ?_
  intro p e s m below meth c A C hr hnm
  rcases (show sn = 0 ∨ sn = 1 ∨ sn = 2 ∨ sn = 3 ∨ sn = 4 ∨ sn = 5 by omega) with rfl | rfl | rfl | rfl | rfl | rfl
  · refine G_aload_n C dX4_keep_0 rfl 1 rfl ?_
    refine G_getf C dX4_keep_1 wF_X4 wf_X4_18 (f := 1) (by decide) (ci := 4) rfl 0 rfl rfl 4 rfl ?_
    refine G_iconst C dX4_keep_4 (v := nI 5) rfl 5 rfl ?_
    refine G_icmp_ne_t C dX4_keep_5 12 rfl (by decide) ?_
    refine G_aload_n C dX4_keep_12 rfl 13 rfl ?_
    refine G_getf C dX4_keep_13 wF_X4 wf_X4_11 (f := 0) (by decide) (ci := 4) rfl 0 rfl rfl 16 rfl ?_
    refine G_aload_n C dX4_keep_16 rfl 17 rfl ?_
    refine G_getf C dX4_keep_17 wF_X4 wf_X4_18 (f := 1) (by decide) (ci := 4) rfl 0 rfl rfl 20 rfl ?_
    refine G_aald C dX4_keep_20 1 rfl (v := .ref (Ha 0)) (vp_in_nI (by decide) (by decide)) rfl 21 rfl ?_
    refine G_aload_n C dX4_keep_21 rfl 22 rfl ?_
    refine G_cV C dX4_keep_22 (c_X2_copyFrom l E (Ha 0) (Aa 0) (NS 0) (CS 0) o a n Cd (by first | assumption | omega)) wm_X4_25 wi_X2_copyFrom wsel_X2_copyFrom wn_X2 wc_X2_copyFrom rfl rfl ⟨by decide, by decide, rfl⟩ rfl (Nat.le_of_ble_eq_true rfl) 2 rfl rfl 0 rfl [2, 3, 12, 13] [0, 1, 4, 5, 6, 7, 8, 9, 10, 11] (wr := [(so, .inr (4, [.ref sk, .int (nI 0)])), (sk, .inl (E.2.2, 5, .inr (.inr (.inr (.inr (fun j => some (Ha j))))))), ((Ha 1), .inr (2, [.ref (Aa 1), .int (nI (NS 1))])), ((Aa 1), .inl (E.2.1, 14, .inl (aN (CS 1)))), ((Ha 2), .inr (2, [.ref (Aa 2), .int (nI (NS 2))])), ((Aa 2), .inl (E.2.1, 14, .inl (aN (CS 2)))), ((Ha 3), .inr (2, [.ref (Aa 3), .int (nI (NS 3))])), ((Aa 3), .inl (E.2.1, 14, .inl (aN (CS 3)))), ((Ha 4), .inr (2, [.ref (Aa 4), .int (nI (NS 4))])), ((Aa 4), .inl (E.2.1, 14, .inl (aN (CS 4))))]) rfl rfl rfl rfl rfl [0, 1, 10, 11, 2, 3, 4, 5, 6, 7, 8, 9, 12, 13] rfl [(so, .inr (4, [.ref sk, .int (nI 0)])), (sk, .inl (E.2.2, 5, .inr (.inr (.inr (.inr (fun j => some (Ha j))))))), ((Ha 0), .inr (2, [.ref (Aa 0), .int (nI n)])), ((Aa 0), .inl (E.2.1, 14, .inl (aN (cpN Cd (CS 0) n)))), ((Ha 1), .inr (2, [.ref (Aa 1), .int (nI (NS 1))])), ((Aa 1), .inl (E.2.1, 14, .inl (aN (CS 1)))), ((Ha 2), .inr (2, [.ref (Aa 2), .int (nI (NS 2))])), ((Aa 2), .inl (E.2.1, 14, .inl (aN (CS 2)))), ((Ha 3), .inr (2, [.ref (Aa 3), .int (nI (NS 3))])), ((Aa 3), .inl (E.2.1, 14, .inl (aN (CS 3)))), ((Ha 4), .inr (2, [.ref (Aa 4), .int (nI (NS 4))])), ((Aa 4), .inl (E.2.1, 14, .inl (aN (CS 4)))), (o, .inr (2, [.ref a, .int (nI n)])), (a, .inl (E.2.1, 14, .inl (aN Cd)))] rfl rfl [] rfl 25 rfl ?_
    refine G_aload_n C dX4_keep_25 rfl 26 rfl ?_
    refine G_dup C dX4_keep_26 rfl 27 rfl ?_
    refine G_getf C dX4_keep_27 wF_X4 wf_X4_18 (f := 1) (by decide) (ci := 4) rfl 0 rfl rfl 30 rfl ?_
    refine G_iconst C dX4_keep_30 (v := nI 1) rfl 31 rfl ?_
    refine G_iadd C dX4_keep_31 (v := nI 1) (by decide) 32 rfl ?_
    refine G_putf C dX4_keep_32 wF_X4 wf_X4_18 (f := 1) (by decide) (ci := 4) rfl tyX4_ok nmX4 rfl 0 rfl rfl rfl (Nat.le_of_ble_eq_true rfl) [(so, .inr (4, [.ref sk, .int (nI 1)])), (sk, .inl (E.2.2, 5, .inr (.inr (.inr (.inr (fun j => some (Ha j))))))), ((Ha 0), .inr (2, [.ref (Aa 0), .int (nI n)])), ((Aa 0), .inl (E.2.1, 14, .inl (aN (cpN Cd (CS 0) n)))), ((Ha 1), .inr (2, [.ref (Aa 1), .int (nI (NS 1))])), ((Aa 1), .inl (E.2.1, 14, .inl (aN (CS 1)))), ((Ha 2), .inr (2, [.ref (Aa 2), .int (nI (NS 2))])), ((Aa 2), .inl (E.2.1, 14, .inl (aN (CS 2)))), ((Ha 3), .inr (2, [.ref (Aa 3), .int (nI (NS 3))])), ((Aa 3), .inl (E.2.1, 14, .inl (aN (CS 3)))), ((Ha 4), .inr (2, [.ref (Aa 4), .int (nI (NS 4))])), ((Aa 4), .inl (E.2.1, 14, .inl (aN (CS 4)))), (o, .inr (2, [.ref a, .int (nI n)])), (a, .inl (E.2.1, 14, .inl (aN Cd)))] rfl 35 rfl ?_
    exact G_vret C hr dX4_keep_35 () trivial rfl rfl
  · refine G_aload_n C dX4_keep_0 rfl 1 rfl ?_
    refine G_getf C dX4_keep_1 wF_X4 wf_X4_18 (f := 1) (by decide) (ci := 4) rfl 0 rfl rfl 4 rfl ?_
    refine G_iconst C dX4_keep_4 (v := nI 5) rfl 5 rfl ?_
    refine G_icmp_ne_t C dX4_keep_5 12 rfl (by decide) ?_
    refine G_aload_n C dX4_keep_12 rfl 13 rfl ?_
    refine G_getf C dX4_keep_13 wF_X4 wf_X4_11 (f := 0) (by decide) (ci := 4) rfl 0 rfl rfl 16 rfl ?_
    refine G_aload_n C dX4_keep_16 rfl 17 rfl ?_
    refine G_getf C dX4_keep_17 wF_X4 wf_X4_18 (f := 1) (by decide) (ci := 4) rfl 0 rfl rfl 20 rfl ?_
    refine G_aald C dX4_keep_20 1 rfl (v := .ref (Ha 1)) (vp_in_nI (by decide) (by decide)) rfl 21 rfl ?_
    refine G_aload_n C dX4_keep_21 rfl 22 rfl ?_
    refine G_cV C dX4_keep_22 (c_X2_copyFrom l E (Ha 1) (Aa 1) (NS 1) (CS 1) o a n Cd (by first | assumption | omega)) wm_X4_25 wi_X2_copyFrom wsel_X2_copyFrom wn_X2 wc_X2_copyFrom rfl rfl ⟨by decide, by decide, rfl⟩ rfl (Nat.le_of_ble_eq_true rfl) 2 rfl rfl 0 rfl [4, 5, 12, 13] [0, 1, 2, 3, 6, 7, 8, 9, 10, 11] (wr := [(so, .inr (4, [.ref sk, .int (nI 1)])), (sk, .inl (E.2.2, 5, .inr (.inr (.inr (.inr (fun j => some (Ha j))))))), ((Ha 0), .inr (2, [.ref (Aa 0), .int (nI (NS 0))])), ((Aa 0), .inl (E.2.1, 14, .inl (aN (CS 0)))), ((Ha 2), .inr (2, [.ref (Aa 2), .int (nI (NS 2))])), ((Aa 2), .inl (E.2.1, 14, .inl (aN (CS 2)))), ((Ha 3), .inr (2, [.ref (Aa 3), .int (nI (NS 3))])), ((Aa 3), .inl (E.2.1, 14, .inl (aN (CS 3)))), ((Ha 4), .inr (2, [.ref (Aa 4), .int (nI (NS 4))])), ((Aa 4), .inl (E.2.1, 14, .inl (aN (CS 4))))]) rfl rfl rfl rfl rfl [0, 1, 2, 3, 10, 11, 4, 5, 6, 7, 8, 9, 12, 13] rfl [(so, .inr (4, [.ref sk, .int (nI 1)])), (sk, .inl (E.2.2, 5, .inr (.inr (.inr (.inr (fun j => some (Ha j))))))), ((Ha 0), .inr (2, [.ref (Aa 0), .int (nI (NS 0))])), ((Aa 0), .inl (E.2.1, 14, .inl (aN (CS 0)))), ((Ha 1), .inr (2, [.ref (Aa 1), .int (nI n)])), ((Aa 1), .inl (E.2.1, 14, .inl (aN (cpN Cd (CS 1) n)))), ((Ha 2), .inr (2, [.ref (Aa 2), .int (nI (NS 2))])), ((Aa 2), .inl (E.2.1, 14, .inl (aN (CS 2)))), ((Ha 3), .inr (2, [.ref (Aa 3), .int (nI (NS 3))])), ((Aa 3), .inl (E.2.1, 14, .inl (aN (CS 3)))), ((Ha 4), .inr (2, [.ref (Aa 4), .int (nI (NS 4))])), ((Aa 4), .inl (E.2.1, 14, .inl (aN (CS 4)))), (o, .inr (2, [.ref a, .int (nI n)])), (a, .inl (E.2.1, 14, .inl (aN Cd)))] rfl rfl [] rfl 25 rfl ?_
    refine G_aload_n C dX4_keep_25 rfl 26 rfl ?_
    refine G_dup C dX4_keep_26 rfl 27 rfl ?_
    refine G_getf C dX4_keep_27 wF_X4 wf_X4_18 (f := 1) (by decide) (ci := 4) rfl 0 rfl rfl 30 rfl ?_
    refine G_iconst C dX4_keep_30 (v := nI 1) rfl 31 rfl ?_
    refine G_iadd C dX4_keep_31 (v := nI 2) (by decide) 32 rfl ?_
    refine G_putf C dX4_keep_32 wF_X4 wf_X4_18 (f := 1) (by decide) (ci := 4) rfl tyX4_ok nmX4 rfl 0 rfl rfl rfl (Nat.le_of_ble_eq_true rfl) [(so, .inr (4, [.ref sk, .int (nI 2)])), (sk, .inl (E.2.2, 5, .inr (.inr (.inr (.inr (fun j => some (Ha j))))))), ((Ha 0), .inr (2, [.ref (Aa 0), .int (nI (NS 0))])), ((Aa 0), .inl (E.2.1, 14, .inl (aN (CS 0)))), ((Ha 1), .inr (2, [.ref (Aa 1), .int (nI n)])), ((Aa 1), .inl (E.2.1, 14, .inl (aN (cpN Cd (CS 1) n)))), ((Ha 2), .inr (2, [.ref (Aa 2), .int (nI (NS 2))])), ((Aa 2), .inl (E.2.1, 14, .inl (aN (CS 2)))), ((Ha 3), .inr (2, [.ref (Aa 3), .int (nI (NS 3))])), ((Aa 3), .inl (E.2.1, 14, .inl (aN (CS 3)))), ((Ha 4), .inr (2, [.ref (Aa 4), .int (nI (NS 4))])), ((Aa 4), .inl (E.2.1, 14, .inl (aN (CS 4)))), (o, .inr (2, [.ref a, .int (nI n)])), (a, .inl (E.2.1, 14, .inl (aN Cd)))] rfl 35 rfl ?_
    exact G_vret C hr dX4_keep_35 () trivial rfl rfl
  · refine G_aload_n C dX4_keep_0 rfl 1 rfl ?_
    refine G_getf C dX4_keep_1 wF_X4 wf_X4_18 (f := 1) (by decide) (ci := 4) rfl 0 rfl rfl 4 rfl ?_
    refine G_iconst C dX4_keep_4 (v := nI 5) rfl 5 rfl ?_
    refine G_icmp_ne_t C dX4_keep_5 12 rfl (by decide) ?_
    refine G_aload_n C dX4_keep_12 rfl 13 rfl ?_
    refine G_getf C dX4_keep_13 wF_X4 wf_X4_11 (f := 0) (by decide) (ci := 4) rfl 0 rfl rfl 16 rfl ?_
    refine G_aload_n C dX4_keep_16 rfl 17 rfl ?_
    refine G_getf C dX4_keep_17 wF_X4 wf_X4_18 (f := 1) (by decide) (ci := 4) rfl 0 rfl rfl 20 rfl ?_
    refine G_aald C dX4_keep_20 1 rfl (v := .ref (Ha 2)) (vp_in_nI (by decide) (by decide)) rfl 21 rfl ?_
    refine G_aload_n C dX4_keep_21 rfl 22 rfl ?_
    refine G_cV C dX4_keep_22 (c_X2_copyFrom l E (Ha 2) (Aa 2) (NS 2) (CS 2) o a n Cd (by first | assumption | omega)) wm_X4_25 wi_X2_copyFrom wsel_X2_copyFrom wn_X2 wc_X2_copyFrom rfl rfl ⟨by decide, by decide, rfl⟩ rfl (Nat.le_of_ble_eq_true rfl) 2 rfl rfl 0 rfl [6, 7, 12, 13] [0, 1, 2, 3, 4, 5, 8, 9, 10, 11] (wr := [(so, .inr (4, [.ref sk, .int (nI 2)])), (sk, .inl (E.2.2, 5, .inr (.inr (.inr (.inr (fun j => some (Ha j))))))), ((Ha 0), .inr (2, [.ref (Aa 0), .int (nI (NS 0))])), ((Aa 0), .inl (E.2.1, 14, .inl (aN (CS 0)))), ((Ha 1), .inr (2, [.ref (Aa 1), .int (nI (NS 1))])), ((Aa 1), .inl (E.2.1, 14, .inl (aN (CS 1)))), ((Ha 3), .inr (2, [.ref (Aa 3), .int (nI (NS 3))])), ((Aa 3), .inl (E.2.1, 14, .inl (aN (CS 3)))), ((Ha 4), .inr (2, [.ref (Aa 4), .int (nI (NS 4))])), ((Aa 4), .inl (E.2.1, 14, .inl (aN (CS 4))))]) rfl rfl rfl rfl rfl [0, 1, 2, 3, 4, 5, 10, 11, 6, 7, 8, 9, 12, 13] rfl [(so, .inr (4, [.ref sk, .int (nI 2)])), (sk, .inl (E.2.2, 5, .inr (.inr (.inr (.inr (fun j => some (Ha j))))))), ((Ha 0), .inr (2, [.ref (Aa 0), .int (nI (NS 0))])), ((Aa 0), .inl (E.2.1, 14, .inl (aN (CS 0)))), ((Ha 1), .inr (2, [.ref (Aa 1), .int (nI (NS 1))])), ((Aa 1), .inl (E.2.1, 14, .inl (aN (CS 1)))), ((Ha 2), .inr (2, [.ref (Aa 2), .int (nI n)])), ((Aa 2), .inl (E.2.1, 14, .inl (aN (cpN Cd (CS 2) n)))), ((Ha 3), .inr (2, [.ref (Aa 3), .int (nI (NS 3))])), ((Aa 3), .inl (E.2.1, 14, .inl (aN (CS 3)))), ((Ha 4), .inr (2, [.ref (Aa 4), .int (nI (NS 4))])), ((Aa 4), .inl (E.2.1, 14, .inl (aN (CS 4)))), (o, .inr (2, [.ref a, .int (nI n)])), (a, .inl (E.2.1, 14, .inl (aN Cd)))] rfl rfl [] rfl 25 rfl ?_
    refine G_aload_n C dX4_keep_25 rfl 26 rfl ?_
    refine G_dup C dX4_keep_26 rfl 27 rfl ?_
    refine G_getf C dX4_keep_27 wF_X4 wf_X4_18 (f := 1) (by decide) (ci := 4) rfl 0 rfl rfl 30 rfl ?_
    refine G_iconst C dX4_keep_30 (v := nI 1) rfl 31 rfl ?_
    refine G_iadd C dX4_keep_31 (v := nI 3) (by decide) 32 rfl ?_
    refine G_putf C dX4_keep_32 wF_X4 wf_X4_18 (f := 1) (by decide) (ci := 4) rfl tyX4_ok nmX4 rfl 0 rfl rfl rfl (Nat.le_of_ble_eq_true rfl) [(so, .inr (4, [.ref sk, .int (nI 3)])), (sk, .inl (E.2.2, 5, .inr (.inr (.inr (.inr (fun j => some (Ha j))))))), ((Ha 0), .inr (2, [.ref (Aa 0), .int (nI (NS 0))])), ((Aa 0), .inl (E.2.1, 14, .inl (aN (CS 0)))), ((Ha 1), .inr (2, [.ref (Aa 1), .int (nI (NS 1))])), ((Aa 1), .inl (E.2.1, 14, .inl (aN (CS 1)))), ((Ha 2), .inr (2, [.ref (Aa 2), .int (nI n)])), ((Aa 2), .inl (E.2.1, 14, .inl (aN (cpN Cd (CS 2) n)))), ((Ha 3), .inr (2, [.ref (Aa 3), .int (nI (NS 3))])), ((Aa 3), .inl (E.2.1, 14, .inl (aN (CS 3)))), ((Ha 4), .inr (2, [.ref (Aa 4), .int (nI (NS 4))])), ((Aa 4), .inl (E.2.1, 14, .inl (aN (CS 4)))), (o, .inr (2, [.ref a, .int (nI n)])), (a, .inl (E.2.1, 14, .inl (aN Cd)))] rfl 35 rfl ?_
    exact G_vret C hr dX4_keep_35 () trivial rfl rfl
  · refine G_aload_n C dX4_keep_0 rfl 1 rfl ?_
    refine G_getf C dX4_keep_1 wF_X4 wf_X4_18 (f := 1) (by decide) (ci := 4) rfl 0 rfl rfl 4 rfl ?_
    refine G_iconst C dX4_keep_4 (v := nI 5) rfl 5 rfl ?_
    refine G_icmp_ne_t C dX4_keep_5 12 rfl (by decide) ?_
    refine G_aload_n C dX4_keep_12 rfl 13 rfl ?_
    refine G_getf C dX4_keep_13 wF_X4 wf_X4_11 (f := 0) (by decide) (ci := 4) rfl 0 rfl rfl 16 rfl ?_
    refine G_aload_n C dX4_keep_16 rfl 17 rfl ?_
    refine G_getf C dX4_keep_17 wF_X4 wf_X4_18 (f := 1) (by decide) (ci := 4) rfl 0 rfl rfl 20 rfl ?_
    refine G_aald C dX4_keep_20 1 rfl (v := .ref (Ha 3)) (vp_in_nI (by decide) (by decide)) rfl 21 rfl ?_
    refine G_aload_n C dX4_keep_21 rfl 22 rfl ?_
    refine G_cV C dX4_keep_22 (c_X2_copyFrom l E (Ha 3) (Aa 3) (NS 3) (CS 3) o a n Cd (by first | assumption | omega)) wm_X4_25 wi_X2_copyFrom wsel_X2_copyFrom wn_X2 wc_X2_copyFrom rfl rfl ⟨by decide, by decide, rfl⟩ rfl (Nat.le_of_ble_eq_true rfl) 2 rfl rfl 0 rfl [8, 9, 12, 13] [0, 1, 2, 3, 4, 5, 6, 7, 10, 11] (wr := [(so, .inr (4, [.ref sk, .int (nI 3)])), (sk, .inl (E.2.2, 5, .inr (.inr (.inr (.inr (fun j => some (Ha j))))))), ((Ha 0), .inr (2, [.ref (Aa 0), .int (nI (NS 0))])), ((Aa 0), .inl (E.2.1, 14, .inl (aN (CS 0)))), ((Ha 1), .inr (2, [.ref (Aa 1), .int (nI (NS 1))])), ((Aa 1), .inl (E.2.1, 14, .inl (aN (CS 1)))), ((Ha 2), .inr (2, [.ref (Aa 2), .int (nI (NS 2))])), ((Aa 2), .inl (E.2.1, 14, .inl (aN (CS 2)))), ((Ha 4), .inr (2, [.ref (Aa 4), .int (nI (NS 4))])), ((Aa 4), .inl (E.2.1, 14, .inl (aN (CS 4))))]) rfl rfl rfl rfl rfl [0, 1, 2, 3, 4, 5, 6, 7, 10, 11, 8, 9, 12, 13] rfl [(so, .inr (4, [.ref sk, .int (nI 3)])), (sk, .inl (E.2.2, 5, .inr (.inr (.inr (.inr (fun j => some (Ha j))))))), ((Ha 0), .inr (2, [.ref (Aa 0), .int (nI (NS 0))])), ((Aa 0), .inl (E.2.1, 14, .inl (aN (CS 0)))), ((Ha 1), .inr (2, [.ref (Aa 1), .int (nI (NS 1))])), ((Aa 1), .inl (E.2.1, 14, .inl (aN (CS 1)))), ((Ha 2), .inr (2, [.ref (Aa 2), .int (nI (NS 2))])), ((Aa 2), .inl (E.2.1, 14, .inl (aN (CS 2)))), ((Ha 3), .inr (2, [.ref (Aa 3), .int (nI n)])), ((Aa 3), .inl (E.2.1, 14, .inl (aN (cpN Cd (CS 3) n)))), ((Ha 4), .inr (2, [.ref (Aa 4), .int (nI (NS 4))])), ((Aa 4), .inl (E.2.1, 14, .inl (aN (CS 4)))), (o, .inr (2, [.ref a, .int (nI n)])), (a, .inl (E.2.1, 14, .inl (aN Cd)))] rfl rfl [] rfl 25 rfl ?_
    refine G_aload_n C dX4_keep_25 rfl 26 rfl ?_
    refine G_dup C dX4_keep_26 rfl 27 rfl ?_
    refine G_getf C dX4_keep_27 wF_X4 wf_X4_18 (f := 1) (by decide) (ci := 4) rfl 0 rfl rfl 30 rfl ?_
    refine G_iconst C dX4_keep_30 (v := nI 1) rfl 31 rfl ?_
    refine G_iadd C dX4_keep_31 (v := nI 4) (by decide) 32 rfl ?_
    refine G_putf C dX4_keep_32 wF_X4 wf_X4_18 (f := 1) (by decide) (ci := 4) rfl tyX4_ok nmX4 rfl 0 rfl rfl rfl (Nat.le_of_ble_eq_true rfl) [(so, .inr (4, [.ref sk, .int (nI 4)])), (sk, .inl (E.2.2, 5, .inr (.inr (.inr (.inr (fun j => some (Ha j))))))), ((Ha 0), .inr (2, [.ref (Aa 0), .int (nI (NS 0))])), ((Aa 0), .inl (E.2.1, 14, .inl (aN (CS 0)))), ((Ha 1), .inr (2, [.ref (Aa 1), .int (nI (NS 1))])), ((Aa 1), .inl (E.2.1, 14, .inl (aN (CS 1)))), ((Ha 2), .inr (2, [.ref (Aa 2), .int (nI (NS 2))])), ((Aa 2), .inl (E.2.1, 14, .inl (aN (CS 2)))), ((Ha 3), .inr (2, [.ref (Aa 3), .int (nI n)])), ((Aa 3), .inl (E.2.1, 14, .inl (aN (cpN Cd (CS 3) n)))), ((Ha 4), .inr (2, [.ref (Aa 4), .int (nI (NS 4))])), ((Aa 4), .inl (E.2.1, 14, .inl (aN (CS 4)))), (o, .inr (2, [.ref a, .int (nI n)])), (a, .inl (E.2.1, 14, .inl (aN Cd)))] rfl 35 rfl ?_
    exact G_vret C hr dX4_keep_35 () trivial rfl rfl
  · refine G_aload_n C dX4_keep_0 rfl 1 rfl ?_
    refine G_getf C dX4_keep_1 wF_X4 wf_X4_18 (f := 1) (by decide) (ci := 4) rfl 0 rfl rfl 4 rfl ?_
    refine G_iconst C dX4_keep_4 (v := nI 5) rfl 5 rfl ?_
    refine G_icmp_ne_t C dX4_keep_5 12 rfl (by decide) ?_
    refine G_aload_n C dX4_keep_12 rfl 13 rfl ?_
    refine G_getf C dX4_keep_13 wF_X4 wf_X4_11 (f := 0) (by decide) (ci := 4) rfl 0 rfl rfl 16 rfl ?_
    refine G_aload_n C dX4_keep_16 rfl 17 rfl ?_
    refine G_getf C dX4_keep_17 wF_X4 wf_X4_18 (f := 1) (by decide) (ci := 4) rfl 0 rfl rfl 20 rfl ?_
    refine G_aald C dX4_keep_20 1 rfl (v := .ref (Ha 4)) (vp_in_nI (by decide) (by decide)) rfl 21 rfl ?_
    refine G_aload_n C dX4_keep_21 rfl 22 rfl ?_
    refine G_cV C dX4_keep_22 (c_X2_copyFrom l E (Ha 4) (Aa 4) (NS 4) (CS 4) o a n Cd (by first | assumption | omega)) wm_X4_25 wi_X2_copyFrom wsel_X2_copyFrom wn_X2 wc_X2_copyFrom rfl rfl ⟨by decide, by decide, rfl⟩ rfl (Nat.le_of_ble_eq_true rfl) 2 rfl rfl 0 rfl [10, 11, 12, 13] [0, 1, 2, 3, 4, 5, 6, 7, 8, 9] (wr := [(so, .inr (4, [.ref sk, .int (nI 4)])), (sk, .inl (E.2.2, 5, .inr (.inr (.inr (.inr (fun j => some (Ha j))))))), ((Ha 0), .inr (2, [.ref (Aa 0), .int (nI (NS 0))])), ((Aa 0), .inl (E.2.1, 14, .inl (aN (CS 0)))), ((Ha 1), .inr (2, [.ref (Aa 1), .int (nI (NS 1))])), ((Aa 1), .inl (E.2.1, 14, .inl (aN (CS 1)))), ((Ha 2), .inr (2, [.ref (Aa 2), .int (nI (NS 2))])), ((Aa 2), .inl (E.2.1, 14, .inl (aN (CS 2)))), ((Ha 3), .inr (2, [.ref (Aa 3), .int (nI (NS 3))])), ((Aa 3), .inl (E.2.1, 14, .inl (aN (CS 3))))]) rfl rfl rfl rfl rfl [0, 1, 2, 3, 4, 5, 6, 7, 8, 9, 10, 11, 12, 13] rfl [(so, .inr (4, [.ref sk, .int (nI 4)])), (sk, .inl (E.2.2, 5, .inr (.inr (.inr (.inr (fun j => some (Ha j))))))), ((Ha 0), .inr (2, [.ref (Aa 0), .int (nI (NS 0))])), ((Aa 0), .inl (E.2.1, 14, .inl (aN (CS 0)))), ((Ha 1), .inr (2, [.ref (Aa 1), .int (nI (NS 1))])), ((Aa 1), .inl (E.2.1, 14, .inl (aN (CS 1)))), ((Ha 2), .inr (2, [.ref (Aa 2), .int (nI (NS 2))])), ((Aa 2), .inl (E.2.1, 14, .inl (aN (CS 2)))), ((Ha 3), .inr (2, [.ref (Aa 3), .int (nI (NS 3))])), ((Aa 3), .inl (E.2.1, 14, .inl (aN (CS 3)))), ((Ha 4), .inr (2, [.ref (Aa 4), .int (nI n)])), ((Aa 4), .inl (E.2.1, 14, .inl (aN (cpN Cd (CS 4) n)))), (o, .inr (2, [.ref a, .int (nI n)])), (a, .inl (E.2.1, 14, .inl (aN Cd)))] rfl rfl [] rfl 25 rfl ?_
    refine G_aload_n C dX4_keep_25 rfl 26 rfl ?_
    refine G_dup C dX4_keep_26 rfl 27 rfl ?_
    refine G_getf C dX4_keep_27 wF_X4 wf_X4_18 (f := 1) (by decide) (ci := 4) rfl 0 rfl rfl 30 rfl ?_
    refine G_iconst C dX4_keep_30 (v := nI 1) rfl 31 rfl ?_
    refine G_iadd C dX4_keep_31 (v := nI 5) (by decide) 32 rfl ?_
    refine G_putf C dX4_keep_32 wF_X4 wf_X4_18 (f := 1) (by decide) (ci := 4) rfl tyX4_ok nmX4 rfl 0 rfl rfl rfl (Nat.le_of_ble_eq_true rfl) [(so, .inr (4, [.ref sk, .int (nI 5)])), (sk, .inl (E.2.2, 5, .inr (.inr (.inr (.inr (fun j => some (Ha j))))))), ((Ha 0), .inr (2, [.ref (Aa 0), .int (nI (NS 0))])), ((Aa 0), .inl (E.2.1, 14, .inl (aN (CS 0)))), ((Ha 1), .inr (2, [.ref (Aa 1), .int (nI (NS 1))])), ((Aa 1), .inl (E.2.1, 14, .inl (aN (CS 1)))), ((Ha 2), .inr (2, [.ref (Aa 2), .int (nI (NS 2))])), ((Aa 2), .inl (E.2.1, 14, .inl (aN (CS 2)))), ((Ha 3), .inr (2, [.ref (Aa 3), .int (nI (NS 3))])), ((Aa 3), .inl (E.2.1, 14, .inl (aN (CS 3)))), ((Ha 4), .inr (2, [.ref (Aa 4), .int (nI n)])), ((Aa 4), .inl (E.2.1, 14, .inl (aN (cpN Cd (CS 4) n)))), (o, .inr (2, [.ref a, .int (nI n)])), (a, .inl (E.2.1, 14, .inl (aN Cd)))] rfl 35 rfl ?_
    exact G_vret C hr dX4_keep_35 () trivial rfl rfl
  · refine G_aload_n C dX4_keep_0 rfl 1 rfl ?_
    refine G_getf C dX4_keep_1 wF_X4 wf_X4_18 (f := 1) (by decide) (ci := 4) rfl 0 rfl rfl 4 rfl ?_
    refine G_iconst C dX4_keep_4 (v := nI 5) rfl 5 rfl ?_
    refine G_icmp_ne_f C dX4_keep_5 12 rfl 8 rfl (by decide) ?_
    refine G_aload_n C dX4_keep_8 rfl 9 rfl ?_
    refine G_cV C dX4_keep_9 (c_X4_loseOldest l E so sk Ha Aa 5 NS CS ) wm_X4_22 wi_X4_loseOldest wsel_X4_loseOldest wn_X4 wc_X4_loseOldest rfl rfl ⟨by decide, by decide, rfl⟩ rfl (Nat.le_of_ble_eq_true rfl) 4 rfl rfl 0 rfl [0, 1, 2, 3, 4, 5, 6, 7, 8, 9, 10, 11] [12, 13] (wr := [(o, .inr (2, [.ref a, .int (nI n)])), (a, .inl (E.2.1, 14, .inl (aN Cd)))]) rfl rfl rfl rfl rfl [2, 3, 4, 5, 6, 7, 8, 9, 10, 11, 12, 13, 0, 1] rfl [(so, .inr (4, [.ref sk, .int (nI 4)])), (sk, .inl (E.2.2, 5, .inr (.inr (.inr (.inr (fun j => some (rotA Ha j))))))), ((rotA Ha 0), .inr (2, [.ref (rotA Aa 0), .int (nI (NS 1))])), ((rotA Aa 0), .inl (E.2.1, 14, .inl (aN (CS 1)))), ((rotA Ha 1), .inr (2, [.ref (rotA Aa 1), .int (nI (NS 2))])), ((rotA Aa 1), .inl (E.2.1, 14, .inl (aN (CS 2)))), ((rotA Ha 2), .inr (2, [.ref (rotA Aa 2), .int (nI (NS 3))])), ((rotA Aa 2), .inl (E.2.1, 14, .inl (aN (CS 3)))), ((rotA Ha 3), .inr (2, [.ref (rotA Aa 3), .int (nI (NS 4))])), ((rotA Aa 3), .inl (E.2.1, 14, .inl (aN (CS 4)))), ((rotA Ha 4), .inr (2, [.ref (rotA Aa 4), .int (nI (NS 0))])), ((rotA Aa 4), .inl (E.2.1, 14, .inl (aN (CS 0)))), (o, .inr (2, [.ref a, .int (nI n)])), (a, .inl (E.2.1, 14, .inl (aN Cd)))] rfl rfl [] rfl 12 rfl ?_
    refine G_aload_n C dX4_keep_12 rfl 13 rfl ?_
    refine G_getf C dX4_keep_13 wF_X4 wf_X4_11 (f := 0) (by decide) (ci := 4) rfl 0 rfl rfl 16 rfl ?_
    refine G_aload_n C dX4_keep_16 rfl 17 rfl ?_
    refine G_getf C dX4_keep_17 wF_X4 wf_X4_18 (f := 1) (by decide) (ci := 4) rfl 0 rfl rfl 20 rfl ?_
    refine G_aald C dX4_keep_20 1 rfl (v := .ref (rotA Ha 4)) (vp_in_nI (by decide) (by decide)) rfl 21 rfl ?_
    refine G_aload_n C dX4_keep_21 rfl 22 rfl ?_
    refine G_cV C dX4_keep_22 (c_X2_copyFrom l E (rotA Ha 4) (rotA Aa 4) (NS 0) (CS 0) o a n Cd (by first | assumption | omega)) wm_X4_25 wi_X2_copyFrom wsel_X2_copyFrom wn_X2 wc_X2_copyFrom rfl rfl ⟨by decide, by decide, rfl⟩ rfl (Nat.le_of_ble_eq_true rfl) 2 rfl rfl 0 rfl [10, 11, 12, 13] [0, 1, 2, 3, 4, 5, 6, 7, 8, 9] (wr := [(so, .inr (4, [.ref sk, .int (nI 4)])), (sk, .inl (E.2.2, 5, .inr (.inr (.inr (.inr (fun j => some (rotA Ha j))))))), ((rotA Ha 0), .inr (2, [.ref (rotA Aa 0), .int (nI (NS 1))])), ((rotA Aa 0), .inl (E.2.1, 14, .inl (aN (CS 1)))), ((rotA Ha 1), .inr (2, [.ref (rotA Aa 1), .int (nI (NS 2))])), ((rotA Aa 1), .inl (E.2.1, 14, .inl (aN (CS 2)))), ((rotA Ha 2), .inr (2, [.ref (rotA Aa 2), .int (nI (NS 3))])), ((rotA Aa 2), .inl (E.2.1, 14, .inl (aN (CS 3)))), ((rotA Ha 3), .inr (2, [.ref (rotA Aa 3), .int (nI (NS 4))])), ((rotA Aa 3), .inl (E.2.1, 14, .inl (aN (CS 4))))]) rfl rfl rfl rfl rfl [0, 1, 2, 3, 4, 5, 6, 7, 8, 9, 10, 11, 12, 13] rfl [(so, .inr (4, [.ref sk, .int (nI 4)])), (sk, .inl (E.2.2, 5, .inr (.inr (.inr (.inr (fun j => some (rotA Ha j))))))), ((rotA Ha 0), .inr (2, [.ref (rotA Aa 0), .int (nI (NS 1))])), ((rotA Aa 0), .inl (E.2.1, 14, .inl (aN (CS 1)))), ((rotA Ha 1), .inr (2, [.ref (rotA Aa 1), .int (nI (NS 2))])), ((rotA Aa 1), .inl (E.2.1, 14, .inl (aN (CS 2)))), ((rotA Ha 2), .inr (2, [.ref (rotA Aa 2), .int (nI (NS 3))])), ((rotA Aa 2), .inl (E.2.1, 14, .inl (aN (CS 3)))), ((rotA Ha 3), .inr (2, [.ref (rotA Aa 3), .int (nI (NS 4))])), ((rotA Aa 3), .inl (E.2.1, 14, .inl (aN (CS 4)))), ((rotA Ha 4), .inr (2, [.ref (rotA Aa 4), .int (nI n)])), ((rotA Aa 4), .inl (E.2.1, 14, .inl (aN (cpN Cd (CS 0) n)))), (o, .inr (2, [.ref a, .int (nI n)])), (a, .inl (E.2.1, 14, .inl (aN Cd)))] rfl rfl [] rfl 25 rfl ?_
    refine G_aload_n C dX4_keep_25 rfl 26 rfl ?_
    refine G_dup C dX4_keep_26 rfl 27 rfl ?_
    refine G_getf C dX4_keep_27 wF_X4 wf_X4_18 (f := 1) (by decide) (ci := 4) rfl 0 rfl rfl 30 rfl ?_
    refine G_iconst C dX4_keep_30 (v := nI 1) rfl 31 rfl ?_
    refine G_iadd C dX4_keep_31 (v := nI 5) (by decide) 32 rfl ?_
    refine G_putf C dX4_keep_32 wF_X4 wf_X4_18 (f := 1) (by decide) (ci := 4) rfl tyX4_ok nmX4 rfl 0 rfl rfl rfl (Nat.le_of_ble_eq_true rfl) [(so, .inr (4, [.ref sk, .int (nI 5)])), (sk, .inl (E.2.2, 5, .inr (.inr (.inr (.inr (fun j => some (rotA Ha j))))))), ((rotA Ha 0), .inr (2, [.ref (rotA Aa 0), .int (nI (NS 1))])), ((rotA Aa 0), .inl (E.2.1, 14, .inl (aN (CS 1)))), ((rotA Ha 1), .inr (2, [.ref (rotA Aa 1), .int (nI (NS 2))])), ((rotA Aa 1), .inl (E.2.1, 14, .inl (aN (CS 2)))), ((rotA Ha 2), .inr (2, [.ref (rotA Aa 2), .int (nI (NS 3))])), ((rotA Aa 2), .inl (E.2.1, 14, .inl (aN (CS 3)))), ((rotA Ha 3), .inr (2, [.ref (rotA Aa 3), .int (nI (NS 4))])), ((rotA Aa 3), .inl (E.2.1, 14, .inl (aN (CS 4)))), ((rotA Ha 4), .inr (2, [.ref (rotA Aa 4), .int (nI n)])), ((rotA Aa 4), .inl (E.2.1, 14, .inl (aN (cpN Cd (CS 0) n)))), (o, .inr (2, [.ref a, .int (nI n)])), (a, .inl (E.2.1, 14, .inl (aN Cd)))] rfl 35 rfl ?_
    exact G_vret C hr dX4_keep_35 () trivial rfl rfl

set_option maxHeartbeats 4000000 in
set_option maxRecDepth 100000 in
theorem c_X4_restore (l : Launch) (E : gE) (so sk : Nat) (Ha Aa : Nat → Nat) (sn : Nat) (NS : Nat → Nat) (CS : Nat → Nat → Nat) (o a n : Nat) (Cd : Nat → Nat) (hs5 : sn ≤ 5) (hs0 : 0 < sn) (hN : ∀ j, j < sn → NS j ≤ 14) : FD l E yX4_restore cX4_restore 2 none { frames := 2, cells := 0, slots := 0, locals := 61 } [.ref so, .ref o] [(so, .inr (4, [.ref sk, .int (nI sn)])), (sk, .inl (E.2.2, 5, .inr (.inr (.inr (.inr (fun j => some (Ha j))))))), ((Ha 0), .inr (2, [.ref (Aa 0), .int (nI (NS 0))])), ((Aa 0), .inl (E.2.1, 14, .inl (aN (CS 0)))), ((Ha 1), .inr (2, [.ref (Aa 1), .int (nI (NS 1))])), ((Aa 1), .inl (E.2.1, 14, .inl (aN (CS 1)))), ((Ha 2), .inr (2, [.ref (Aa 2), .int (nI (NS 2))])), ((Aa 2), .inl (E.2.1, 14, .inl (aN (CS 2)))), ((Ha 3), .inr (2, [.ref (Aa 3), .int (nI (NS 3))])), ((Aa 3), .inl (E.2.1, 14, .inl (aN (CS 3)))), ((Ha 4), .inr (2, [.ref (Aa 4), .int (nI (NS 4))])), ((Aa 4), .inl (E.2.1, 14, .inl (aN (CS 4)))), (o, .inr (2, [.ref a, .int (nI n)])), (a, .inl (E.2.1, 14, .inl (aN Cd)))] none [(so, .inr (4, [.ref sk, .int (nI (sn - 1))])), (sk, .inl (E.2.2, 5, .inr (.inr (.inr (.inr (fun j => some (Ha j))))))), ((Ha 0), .inr (2, [.ref (Aa 0), .int (nI (NS 0))])), ((Aa 0), .inl (E.2.1, 14, .inl (aN (CS 0)))), ((Ha 1), .inr (2, [.ref (Aa 1), .int (nI (NS 1))])), ((Aa 1), .inl (E.2.1, 14, .inl (aN (CS 1)))), ((Ha 2), .inr (2, [.ref (Aa 2), .int (nI (NS 2))])), ((Aa 2), .inl (E.2.1, 14, .inl (aN (CS 2)))), ((Ha 3), .inr (2, [.ref (Aa 3), .int (nI (NS 3))])), ((Aa 3), .inl (E.2.1, 14, .inl (aN (CS 3)))), ((Ha 4), .inr (2, [.ref (Aa 4), .int (nI (NS 4))])), ((Aa 4), .inl (E.2.1, 14, .inl (aN (CS 4)))), (o, .inr (2, [.ref a, .int (nI (NS (sn - 1)))])), (a, .inl (E.2.1, 14, .inl (aN (cpN (CS (sn - 1)) Cd (NS (sn - 1))))))] := by
  refine Fn_ofL (own := RX4) (by decide) rfl rfl [(0, .ref so), (1, .ref o)] rfl ?_
  intro p e s m below meth c A C hr hnm
  rcases (show sn = 1 ∨ sn = 2 ∨ sn = 3 ∨ sn = 4 ∨ sn = 5 by omega) with rfl | rfl | rfl | rfl | rfl
  · refine G_aload_n C dX4_restore_0 rfl 1 rfl ?_
    refine G_getf C dX4_restore_1 wF_X4 wf_X4_18 (f := 1) (by decide) (ci := 4) rfl 0 rfl rfl 4 rfl ?_
    refine G_if_le_f C dX4_restore_4 30 rfl 7 rfl (by decide) ?_
    refine G_aload_n C dX4_restore_7 rfl 8 rfl ?_
    refine G_dup C dX4_restore_8 rfl 9 rfl ?_
    refine G_getf C dX4_restore_9 wF_X4 wf_X4_18 (f := 1) (by decide) (ci := 4) rfl 0 rfl rfl 12 rfl ?_
    refine G_iconst C dX4_restore_12 (v := nI 1) rfl 13 rfl ?_
    refine G_isub C dX4_restore_13 (v := nI 0) (by decide) 14 rfl ?_
    refine G_putf C dX4_restore_14 wF_X4 wf_X4_18 (f := 1) (by decide) (ci := 4) rfl tyX4_ok nmX4 rfl 0 rfl rfl rfl (Nat.le_of_ble_eq_true rfl) [(so, .inr (4, [.ref sk, .int (nI 0)])), (sk, .inl (E.2.2, 5, .inr (.inr (.inr (.inr (fun j => some (Ha j))))))), ((Ha 0), .inr (2, [.ref (Aa 0), .int (nI (NS 0))])), ((Aa 0), .inl (E.2.1, 14, .inl (aN (CS 0)))), ((Ha 1), .inr (2, [.ref (Aa 1), .int (nI (NS 1))])), ((Aa 1), .inl (E.2.1, 14, .inl (aN (CS 1)))), ((Ha 2), .inr (2, [.ref (Aa 2), .int (nI (NS 2))])), ((Aa 2), .inl (E.2.1, 14, .inl (aN (CS 2)))), ((Ha 3), .inr (2, [.ref (Aa 3), .int (nI (NS 3))])), ((Aa 3), .inl (E.2.1, 14, .inl (aN (CS 3)))), ((Ha 4), .inr (2, [.ref (Aa 4), .int (nI (NS 4))])), ((Aa 4), .inl (E.2.1, 14, .inl (aN (CS 4)))), (o, .inr (2, [.ref a, .int (nI n)])), (a, .inl (E.2.1, 14, .inl (aN Cd)))] rfl 17 rfl ?_
    refine G_aload_n C dX4_restore_17 rfl 18 rfl ?_
    refine G_aload_n C dX4_restore_18 rfl 19 rfl ?_
    refine G_getf C dX4_restore_19 wF_X4 wf_X4_11 (f := 0) (by decide) (ci := 4) rfl 0 rfl rfl 22 rfl ?_
    refine G_aload_n C dX4_restore_22 rfl 23 rfl ?_
    refine G_getf C dX4_restore_23 wF_X4 wf_X4_18 (f := 1) (by decide) (ci := 4) rfl 0 rfl rfl 26 rfl ?_
    refine G_aald C dX4_restore_26 1 rfl (v := .ref (Ha 0)) (vp_in_nI (by decide) (by decide)) rfl 27 rfl ?_
    refine G_cV C dX4_restore_27 (c_X2_copyFrom l E o a n Cd (Ha 0) (Aa 0) (NS 0) (CS 0) (hN _ (by omega))) wm_X4_25 wi_X2_copyFrom wsel_X2_copyFrom wn_X2 wc_X2_copyFrom rfl rfl ⟨by decide, by decide, rfl⟩ rfl (Nat.le_of_ble_eq_true rfl) 2 rfl rfl 0 rfl [12, 13, 2, 3] [0, 1, 4, 5, 6, 7, 8, 9, 10, 11] (wr := [(so, .inr (4, [.ref sk, .int (nI 0)])), (sk, .inl (E.2.2, 5, .inr (.inr (.inr (.inr (fun j => some (Ha j))))))), ((Ha 1), .inr (2, [.ref (Aa 1), .int (nI (NS 1))])), ((Aa 1), .inl (E.2.1, 14, .inl (aN (CS 1)))), ((Ha 2), .inr (2, [.ref (Aa 2), .int (nI (NS 2))])), ((Aa 2), .inl (E.2.1, 14, .inl (aN (CS 2)))), ((Ha 3), .inr (2, [.ref (Aa 3), .int (nI (NS 3))])), ((Aa 3), .inl (E.2.1, 14, .inl (aN (CS 3)))), ((Ha 4), .inr (2, [.ref (Aa 4), .int (nI (NS 4))])), ((Aa 4), .inl (E.2.1, 14, .inl (aN (CS 4))))]) rfl rfl rfl rfl rfl [0, 1, 12, 13, 2, 3, 4, 5, 6, 7, 8, 9, 10, 11] rfl [(so, .inr (4, [.ref sk, .int (nI 0)])), (sk, .inl (E.2.2, 5, .inr (.inr (.inr (.inr (fun j => some (Ha j))))))), ((Ha 0), .inr (2, [.ref (Aa 0), .int (nI (NS 0))])), ((Aa 0), .inl (E.2.1, 14, .inl (aN (CS 0)))), ((Ha 1), .inr (2, [.ref (Aa 1), .int (nI (NS 1))])), ((Aa 1), .inl (E.2.1, 14, .inl (aN (CS 1)))), ((Ha 2), .inr (2, [.ref (Aa 2), .int (nI (NS 2))])), ((Aa 2), .inl (E.2.1, 14, .inl (aN (CS 2)))), ((Ha 3), .inr (2, [.ref (Aa 3), .int (nI (NS 3))])), ((Aa 3), .inl (E.2.1, 14, .inl (aN (CS 3)))), ((Ha 4), .inr (2, [.ref (Aa 4), .int (nI (NS 4))])), ((Aa 4), .inl (E.2.1, 14, .inl (aN (CS 4)))), (o, .inr (2, [.ref a, .int (nI (NS 0))])), (a, .inl (E.2.1, 14, .inl (aN (cpN (CS 0) Cd (NS 0)))))] rfl rfl [] rfl 30 rfl ?_
    exact G_vret C hr dX4_restore_30 () trivial rfl rfl
  · refine G_aload_n C dX4_restore_0 rfl 1 rfl ?_
    refine G_getf C dX4_restore_1 wF_X4 wf_X4_18 (f := 1) (by decide) (ci := 4) rfl 0 rfl rfl 4 rfl ?_
    refine G_if_le_f C dX4_restore_4 30 rfl 7 rfl (by decide) ?_
    refine G_aload_n C dX4_restore_7 rfl 8 rfl ?_
    refine G_dup C dX4_restore_8 rfl 9 rfl ?_
    refine G_getf C dX4_restore_9 wF_X4 wf_X4_18 (f := 1) (by decide) (ci := 4) rfl 0 rfl rfl 12 rfl ?_
    refine G_iconst C dX4_restore_12 (v := nI 1) rfl 13 rfl ?_
    refine G_isub C dX4_restore_13 (v := nI 1) (by decide) 14 rfl ?_
    refine G_putf C dX4_restore_14 wF_X4 wf_X4_18 (f := 1) (by decide) (ci := 4) rfl tyX4_ok nmX4 rfl 0 rfl rfl rfl (Nat.le_of_ble_eq_true rfl) [(so, .inr (4, [.ref sk, .int (nI 1)])), (sk, .inl (E.2.2, 5, .inr (.inr (.inr (.inr (fun j => some (Ha j))))))), ((Ha 0), .inr (2, [.ref (Aa 0), .int (nI (NS 0))])), ((Aa 0), .inl (E.2.1, 14, .inl (aN (CS 0)))), ((Ha 1), .inr (2, [.ref (Aa 1), .int (nI (NS 1))])), ((Aa 1), .inl (E.2.1, 14, .inl (aN (CS 1)))), ((Ha 2), .inr (2, [.ref (Aa 2), .int (nI (NS 2))])), ((Aa 2), .inl (E.2.1, 14, .inl (aN (CS 2)))), ((Ha 3), .inr (2, [.ref (Aa 3), .int (nI (NS 3))])), ((Aa 3), .inl (E.2.1, 14, .inl (aN (CS 3)))), ((Ha 4), .inr (2, [.ref (Aa 4), .int (nI (NS 4))])), ((Aa 4), .inl (E.2.1, 14, .inl (aN (CS 4)))), (o, .inr (2, [.ref a, .int (nI n)])), (a, .inl (E.2.1, 14, .inl (aN Cd)))] rfl 17 rfl ?_
    refine G_aload_n C dX4_restore_17 rfl 18 rfl ?_
    refine G_aload_n C dX4_restore_18 rfl 19 rfl ?_
    refine G_getf C dX4_restore_19 wF_X4 wf_X4_11 (f := 0) (by decide) (ci := 4) rfl 0 rfl rfl 22 rfl ?_
    refine G_aload_n C dX4_restore_22 rfl 23 rfl ?_
    refine G_getf C dX4_restore_23 wF_X4 wf_X4_18 (f := 1) (by decide) (ci := 4) rfl 0 rfl rfl 26 rfl ?_
    refine G_aald C dX4_restore_26 1 rfl (v := .ref (Ha 1)) (vp_in_nI (by decide) (by decide)) rfl 27 rfl ?_
    refine G_cV C dX4_restore_27 (c_X2_copyFrom l E o a n Cd (Ha 1) (Aa 1) (NS 1) (CS 1) (hN _ (by omega))) wm_X4_25 wi_X2_copyFrom wsel_X2_copyFrom wn_X2 wc_X2_copyFrom rfl rfl ⟨by decide, by decide, rfl⟩ rfl (Nat.le_of_ble_eq_true rfl) 2 rfl rfl 0 rfl [12, 13, 4, 5] [0, 1, 2, 3, 6, 7, 8, 9, 10, 11] (wr := [(so, .inr (4, [.ref sk, .int (nI 1)])), (sk, .inl (E.2.2, 5, .inr (.inr (.inr (.inr (fun j => some (Ha j))))))), ((Ha 0), .inr (2, [.ref (Aa 0), .int (nI (NS 0))])), ((Aa 0), .inl (E.2.1, 14, .inl (aN (CS 0)))), ((Ha 2), .inr (2, [.ref (Aa 2), .int (nI (NS 2))])), ((Aa 2), .inl (E.2.1, 14, .inl (aN (CS 2)))), ((Ha 3), .inr (2, [.ref (Aa 3), .int (nI (NS 3))])), ((Aa 3), .inl (E.2.1, 14, .inl (aN (CS 3)))), ((Ha 4), .inr (2, [.ref (Aa 4), .int (nI (NS 4))])), ((Aa 4), .inl (E.2.1, 14, .inl (aN (CS 4))))]) rfl rfl rfl rfl rfl [0, 1, 2, 3, 12, 13, 4, 5, 6, 7, 8, 9, 10, 11] rfl [(so, .inr (4, [.ref sk, .int (nI 1)])), (sk, .inl (E.2.2, 5, .inr (.inr (.inr (.inr (fun j => some (Ha j))))))), ((Ha 0), .inr (2, [.ref (Aa 0), .int (nI (NS 0))])), ((Aa 0), .inl (E.2.1, 14, .inl (aN (CS 0)))), ((Ha 1), .inr (2, [.ref (Aa 1), .int (nI (NS 1))])), ((Aa 1), .inl (E.2.1, 14, .inl (aN (CS 1)))), ((Ha 2), .inr (2, [.ref (Aa 2), .int (nI (NS 2))])), ((Aa 2), .inl (E.2.1, 14, .inl (aN (CS 2)))), ((Ha 3), .inr (2, [.ref (Aa 3), .int (nI (NS 3))])), ((Aa 3), .inl (E.2.1, 14, .inl (aN (CS 3)))), ((Ha 4), .inr (2, [.ref (Aa 4), .int (nI (NS 4))])), ((Aa 4), .inl (E.2.1, 14, .inl (aN (CS 4)))), (o, .inr (2, [.ref a, .int (nI (NS 1))])), (a, .inl (E.2.1, 14, .inl (aN (cpN (CS 1) Cd (NS 1)))))] rfl rfl [] rfl 30 rfl ?_
    exact G_vret C hr dX4_restore_30 () trivial rfl rfl
  · refine G_aload_n C dX4_restore_0 rfl 1 rfl ?_
    refine G_getf C dX4_restore_1 wF_X4 wf_X4_18 (f := 1) (by decide) (ci := 4) rfl 0 rfl rfl 4 rfl ?_
    refine G_if_le_f C dX4_restore_4 30 rfl 7 rfl (by decide) ?_
    refine G_aload_n C dX4_restore_7 rfl 8 rfl ?_
    refine G_dup C dX4_restore_8 rfl 9 rfl ?_
    refine G_getf C dX4_restore_9 wF_X4 wf_X4_18 (f := 1) (by decide) (ci := 4) rfl 0 rfl rfl 12 rfl ?_
    refine G_iconst C dX4_restore_12 (v := nI 1) rfl 13 rfl ?_
    refine G_isub C dX4_restore_13 (v := nI 2) (by decide) 14 rfl ?_
    refine G_putf C dX4_restore_14 wF_X4 wf_X4_18 (f := 1) (by decide) (ci := 4) rfl tyX4_ok nmX4 rfl 0 rfl rfl rfl (Nat.le_of_ble_eq_true rfl) [(so, .inr (4, [.ref sk, .int (nI 2)])), (sk, .inl (E.2.2, 5, .inr (.inr (.inr (.inr (fun j => some (Ha j))))))), ((Ha 0), .inr (2, [.ref (Aa 0), .int (nI (NS 0))])), ((Aa 0), .inl (E.2.1, 14, .inl (aN (CS 0)))), ((Ha 1), .inr (2, [.ref (Aa 1), .int (nI (NS 1))])), ((Aa 1), .inl (E.2.1, 14, .inl (aN (CS 1)))), ((Ha 2), .inr (2, [.ref (Aa 2), .int (nI (NS 2))])), ((Aa 2), .inl (E.2.1, 14, .inl (aN (CS 2)))), ((Ha 3), .inr (2, [.ref (Aa 3), .int (nI (NS 3))])), ((Aa 3), .inl (E.2.1, 14, .inl (aN (CS 3)))), ((Ha 4), .inr (2, [.ref (Aa 4), .int (nI (NS 4))])), ((Aa 4), .inl (E.2.1, 14, .inl (aN (CS 4)))), (o, .inr (2, [.ref a, .int (nI n)])), (a, .inl (E.2.1, 14, .inl (aN Cd)))] rfl 17 rfl ?_
    refine G_aload_n C dX4_restore_17 rfl 18 rfl ?_
    refine G_aload_n C dX4_restore_18 rfl 19 rfl ?_
    refine G_getf C dX4_restore_19 wF_X4 wf_X4_11 (f := 0) (by decide) (ci := 4) rfl 0 rfl rfl 22 rfl ?_
    refine G_aload_n C dX4_restore_22 rfl 23 rfl ?_
    refine G_getf C dX4_restore_23 wF_X4 wf_X4_18 (f := 1) (by decide) (ci := 4) rfl 0 rfl rfl 26 rfl ?_
    refine G_aald C dX4_restore_26 1 rfl (v := .ref (Ha 2)) (vp_in_nI (by decide) (by decide)) rfl 27 rfl ?_
    refine G_cV C dX4_restore_27 (c_X2_copyFrom l E o a n Cd (Ha 2) (Aa 2) (NS 2) (CS 2) (hN _ (by omega))) wm_X4_25 wi_X2_copyFrom wsel_X2_copyFrom wn_X2 wc_X2_copyFrom rfl rfl ⟨by decide, by decide, rfl⟩ rfl (Nat.le_of_ble_eq_true rfl) 2 rfl rfl 0 rfl [12, 13, 6, 7] [0, 1, 2, 3, 4, 5, 8, 9, 10, 11] (wr := [(so, .inr (4, [.ref sk, .int (nI 2)])), (sk, .inl (E.2.2, 5, .inr (.inr (.inr (.inr (fun j => some (Ha j))))))), ((Ha 0), .inr (2, [.ref (Aa 0), .int (nI (NS 0))])), ((Aa 0), .inl (E.2.1, 14, .inl (aN (CS 0)))), ((Ha 1), .inr (2, [.ref (Aa 1), .int (nI (NS 1))])), ((Aa 1), .inl (E.2.1, 14, .inl (aN (CS 1)))), ((Ha 3), .inr (2, [.ref (Aa 3), .int (nI (NS 3))])), ((Aa 3), .inl (E.2.1, 14, .inl (aN (CS 3)))), ((Ha 4), .inr (2, [.ref (Aa 4), .int (nI (NS 4))])), ((Aa 4), .inl (E.2.1, 14, .inl (aN (CS 4))))]) rfl rfl rfl rfl rfl [0, 1, 2, 3, 4, 5, 12, 13, 6, 7, 8, 9, 10, 11] rfl [(so, .inr (4, [.ref sk, .int (nI 2)])), (sk, .inl (E.2.2, 5, .inr (.inr (.inr (.inr (fun j => some (Ha j))))))), ((Ha 0), .inr (2, [.ref (Aa 0), .int (nI (NS 0))])), ((Aa 0), .inl (E.2.1, 14, .inl (aN (CS 0)))), ((Ha 1), .inr (2, [.ref (Aa 1), .int (nI (NS 1))])), ((Aa 1), .inl (E.2.1, 14, .inl (aN (CS 1)))), ((Ha 2), .inr (2, [.ref (Aa 2), .int (nI (NS 2))])), ((Aa 2), .inl (E.2.1, 14, .inl (aN (CS 2)))), ((Ha 3), .inr (2, [.ref (Aa 3), .int (nI (NS 3))])), ((Aa 3), .inl (E.2.1, 14, .inl (aN (CS 3)))), ((Ha 4), .inr (2, [.ref (Aa 4), .int (nI (NS 4))])), ((Aa 4), .inl (E.2.1, 14, .inl (aN (CS 4)))), (o, .inr (2, [.ref a, .int (nI (NS 2))])), (a, .inl (E.2.1, 14, .inl (aN (cpN (CS 2) Cd (NS 2)))))] rfl rfl [] rfl 30 rfl ?_
    exact G_vret C hr dX4_restore_30 () trivial rfl rfl
  · refine G_aload_n C dX4_restore_0 rfl 1 rfl ?_
    refine G_getf C dX4_restore_1 wF_X4 wf_X4_18 (f := 1) (by decide) (ci := 4) rfl 0 rfl rfl 4 rfl ?_
    refine G_if_le_f C dX4_restore_4 30 rfl 7 rfl (by decide) ?_
    refine G_aload_n C dX4_restore_7 rfl 8 rfl ?_
    refine G_dup C dX4_restore_8 rfl 9 rfl ?_
    refine G_getf C dX4_restore_9 wF_X4 wf_X4_18 (f := 1) (by decide) (ci := 4) rfl 0 rfl rfl 12 rfl ?_
    refine G_iconst C dX4_restore_12 (v := nI 1) rfl 13 rfl ?_
    refine G_isub C dX4_restore_13 (v := nI 3) (by decide) 14 rfl ?_
    refine G_putf C dX4_restore_14 wF_X4 wf_X4_18 (f := 1) (by decide) (ci := 4) rfl tyX4_ok nmX4 rfl 0 rfl rfl rfl (Nat.le_of_ble_eq_true rfl) [(so, .inr (4, [.ref sk, .int (nI 3)])), (sk, .inl (E.2.2, 5, .inr (.inr (.inr (.inr (fun j => some (Ha j))))))), ((Ha 0), .inr (2, [.ref (Aa 0), .int (nI (NS 0))])), ((Aa 0), .inl (E.2.1, 14, .inl (aN (CS 0)))), ((Ha 1), .inr (2, [.ref (Aa 1), .int (nI (NS 1))])), ((Aa 1), .inl (E.2.1, 14, .inl (aN (CS 1)))), ((Ha 2), .inr (2, [.ref (Aa 2), .int (nI (NS 2))])), ((Aa 2), .inl (E.2.1, 14, .inl (aN (CS 2)))), ((Ha 3), .inr (2, [.ref (Aa 3), .int (nI (NS 3))])), ((Aa 3), .inl (E.2.1, 14, .inl (aN (CS 3)))), ((Ha 4), .inr (2, [.ref (Aa 4), .int (nI (NS 4))])), ((Aa 4), .inl (E.2.1, 14, .inl (aN (CS 4)))), (o, .inr (2, [.ref a, .int (nI n)])), (a, .inl (E.2.1, 14, .inl (aN Cd)))] rfl 17 rfl ?_
    refine G_aload_n C dX4_restore_17 rfl 18 rfl ?_
    refine G_aload_n C dX4_restore_18 rfl 19 rfl ?_
    refine G_getf C dX4_restore_19 wF_X4 wf_X4_11 (f := 0) (by decide) (ci := 4) rfl 0 rfl rfl 22 rfl ?_
    refine G_aload_n C dX4_restore_22 rfl 23 rfl ?_
    refine G_getf C dX4_restore_23 wF_X4 wf_X4_18 (f := 1) (by decide) (ci := 4) rfl 0 rfl rfl 26 rfl ?_
    refine G_aald C dX4_restore_26 1 rfl (v := .ref (Ha 3)) (vp_in_nI (by decide) (by decide)) rfl 27 rfl ?_
    refine G_cV C dX4_restore_27 (c_X2_copyFrom l E o a n Cd (Ha 3) (Aa 3) (NS 3) (CS 3) (hN _ (by omega))) wm_X4_25 wi_X2_copyFrom wsel_X2_copyFrom wn_X2 wc_X2_copyFrom rfl rfl ⟨by decide, by decide, rfl⟩ rfl (Nat.le_of_ble_eq_true rfl) 2 rfl rfl 0 rfl [12, 13, 8, 9] [0, 1, 2, 3, 4, 5, 6, 7, 10, 11] (wr := [(so, .inr (4, [.ref sk, .int (nI 3)])), (sk, .inl (E.2.2, 5, .inr (.inr (.inr (.inr (fun j => some (Ha j))))))), ((Ha 0), .inr (2, [.ref (Aa 0), .int (nI (NS 0))])), ((Aa 0), .inl (E.2.1, 14, .inl (aN (CS 0)))), ((Ha 1), .inr (2, [.ref (Aa 1), .int (nI (NS 1))])), ((Aa 1), .inl (E.2.1, 14, .inl (aN (CS 1)))), ((Ha 2), .inr (2, [.ref (Aa 2), .int (nI (NS 2))])), ((Aa 2), .inl (E.2.1, 14, .inl (aN (CS 2)))), ((Ha 4), .inr (2, [.ref (Aa 4), .int (nI (NS 4))])), ((Aa 4), .inl (E.2.1, 14, .inl (aN (CS 4))))]) rfl rfl rfl rfl rfl [0, 1, 2, 3, 4, 5, 6, 7, 12, 13, 8, 9, 10, 11] rfl [(so, .inr (4, [.ref sk, .int (nI 3)])), (sk, .inl (E.2.2, 5, .inr (.inr (.inr (.inr (fun j => some (Ha j))))))), ((Ha 0), .inr (2, [.ref (Aa 0), .int (nI (NS 0))])), ((Aa 0), .inl (E.2.1, 14, .inl (aN (CS 0)))), ((Ha 1), .inr (2, [.ref (Aa 1), .int (nI (NS 1))])), ((Aa 1), .inl (E.2.1, 14, .inl (aN (CS 1)))), ((Ha 2), .inr (2, [.ref (Aa 2), .int (nI (NS 2))])), ((Aa 2), .inl (E.2.1, 14, .inl (aN (CS 2)))), ((Ha 3), .inr (2, [.ref (Aa 3), .int (nI (NS 3))])), ((Aa 3), .inl (E.2.1, 14, .inl (aN (CS 3)))), ((Ha 4), .inr (2, [.ref (Aa 4), .int (nI (NS 4))])), ((Aa 4), .inl (E.2.1, 14, .inl (aN (CS 4)))), (o, .inr (2, [.ref a, .int (nI (NS 3))])), (a, .inl (E.2.1, 14, .inl (aN (cpN (CS 3) Cd (NS 3)))))] rfl rfl [] rfl 30 rfl ?_
    exact G_vret C hr dX4_restore_30 () trivial rfl rfl
  · refine G_aload_n C dX4_restore_0 rfl 1 rfl ?_
    refine G_getf C dX4_restore_1 wF_X4 wf_X4_18 (f := 1) (by decide) (ci := 4) rfl 0 rfl rfl 4 rfl ?_
    refine G_if_le_f C dX4_restore_4 30 rfl 7 rfl (by decide) ?_
    refine G_aload_n C dX4_restore_7 rfl 8 rfl ?_
    refine G_dup C dX4_restore_8 rfl 9 rfl ?_
    refine G_getf C dX4_restore_9 wF_X4 wf_X4_18 (f := 1) (by decide) (ci := 4) rfl 0 rfl rfl 12 rfl ?_
    refine G_iconst C dX4_restore_12 (v := nI 1) rfl 13 rfl ?_
    refine G_isub C dX4_restore_13 (v := nI 4) (by decide) 14 rfl ?_
    refine G_putf C dX4_restore_14 wF_X4 wf_X4_18 (f := 1) (by decide) (ci := 4) rfl tyX4_ok nmX4 rfl 0 rfl rfl rfl (Nat.le_of_ble_eq_true rfl) [(so, .inr (4, [.ref sk, .int (nI 4)])), (sk, .inl (E.2.2, 5, .inr (.inr (.inr (.inr (fun j => some (Ha j))))))), ((Ha 0), .inr (2, [.ref (Aa 0), .int (nI (NS 0))])), ((Aa 0), .inl (E.2.1, 14, .inl (aN (CS 0)))), ((Ha 1), .inr (2, [.ref (Aa 1), .int (nI (NS 1))])), ((Aa 1), .inl (E.2.1, 14, .inl (aN (CS 1)))), ((Ha 2), .inr (2, [.ref (Aa 2), .int (nI (NS 2))])), ((Aa 2), .inl (E.2.1, 14, .inl (aN (CS 2)))), ((Ha 3), .inr (2, [.ref (Aa 3), .int (nI (NS 3))])), ((Aa 3), .inl (E.2.1, 14, .inl (aN (CS 3)))), ((Ha 4), .inr (2, [.ref (Aa 4), .int (nI (NS 4))])), ((Aa 4), .inl (E.2.1, 14, .inl (aN (CS 4)))), (o, .inr (2, [.ref a, .int (nI n)])), (a, .inl (E.2.1, 14, .inl (aN Cd)))] rfl 17 rfl ?_
    refine G_aload_n C dX4_restore_17 rfl 18 rfl ?_
    refine G_aload_n C dX4_restore_18 rfl 19 rfl ?_
    refine G_getf C dX4_restore_19 wF_X4 wf_X4_11 (f := 0) (by decide) (ci := 4) rfl 0 rfl rfl 22 rfl ?_
    refine G_aload_n C dX4_restore_22 rfl 23 rfl ?_
    refine G_getf C dX4_restore_23 wF_X4 wf_X4_18 (f := 1) (by decide) (ci := 4) rfl 0 rfl rfl 26 rfl ?_
    refine G_aald C dX4_restore_26 1 rfl (v := .ref (Ha 4)) (vp_in_nI (by decide) (by decide)) rfl 27 rfl ?_
    refine G_cV C dX4_restore_27 (c_X2_copyFrom l E o a n Cd (Ha 4) (Aa 4) (NS 4) (CS 4) (hN _ (by omega))) wm_X4_25 wi_X2_copyFrom wsel_X2_copyFrom wn_X2 wc_X2_copyFrom rfl rfl ⟨by decide, by decide, rfl⟩ rfl (Nat.le_of_ble_eq_true rfl) 2 rfl rfl 0 rfl [12, 13, 10, 11] [0, 1, 2, 3, 4, 5, 6, 7, 8, 9] (wr := [(so, .inr (4, [.ref sk, .int (nI 4)])), (sk, .inl (E.2.2, 5, .inr (.inr (.inr (.inr (fun j => some (Ha j))))))), ((Ha 0), .inr (2, [.ref (Aa 0), .int (nI (NS 0))])), ((Aa 0), .inl (E.2.1, 14, .inl (aN (CS 0)))), ((Ha 1), .inr (2, [.ref (Aa 1), .int (nI (NS 1))])), ((Aa 1), .inl (E.2.1, 14, .inl (aN (CS 1)))), ((Ha 2), .inr (2, [.ref (Aa 2), .int (nI (NS 2))])), ((Aa 2), .inl (E.2.1, 14, .inl (aN (CS 2)))), ((Ha 3), .inr (2, [.ref (Aa 3), .int (nI (NS 3))])), ((Aa 3), .inl (E.2.1, 14, .inl (aN (CS 3))))]) rfl rfl rfl rfl rfl [0, 1, 2, 3, 4, 5, 6, 7, 8, 9, 12, 13, 10, 11] rfl [(so, .inr (4, [.ref sk, .int (nI 4)])), (sk, .inl (E.2.2, 5, .inr (.inr (.inr (.inr (fun j => some (Ha j))))))), ((Ha 0), .inr (2, [.ref (Aa 0), .int (nI (NS 0))])), ((Aa 0), .inl (E.2.1, 14, .inl (aN (CS 0)))), ((Ha 1), .inr (2, [.ref (Aa 1), .int (nI (NS 1))])), ((Aa 1), .inl (E.2.1, 14, .inl (aN (CS 1)))), ((Ha 2), .inr (2, [.ref (Aa 2), .int (nI (NS 2))])), ((Aa 2), .inl (E.2.1, 14, .inl (aN (CS 2)))), ((Ha 3), .inr (2, [.ref (Aa 3), .int (nI (NS 3))])), ((Aa 3), .inl (E.2.1, 14, .inl (aN (CS 3)))), ((Ha 4), .inr (2, [.ref (Aa 4), .int (nI (NS 4))])), ((Aa 4), .inl (E.2.1, 14, .inl (aN (CS 4)))), (o, .inr (2, [.ref a, .int (nI (NS 4))])), (a, .inl (E.2.1, 14, .inl (aN (cpN (CS 4) Cd (NS 4)))))] rfl rfl [] rfl 30 rfl ?_
    exact G_vret C hr dX4_restore_30 () trivial rfl rfl
