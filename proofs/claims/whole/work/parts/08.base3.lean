theorem arrV_cong (cI : ClassId) {N : Nat} {f g : Nat → Value} (h : ∀ k, k < N → f k = g k) : arrV cI N f = arrV cI N g := by
  unfold arrV
  congr 2
  funext j
  exact h j.val j.isLt
theorem P_cong {D : va_G} {cl : List vw_C} {ws : va_W} {H : Heap} {A : Nat → Prop} (hP : va_P D cl ws H) (hD : va_D A ws) {q0 a n : Nat} {cA : ClassId} {f g : Nat → Int32} (ha : ws[q0]? = some (a, .inl (cA, n, .inl f))) (h : ∀ k, k < n → f k = g k) : va_P D cl (ws.set q0 (a, .inl (cA, n, .inl g))) H ∧ va_D A (ws.set q0 (a, .inl (cA, n, .inl g))) := by
  refine ⟨va_P.set hP hD ha ?_ (fun _ _ => rfl), va_D.set hD ha⟩
  have h1 : va_at D cl (a, .inl (cA, n, .inl f)) H := hP q0 _ ha
  show H[a]? = some (vp_cell cA (n, .inl g))
  have h2 : H[a]? = some (vp_cell cA (n, .inl f)) := h1
  rw [h2, vp_cell_i, vp_cell_i, arrV_cong cA (fun k hk => by rw [h k hk])]
section GR3
variable {E : gE} {p : Program} {l : Launch} {e : Env} {R : Room} {s : State} {m : MethodId} {args : Array Value} {below : List Frame} {meth : Method} {c : Code} {cc : ByteArray} {nL : Nat} {own : String} {A : Nat → Prop} {k n : Nat} {Q : State → Prop} {ws : va_W} {pc : Nat} {L : List (Nat × Value)} {st : List Value}
theorem G_cong (q0 : Nat) {a len : Nat} {f : Nat → Int32} (g : Nat → Int32) (ha : ws[q0]? = some (a, .inl (E.2.1, len, .inl f))) (h : ∀ j, j < len → f j = g j) (ws' : va_W) (hw : ws.set q0 (a, .inl (E.2.1, len, .inl g)) = ws') (kk : G E p l e R s m args below meth c nL A k n Q ws' pc L st) : G E p l e R s m args below meth c nL A k n Q ws pc L st := by
  subst hw
  exact fun H locs hP hD hS ls hl => kk H locs (P_cong hP hD ha h).1 (P_cong hP hD ha h).2 hS ls hl
theorem G_acopy (C : gC E p R s m args meth c cc nL own A) {j : Nat} (d : decode cc pc = .ok (.invokestatic j, 3)) (w1 : Cond.methodLink own j arraycopyName ∈ lw_g) (q0 q1 : Nat) {a0 a1 n0 n1 : Nat} {f g g' : Nat → Int32} (ha0 : ws[q0]? = some (a0, .inl (E.2.1, n0, .inl f))) (ha1 : ws[q1]? = some (a1, .inl (E.2.1, n1, .inl g))) {cn : Nat} (hb : cn < 2 ^ 31) (h4 : cn ≤ n0) (h5 : cn ≤ n1) (hg : va_cpy f g 0 0 cn = g') (hR : (Nat.ble 1 R.frames && Nat.ble 26 R.locals) = true) (hst : (st.map fun v => v.category).sum ≤ 8) (ws' : va_W) (hw : ws.set q1 (a1, .inl (E.2.1, n1, .inl g')) = ws') (q : Nat) (hq : pc + 3 = q) (kk : G E p l e R s m args below meth c nL A k n Q ws' q L st) : G E p l e R s m args below meth c nL A k n Q ws pc L (.int (nI cn) :: .int (nI 0) :: .ref a1 :: .int (nI 0) :: .ref a0 :: st) := by
  subst hq; subst hg; subst hw
  simp only [Bool.and_eq_true] at hR
  have r1 := Nat.le_of_ble_eq_true hR.1
  have r2 := Nat.le_of_ble_eq_true hR.2
  have hz : (nI 0).toNatClampNeg = 0 := nI_clamp (by decide)
  have hc : (nI cn).toNatClampNeg = cn := nI_clamp hb
  have hw : nativeFrameWords "java/lang/System" "arraycopy" 5 + 11 = 18 := by decide
  intro H locs hP hD hS ls hl
  refine va_copyi C.hx C.hb (C.hml.trans hl.1.symm) C.hown (C.hts _ w1) (C.hts _ wnat_arraycopy) (C.hts _ wt_arraycopy) (C.hts _ wn_System) C.hK.1 hP hD hS q0 q1 0 0 ha0 ha1 rfl rfl rfl (nI_pos (by decide)) (nI_pos (by decide)) (nI_pos hb) (by rw [hz, hc]; omega) (by rw [hz, hc]; omega) (fun _ _ => rfl) r1 (by rw [hw]; omega) d ?_
  intro H1 locs1 hP1 hD1 hS1
  rw [hz, hc] at hP1 hD1
  exact kk H1 locs1 hP1 hD1 hS1 ls hl
theorem G_mmin (C : gC E p R s m args meth c cc nL own A) {j : Nat} (d : decode cc pc = .ok (.invokestatic j, 3)) (w1 : Cond.methodLink own j Lib.Math.min.name ∈ lw_g) {x y : Nat} (hx : x < 2 ^ 31) (hy : y < 2 ^ 31) (hR : (Nat.ble 1 R.frames && Nat.ble 21 R.locals && Nat.ble k R.cells && Nat.ble n R.slots) = true) (hst : (st.map fun v => v.category).sum ≤ 8) (q : Nat) (hq : pc + 3 = q) (kk : G E p l e R s m args below meth c nL A k n Q ws q L (.int (nI (min x y)) :: st)) : G E p l e R s m args below meth c nL A k n Q ws pc L (.int (nI y) :: .int (nI x) :: st) := by
  subst hq
  simp only [Bool.and_eq_true] at hR
  obtain ⟨⟨⟨r1, r2⟩, r3⟩, r4⟩ := hR
  have r1 := Nat.le_of_ble_eq_true r1
  have r2 := Nat.le_of_ble_eq_true r2
  have he : (if nI y < nI x then nI y else nI x) = nI (min x y) := by
    by_cases h : y < x
    · rw [if_pos ((nI_ltI hy hx).mpr h), Nat.min_eq_right (by omega)]
    · rw [if_neg (fun h2 => h ((nI_ltI hy hx).mp h2)), Nat.min_eq_left (by omega)]
  intro H locs hP hD hS ls hl
  refine va_mmin C.hx C.hb (C.hml.trans hl.1.symm) C.hown (C.hts _ w1) (C.hts _ wt_Math_min) (C.hts _ wn_Math) (C.hts _ wc_Math_min) r1 (by omega) (Nat.le_of_ble_eq_true r3) (Nat.le_of_ble_eq_true r4) d ?_
  rw [he]
  exact kk H locs hP hD hS ls hl
theorem G_mmax (C : gC E p R s m args meth c cc nL own A) {j : Nat} (d : decode cc pc = .ok (.invokestatic j, 3)) (w1 : Cond.methodLink own j Lib.Math.max.name ∈ lw_g) {x y : Nat} (hx : x < 2 ^ 31) (hy : y < 2 ^ 31) (hR : (Nat.ble 1 R.frames && Nat.ble 21 R.locals && Nat.ble k R.cells && Nat.ble n R.slots) = true) (hst : (st.map fun v => v.category).sum ≤ 8) (q : Nat) (hq : pc + 3 = q) (kk : G E p l e R s m args below meth c nL A k n Q ws q L (.int (nI (max x y)) :: st)) : G E p l e R s m args below meth c nL A k n Q ws pc L (.int (nI y) :: .int (nI x) :: st) := by
  subst hq
  simp only [Bool.and_eq_true] at hR
  obtain ⟨⟨⟨r1, r2⟩, r3⟩, r4⟩ := hR
  have r1 := Nat.le_of_ble_eq_true r1
  have r2 := Nat.le_of_ble_eq_true r2
  have he : (if nI x < nI y then nI y else nI x) = nI (max x y) := by
    by_cases h : x < y
    · rw [if_pos ((nI_ltI hx hy).mpr h), Nat.max_eq_right (by omega)]
    · rw [if_neg (fun h2 => h ((nI_ltI hx hy).mp h2)), Nat.max_eq_left (by omega)]
  intro H locs hP hD hS ls hl
  refine va_mmax C.hx C.hb (C.hml.trans hl.1.symm) C.hown (C.hts _ w1) (C.hts _ wt_Math_max) (C.hts _ wn_Math) (C.hts _ wc_Math_max) r1 (by omega) (Nat.le_of_ble_eq_true r3) (Nat.le_of_ble_eq_true r4) d ?_
  rw [he]
  exact kk H locs hP hD hS ls hl
-- making
theorem G_objI (C : gC E p R s m args meth c cc nL own A) {j : Nat} (d : decode cc pc = .ok (.invokespecial j, 3)) (w1 : Cond.methodLink own j objectInit ∈ lw_g) {a : Nat} (hR : (Nat.ble 1 R.frames && Nat.ble 20 R.locals) = true) (hst : (st.map fun v => v.category).sum ≤ 8) (q : Nat) (hq : pc + 3 = q) (kk : G E p l e R s m args below meth c nL A k n Q ws q L st) : G E p l e R s m args below meth c nL A k n Q ws pc L (.ref a :: st) := by
  subst hq
  simp only [Bool.and_eq_true] at hR
  have r1 := Nat.le_of_ble_eq_true hR.1
  have r2 := Nat.le_of_ble_eq_true hR.2
  intro H locs hP hD hS ls hl
  refine W.objInit C.hx C.hb C.hown (C.hts _ w1) (C.hts _ wi_obj) (C.hts _ wc_obj) rfl (hl.1.trans C.hml.symm) rfl d r1 (by
    have h := lv_room (m := m) (pc := pc) (ls := ls) (rest := .ref a :: st) hst
    have e2 : (8 : Nat) + 12 ≤ R.locals := r2
    exact Nat.le_trans (Nat.add_le_add_right h 12) e2) ?_
  exact W.eq (g2 := F0 m (pc + 3) ls st) rfl (kk H locs hP hD hS ls hl)
theorem G_new (C : gC E p R s m args meth c cc nL own A) {j : Nat} (d : decode cc pc = .ok (.new j, 3)) {K : String} {T : u_T} {N : Nat} (hT : ∀ w ∈ u_ws K T N, w ∈ lw_g) {ty0 : Nat → FieldType} (hty : ∀ k, k < N → parseFieldDescriptor (T k).2.2.1 = some (ty0 k)) (w1 : Cond.classLink own j K ∈ lw_g) (w2 : Cond.instantiable K N ∈ lw_g) (w3 : Cond.initialized K ∈ lw_g) {ci : Nat} (hc : gcls[ci]? = some (K, T, N)) {fs : List Value} (hfs : ∀ j, j < N → defaultValue (ty0 j) = vp_V fs j) (hR : (Nat.ble (k + 1) R.cells && Nat.ble (n + N) R.slots) = true) (q : Nat) (hq : pc + 3 = q) (kk : ∀ a : Nat, G E p l e R s m args below meth c nL A (k + 1) (n + N) Q (ws ++ [(a, .inr (ci, fs))]) q L (.ref a :: st)) : G E p l e R s m args below meth c nL A k n Q ws pc L st := by
  subst hq
  simp only [Bool.and_eq_true] at hR
  intro H locs hP hD hS ls hl
  exact va_new C.hx C.hb C.hts hT ty0 hty C.hown (C.hts _ w1) (C.hts _ w2) (C.hts _ w3) C.hK.1 hP hD hS C.hA hc hfs (Nat.le_of_ble_eq_true hR.1) (Nat.le_of_ble_eq_true hR.2) d (fun q0 H1 hP1 hD1 hS1 => kk q0 H1 locs hP1 hD1 hS1 ls hl)
theorem G_newa (C : gC E p R s m args meth c cc nL own A) (d : decode cc pc = .ok (.newarray .int, 2)) {N : Nat} (hN : N < 1000) (hR : (Nat.ble (k + 1) R.cells && Nat.ble (n + N) R.slots) = true) (q : Nat) (hq : pc + 2 = q) (kk : ∀ a : Nat, G E p l e R s m args below meth c nL A (k + 1) (n + N) Q (ws ++ [(a, .inl (E.2.1, N, .inl (aN (fun _ => 0))))]) q L (.ref a :: st)) : G E p l e R s m args below meth c nL A k n Q ws pc L (.int (nI N) :: st) := by
  subst hq
  simp only [Bool.and_eq_true] at hR
  intro H locs hP hD hS ls hl
  refine va_newa (atype := .int) (ty := .int) (a0 := (N, .inl (aN (fun _ => 0)))) (N' := N) C.hx C.hb (C.hts _ wa_int) rfl C.hK.1 hP hD hS C.hA (fun cA => rfl) (nI_pos (by omega)) (nI_clamp (by omega)) (by show N * 4 ≤ 536870912; omega) (Nat.le_of_ble_eq_true hR.1) (Nat.le_of_ble_eq_true hR.2) d ?_
  intro q0 cA H1 hK1 hP1 hD1 hS1
  have e1 : s.vm.findClass ("[" ++ FieldType.int.toString) = some cA := (hK1.2 2 (cA, .int) rfl).2
  have e2 : s.vm.findClass ("[" ++ FieldType.int.toString) = some E.2.1 := (C.hK.1.2 0 (E.2.1, .int) rfl).2
  have e3 : cA = E.2.1 := Option.some.inj (e1.symm.trans e2)
  subst e3
  exact kk q0 H1 locs hP1 hD1 hS1 ls hl
theorem G_newq (C : gC E p R s m args meth c cc nL own A) {j : Nat} (d : decode cc pc = .ok (.anewarray j, 3)) (w1 : Cond.classLink own j RX2 ∈ lw_g) {N : Nat} (hN : N < 1000) (hR : (Nat.ble (k + 1) R.cells && Nat.ble (n + N) R.slots) = true) (q : Nat) (hq : pc + 3 = q) (kk : ∀ a : Nat, G E p l e R s m args below meth c nL A (k + 1) (n + N) Q (ws ++ [(a, .inl (E.2.2, N, .inr (.inr (.inr (.inr (fun _ => none))))))]) q L (.ref a :: st)) : G E p l e R s m args below meth c nL A k n Q ws pc L (.int (nI N) :: st) := by
  subst hq
  simp only [Bool.and_eq_true] at hR
  intro H locs hP hD hS ls hl
  refine va_newq (N' := N) C.hx C.hb C.hown (C.hts _ w1) C.hK.2.2 C.hK.1 hP hD hS C.hA (nI_pos (by omega)) (nI_clamp (by omega)) (by omega) (Nat.le_of_ble_eq_true hR.1) (Nat.le_of_ble_eq_true hR.2) d ?_
  intro q0 cA H1 hK1 hP1 hD1 hS1
  obtain ⟨_, _, -, -, -, e1⟩ := (hK1.2 2 (cA, .object RX2) rfl).2
  obtain ⟨_, _, -, -, -, e2⟩ := (C.hK.1.2 1 (E.2.2, .object RX2) rfl).2
  have e3 : cA = E.2.2 := Option.some.inj (e1.symm.trans e2)
  subst e3
  exact kk q0 H1 locs hP1 hD1 hS1 ls hl
theorem G_callI {mc ms : Nat} {S : Type} {post : S → Prop} {wo : S → va_W} {b : Nat} {wc : va_W} {rest : List Value} {y : MethodName} {yc : ByteArray} {mL : Nat} {rm : Room} (C : gC E p R s m args meth c cc nL own A) {j : Nat} (d : decode cc pc = .ok (.invokespecial j, 3))
    (hF : Fn l E y yc mL none rm [.ref b] wc post (fun _ => none) wo mc ms) (w1 : Cond.methodLink own j y ∈ lw_g) (w2 : Cond.instanceMethod y ∈ lw_g) (w4 : Cond.initialized y.cls ∈ lw_g) (w5 : Cond.code y yc mL none ∈ lw_g) (hin : y.name = "<init>")
    (hrc : rm.cells = mc) (hrs : rm.slots = ms) (hd : y.cls ≠ "java/lang/invoke/MethodHandle" ∧ y.cls ≠ "java/lang/invoke/VarHandle" ∧ (parseMethodDescriptor y.desc).map (fun d => d.parameters.length) = some 0) (hR0 : (Nat.ble (rm.frames + 1) R.frames && Nat.ble (8 + (mL + 11) + rm.locals) R.locals && Nat.ble (k + mc) R.cells && Nat.ble (n + ms) R.slots) = true) (hst : (rest.map fun v => v.category).sum ≤ 8)
    (isC isR : List Nat) {wr : va_W} (hC : isC.map (fun i => ws[i]?) = wc.map some) (hR : isR.map (fun i => ws[i]?) = wr.map some) (hnC : va_nd isC = true) (hnR : va_nd isR = true) (hdis : isR.all (fun i => !isC.contains i) = true) (pm : List Nat) (hpm : va_nd pm = true) (ws' : S → va_W) (hw : ∀ u, pm.map (fun i => (wr ++ wo u)[i]?) = (ws' u).map some)
    (q : Nat) (hq : pc + 3 = q) (kk : ∀ u : S, post u → G E p l e R s m args below meth c nL A (k + mc) (n + ms) Q (ws' u) q L rest) : G E p l e R s m args below meth c nL A k n Q ws pc L (.ref b :: rest) := by
  simp only [Bool.and_eq_true] at hR0
  obtain ⟨⟨⟨r1, r2⟩, r3⟩, r4⟩ := hR0
  refine G_core (y := y) (as := [.ref b]) (rv := fun _ => none) (rest := rest) (mc := mc) (ms := ms) (post := post) C (fun H locs ls hP hD hl => ?_) isC isR hC hR hnC hnR hdis pm hpm ws' hw q hq kk
  exact va_runI (As := []) (rest := rest) (b := b) ⟨C.hx, C.hb, C.hml, C.hown, C.hts⟩ (hF H.size) ⟨callB_of 0 C.hts (lw_gc w5) rfl hrc hrs (C.hts _ w4) (C.hts _ w1) hd ⟨Nat.le_of_ble_eq_true r1, Nat.le_of_ble_eq_true r2⟩, hin, C.hts _ w2⟩ ⟨gP.blind, fun U hU hW => ⟨rfl, by rw [hU], by rw [hU]; exact hP, gK.warm hW C.hK, hD⟩⟩ rfl rfl hl.1 rfl (lv_room hst) d ⟨Nat.le_of_ble_eq_true r3, Nat.le_of_ble_eq_true r4⟩
theorem G_callIN {mc ms : Nat} {S : Type} {post : S → Prop} {wo : S → va_W} {b : Nat} {wc : va_W} {rest : List Value} {y : MethodName} {host : String} {yc : ByteArray} {mL : Nat} {rm : Room} (C : gC E p R s m args meth c cc nL own A) {j : Nat} (d : decode cc pc = .ok (.invokespecial j, 3))
    (hF : Fn l E y yc mL none rm [.ref b] wc post (fun _ => none) wo mc ms) (w1 : (own, j, y, host) ∈ lw_nest) (w2 : Cond.instanceMethod y ∈ lw_g) (w4 : Cond.initialized y.cls ∈ lw_g) (w5 : Cond.code y yc mL none ∈ lw_g) (hin : y.name = "<init>")
    (hrc : rm.cells = mc) (hrs : rm.slots = ms) (hd : y.cls ≠ "java/lang/invoke/MethodHandle" ∧ y.cls ≠ "java/lang/invoke/VarHandle" ∧ (parseMethodDescriptor y.desc).map (fun d => d.parameters.length) = some 0) (hR0 : (Nat.ble (rm.frames + 1) R.frames && Nat.ble (8 + (mL + 11) + rm.locals) R.locals && Nat.ble (k + mc) R.cells && Nat.ble (n + ms) R.slots) = true) (hst : (rest.map fun v => v.category).sum ≤ 8)
    (isC isR : List Nat) {wr : va_W} (hC : isC.map (fun i => ws[i]?) = wc.map some) (hR : isR.map (fun i => ws[i]?) = wr.map some) (hnC : va_nd isC = true) (hnR : va_nd isR = true) (hdis : isR.all (fun i => !isC.contains i) = true) (pm : List Nat) (hpm : va_nd pm = true) (ws' : S → va_W) (hw : ∀ u, pm.map (fun i => (wr ++ wo u)[i]?) = (ws' u).map some)
    (q : Nat) (hq : pc + 3 = q) (kk : ∀ u : S, post u → G E p l e R s m args below meth c nL A (k + mc) (n + ms) Q (ws' u) q L rest) : G E p l e R s m args below meth c nL A k n Q ws pc L (.ref b :: rest) := by
  simp only [Bool.and_eq_true] at hR0
  obtain ⟨⟨⟨r1, r2⟩, r3⟩, r4⟩ := hR0
  refine G_core (y := y) (as := [.ref b]) (rv := fun _ => none) (rest := rest) (mc := mc) (ms := ms) (post := post) C (fun H locs ls hP hD hl => ?_) isC isR hC hR hnC hnR hdis pm hpm ws' hw q hq kk
  exact va_runIN (As := []) (rest := rest) (b := b) (host := host) ⟨C.hx, C.hb, C.hml, C.hown, C.hts⟩ (hF H.size) ⟨va_cnB 0 C.hts (lw_gc w5) rfl hrc hrs (C.hK.2.1 _ w1) (C.hts _ w4) hd ⟨Nat.le_of_ble_eq_true r1, Nat.le_of_ble_eq_true r2⟩, hin, C.hts _ w2⟩ ⟨gP.blind, fun U hU hW => ⟨rfl, by rw [hU], by rw [hU]; exact hP, gK.warm hW C.hK, hD⟩⟩ rfl rfl hl.1 rfl (lv_room hst) d ⟨Nat.le_of_ble_eq_true r3, Nat.le_of_ble_eq_true r4⟩
end GR3
