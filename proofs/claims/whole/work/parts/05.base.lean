abbrev gcls : List vw_C := [(RX0, TX0, 2), (RX1, TX1, 1), (RX2, TX2, 2), (RX3, TX3, 3), (RX4, TX4, 2), (RX5, TX5, 6), (RX6, TX6, 9), (RX7, TX7, 18)]
abbrev gE : Type := va_G × ClassId × ClassId
abbrev gty (E : gE) : List (ClassId × FieldType) := [(E.2.1, .int), (E.2.2, .object RX2)]
def gN (U : State) : Prop := (∀ q ∈ lw_nest, va_Nw (.methodLinkNest q.1 q.2.1 q.2.2.1 q.2.2.2) U) ∧ va_AO RX2 U
def gK (E : gE) (U : State) : Prop := va_K E.1 gcls (gty E) U ∧ gN U
theorem gN.warm {s U : State} (hW : s.WarmedH U.vm) (h : gN s) : gN U := ⟨fun q hq => va_Nw.warmM hW (h.1 q hq), va_AO.moved hW.alike h.2⟩
theorem gN.same {u U : State} (e : u.vm = U.vm) (h : gN u) : gN U := ⟨fun q hq => va_Nw.same rfl e (h.1 q hq), va_AO.moved (e ▸ Vm.Alike.refl u.vm) h.2⟩
theorem gK.warm {E : gE} {s U : State} (hW : s.WarmedH U.vm) (h : gK E s) : gK E U := ⟨va_K.moved hW.alike h.1, gN.warm hW h.2⟩
theorem gK.same {E : gE} {u U : State} (e : u.vm = U.vm) (h : gK E u) : gK E U := ⟨va_K.moved (e ▸ Vm.Alike.refl u.vm) h.1, gN.same e h.2⟩
def lg : List (Nat × Value) → Nat → Option Value
  | [], _ => none
  | (j, v) :: t, i => if j = i then some v else lg t i
theorem lg_mem : ∀ {L : List (Nat × Value)} {i : Nat} {v : Value}, lg L i = some v → (i, v) ∈ L
  | [], i, v, h => by simp [lg] at h
  | (j, w) :: t, i, v, h => by
    unfold lg at h
    by_cases hj : j = i
    · rw [if_pos hj] at h; cases h; subst hj; exact List.mem_cons_self
    · rw [if_neg hj] at h; exact List.mem_cons_of_mem _ (lg_mem h)
theorem P_map {D : va_G} {cl : List vw_C} {ws ws' : va_W} {H : Heap} (h : va_P D cl ws H) (is : List Nat) (hs : is.map (fun i => ws[i]?) = ws'.map some) : va_P D cl ws' H := by
  intro k q hk
  have h1 : (is.map (fun i => ws[i]?))[k]? = some (some q) := by rw [hs, List.getElem?_map, hk]; rfl
  rw [List.getElem?_map] at h1
  obtain ⟨i, -, hi⟩ := Option.map_eq_some_iff.mp h1
  exact h i q hi
section GR
variable {E : gE} {p : Program} {l : Launch} {e : Env} {R : Room} {s : State} {m : MethodId} {args : Array Value} {below : List Frame} {meth : Method} {c : Code} {cc : ByteArray} {nL : Nat} {own : String} {A : Nat → Prop} {k n : Nat} {Q : State → Prop} {ws : va_W} {pc : Nat} {L : List (Nat × Value)} {st : List Value}
def gC (E : gE) (p : Program) (R : Room) (s : State) (m : MethodId) (args : Array Value) (meth : Method) (c : Code) (cc : ByteArray) (nL : Nat) (own : String) (A : Nat → Prop) : Prop :=
  p.tables.exec = Jvm.exec ∧ c.code = cc ∧ c.maxLocals = nL ∧ s.vm.findClass own = some m.cls ∧ (∀ w ∈ lw_g, w.before args s = true) ∧ gK E s ∧ (∀ q, s.heap.size ≤ q → A q) ∧ meth.locks = false
def G (E : gE) (p : Program) (l : Launch) (e : Env) (R : Room) (s : State) (m : MethodId) (args : Array Value) (below : List Frame) (meth : Method) (c : Code) (nL : Nat) (A : Nat → Prop) (k n : Nat) (Q : State → Prop) (ws : va_W) (pc : Nat) (L : List (Nat × Value)) (st : List Value) : Prop :=
  ∀ (H : Heap) (locs : List Loc), va_P E.1 gcls ws H → va_D A ws → va_S A s.heap H locs → ∀ ls : Array Slot, lv_has ls nL L → W p l e R s m args below meth c H locs k n Q (F0 m pc ls st)
theorem gC.hx (C : gC E p R s m args meth c cc nL own A) : p.tables.exec = Jvm.exec := C.1
theorem gC.hb (C : gC E p R s m args meth c cc nL own A) : c.code = cc := C.2.1
theorem gC.hml (C : gC E p R s m args meth c cc nL own A) : c.maxLocals = nL := C.2.2.1
theorem gC.hown (C : gC E p R s m args meth c cc nL own A) : s.vm.findClass own = some m.cls := C.2.2.2.1
theorem gC.hts (C : gC E p R s m args meth c cc nL own A) : ∀ w ∈ lw_g, w.before args s = true := C.2.2.2.2.1
theorem gC.hK (C : gC E p R s m args meth c cc nL own A) : gK E s := C.2.2.2.2.2.1
theorem gC.hA (C : gC E p R s m args meth c cc nL own A) : ∀ q, s.heap.size ≤ q → A q := C.2.2.2.2.2.2.1
theorem gC.hlk (C : gC E p R s m args meth c cc nL own A) : meth.locks = false := C.2.2.2.2.2.2.2
theorem G_eq {ws' : va_W} {L' : List (Nat × Value)} {st' : List Value} (hw : ws = ws') (hL : L = L') (hs : st = st') (kk : G E p l e R s m args below meth c nL A k n Q ws' pc L' st') : G E p l e R s m args below meth c nL A k n Q ws pc L st := by subst hw; subst hL; subst hs; exact kk
theorem G_top {v v' : Value} (h : v = v') (kk : G E p l e R s m args below meth c nL A k n Q ws pc L (v' :: st)) : G E p l e R s m args below meth c nL A k n Q ws pc L (v :: st) := by subst h; exact kk
theorem G_sub {L' : List (Nat × Value)} (h : ∀ q ∈ L', q ∈ L) (kk : G E p l e R s m args below meth c nL A k n Q ws pc L' st) : G E p l e R s m args below meth c nL A k n Q ws pc L st := fun H locs hP hD hS ls hl => kk H locs hP hD hS ls ⟨hl.1, hl.2.1, fun q hq => hl.2.2 q (h q hq)⟩
theorem G_wid {k' n' : Nat} (h1 : k ≤ k') (h2 : n ≤ n') (kk : G E p l e R s m args below meth c nL A k' n' Q ws pc L st) : G E p l e R s m args below meth c nL A k n Q ws pc L st := fun H locs hP hD hS ls hl => W.widen h1 h2 (kk H locs hP hD hS ls hl)
-- constants
theorem G_iconst (C : gC E p R s m args meth c cc nL own A) {j : Int} (d : decode cc pc = .ok (.iconst j, 1)) {v : Int32} (hv : Int32.ofInt j = v) (q : Nat) (hq : pc + 1 = q) (kk : G E p l e R s m args below meth c nL A k n Q ws q L (.int v :: st)) : G E p l e R s m args below meth c nL A k n Q ws pc L st := by
  subst hq; exact fun H locs hP hD hS ls hl => lv_iconst C.hx C.hb d hv (kk H locs hP hD hS ls hl)
theorem G_bipush (C : gC E p R s m args meth c cc nL own A) {j : Int} (d : decode cc pc = .ok (.bipush j, 2)) {v : Int32} (hv : (Int8.ofInt j).toInt32 = v) (q : Nat) (hq : pc + 2 = q) (kk : G E p l e R s m args below meth c nL A k n Q ws q L (.int v :: st)) : G E p l e R s m args below meth c nL A k n Q ws pc L st := by
  subst hq; exact fun H locs hP hD hS ls hl => lv_bipush C.hx C.hb d hv (kk H locs hP hD hS ls hl)
theorem G_sipush (C : gC E p R s m args meth c cc nL own A) {j : Int} (d : decode cc pc = .ok (.sipush j, 3)) {v : Int32} (hv : (Int16.ofInt j).toInt32 = v) (q : Nat) (hq : pc + 3 = q) (kk : G E p l e R s m args below meth c nL A k n Q ws q L (.int v :: st)) : G E p l e R s m args below meth c nL A k n Q ws pc L st := by
  subst hq; exact fun H locs hP hD hS ls hl => lv_sipush C.hx C.hb d hv (kk H locs hP hD hS ls hl)
theorem G_ldcw (C : gC E p R s m args meth c cc nL own A) {j : Nat} (d : decode cc pc = .ok (.ldc_w j, 3)) {v : Int32} (hv : Cond.constant own j v ∈ lw_g) (q : Nat) (hq : pc + 3 = q) (kk : G E p l e R s m args below meth c nL A k n Q ws q L (.int v :: st)) : G E p l e R s m args below meth c nL A k n Q ws pc L st := by
  subst hq; exact fun H locs hP hD hS ls hl => lv_ldcw C.hx C.hb C.hown (C.hts _ hv) d (kk H locs hP hD hS ls hl)
theorem G_ldc2 (C : gC E p R s m args meth c cc nL own A) {j : Nat} (d : decode cc pc = .ok (.ldc2_w j, 3)) {v : Int64} (hv : Cond.constantLong own j v ∈ lw_g) (q : Nat) (hq : pc + 3 = q) (kk : G E p l e R s m args below meth c nL A k n Q ws q L (.long v :: st)) : G E p l e R s m args below meth c nL A k n Q ws pc L st := by
  subst hq; exact fun H locs hP hD hS ls hl => lv_ldc2 C.hx C.hb C.hown (C.hts _ hv) d (kk H locs hP hD hS ls hl)
-- locals
theorem G_iload_n (C : gC E p R s m args meth c cc nL own A) {j : Fin 4} {x : Int32} (d : decode cc pc = .ok (.iload_n j, 1)) (h : lg L j.val = some (.int x)) (q : Nat) (hq : pc + 1 = q) (kk : G E p l e R s m args below meth c nL A k n Q ws q L (.int x :: st)) : G E p l e R s m args below meth c nL A k n Q ws pc L st := by
  subst hq; exact fun H locs hP hD hS ls hl => lv_iload_n C.hx C.hb d rfl (hl.2.2 _ (lg_mem h)) (kk H locs hP hD hS ls hl)
theorem G_iload (C : gC E p R s m args meth c cc nL own A) {j : Nat} {x : Int32} (d : decode cc pc = .ok (.iload j, 2)) (h : lg L j = some (.int x)) (q : Nat) (hq : pc + 2 = q) (kk : G E p l e R s m args below meth c nL A k n Q ws q L (.int x :: st)) : G E p l e R s m args below meth c nL A k n Q ws pc L st := by
  subst hq; exact fun H locs hP hD hS ls hl => lv_iload C.hx C.hb d (hl.2.2 _ (lg_mem h)) (kk H locs hP hD hS ls hl)
theorem G_aload_n (C : gC E p R s m args meth c cc nL own A) {j : Fin 4} {x : Nat} (d : decode cc pc = .ok (.aload_n j, 1)) (h : lg L j.val = some (.ref x)) (q : Nat) (hq : pc + 1 = q) (kk : G E p l e R s m args below meth c nL A k n Q ws q L (.ref x :: st)) : G E p l e R s m args below meth c nL A k n Q ws pc L st := by
  subst hq; exact fun H locs hP hD hS ls hl => lv_aload_n C.hx C.hb d rfl (hl.2.2 _ (lg_mem h)) (kk H locs hP hD hS ls hl)
theorem G_aload (C : gC E p R s m args meth c cc nL own A) {j : Nat} {x : Nat} (d : decode cc pc = .ok (.aload j, 2)) (h : lg L j = some (.ref x)) (q : Nat) (hq : pc + 2 = q) (kk : G E p l e R s m args below meth c nL A k n Q ws q L (.ref x :: st)) : G E p l e R s m args below meth c nL A k n Q ws pc L st := by
  subst hq; exact fun H locs hP hD hS ls hl => lv_aload C.hx C.hb d (hl.2.2 _ (lg_mem h)) (kk H locs hP hD hS ls hl)
theorem G_lload_n (C : gC E p R s m args meth c cc nL own A) {j : Fin 4} {x : Int64} (d : decode cc pc = .ok (.lload_n j, 1)) (h : lg L j.val = some (.long x)) (q : Nat) (hq : pc + 1 = q) (kk : G E p l e R s m args below meth c nL A k n Q ws q L (.long x :: st)) : G E p l e R s m args below meth c nL A k n Q ws pc L st := by
  subst hq; exact fun H locs hP hD hS ls hl => lv_lload_n C.hx C.hb d rfl (hl.2.2 _ (lg_mem h)) (kk H locs hP hD hS ls hl)
theorem G_lload (C : gC E p R s m args meth c cc nL own A) {j : Nat} {x : Int64} (d : decode cc pc = .ok (.lload j, 2)) (h : lg L j = some (.long x)) (q : Nat) (hq : pc + 2 = q) (kk : G E p l e R s m args below meth c nL A k n Q ws q L (.long x :: st)) : G E p l e R s m args below meth c nL A k n Q ws pc L st := by
  subst hq; exact fun H locs hP hD hS ls hl => lv_lload C.hx C.hb d (hl.2.2 _ (lg_mem h)) (kk H locs hP hD hS ls hl)
theorem G_istore_n (C : gC E p R s m args meth c cc nL own A) {j : Fin 4} {x : Int32} (d : decode cc pc = .ok (.istore_n j, 1)) (hn : j.val < nL) (L' : List (Nat × Value)) (hL : (j.val, Value.int x) :: L.filter (fun q => !(q.1 == j.val) && !(q.1 + 1 == j.val && q.2.category == 2)) = L') (q : Nat) (hq : pc + 1 = q) (kk : G E p l e R s m args below meth c nL A k n Q ws q L' st) : G E p l e R s m args below meth c nL A k n Q ws pc L (.int x :: st) := by
  subst hq; exact fun H locs hP hD hS ls hl => lv_istore_n C.hx C.hb d rfl hl hn hL (fun ls' hl' => kk H locs hP hD hS ls' hl')
theorem G_istore (C : gC E p R s m args meth c cc nL own A) {j : Nat} {x : Int32} (d : decode cc pc = .ok (.istore j, 2)) (hn : j < nL) (L' : List (Nat × Value)) (hL : (j, Value.int x) :: L.filter (fun q => !(q.1 == j) && !(q.1 + 1 == j && q.2.category == 2)) = L') (q : Nat) (hq : pc + 2 = q) (kk : G E p l e R s m args below meth c nL A k n Q ws q L' st) : G E p l e R s m args below meth c nL A k n Q ws pc L (.int x :: st) := by
  subst hq; exact fun H locs hP hD hS ls hl => lv_istore C.hx C.hb d hl hn hL (fun ls' hl' => kk H locs hP hD hS ls' hl')
theorem G_astore_n (C : gC E p R s m args meth c cc nL own A) {j : Fin 4} {x : Nat} (d : decode cc pc = .ok (.astore_n j, 1)) (hn : j.val < nL) (L' : List (Nat × Value)) (hL : (j.val, Value.ref x) :: L.filter (fun q => !(q.1 == j.val) && !(q.1 + 1 == j.val && q.2.category == 2)) = L') (q : Nat) (hq : pc + 1 = q) (kk : G E p l e R s m args below meth c nL A k n Q ws q L' st) : G E p l e R s m args below meth c nL A k n Q ws pc L (.ref x :: st) := by
  subst hq; exact fun H locs hP hD hS ls hl => lv_astore_n C.hx C.hb d rfl hl hn hL (fun ls' hl' => kk H locs hP hD hS ls' hl')
theorem G_astore (C : gC E p R s m args meth c cc nL own A) {j : Nat} {x : Nat} (d : decode cc pc = .ok (.astore j, 2)) (hn : j < nL) (L' : List (Nat × Value)) (hL : (j, Value.ref x) :: L.filter (fun q => !(q.1 == j) && !(q.1 + 1 == j && q.2.category == 2)) = L') (q : Nat) (hq : pc + 2 = q) (kk : G E p l e R s m args below meth c nL A k n Q ws q L' st) : G E p l e R s m args below meth c nL A k n Q ws pc L (.ref x :: st) := by
  subst hq; exact fun H locs hP hD hS ls hl => lv_astore C.hx C.hb d hl hn hL (fun ls' hl' => kk H locs hP hD hS ls' hl')
theorem G_lstore_n (C : gC E p R s m args meth c cc nL own A) {j : Fin 4} {x : Int64} (d : decode cc pc = .ok (.lstore_n j, 1)) (hn : j.val + 1 < nL) (L' : List (Nat × Value)) (hL : (j.val, Value.long x) :: L.filter (fun q => !(q.1 == j.val) && (!(q.1 == j.val + 1) && !(q.1 + 1 == j.val && q.2.category == 2))) = L') (q : Nat) (hq : pc + 1 = q) (kk : G E p l e R s m args below meth c nL A k n Q ws q L' st) : G E p l e R s m args below meth c nL A k n Q ws pc L (.long x :: st) := by
  subst hq; exact fun H locs hP hD hS ls hl => lv_lstore_n C.hx C.hb d rfl hl hn hL (fun ls' hl' => kk H locs hP hD hS ls' hl')
theorem G_lstore (C : gC E p R s m args meth c cc nL own A) {j : Nat} {x : Int64} (d : decode cc pc = .ok (.lstore j, 2)) (hn : j + 1 < nL) (L' : List (Nat × Value)) (hL : (j, Value.long x) :: L.filter (fun q => !(q.1 == j) && (!(q.1 == j + 1) && !(q.1 + 1 == j && q.2.category == 2))) = L') (q : Nat) (hq : pc + 2 = q) (kk : G E p l e R s m args below meth c nL A k n Q ws q L' st) : G E p l e R s m args below meth c nL A k n Q ws pc L (.long x :: st) := by
  subst hq; exact fun H locs hP hD hS ls hl => lv_lstore C.hx C.hb d hl hn hL (fun ls' hl' => kk H locs hP hD hS ls' hl')
theorem G_iinc (C : gC E p R s m args meth c cc nL own A) {i : Nat} {j : Int} (d : decode cc pc = .ok (.iinc i j, 3)) (r : Nat) {x v : Int32} (hr : L[r]? = some (i, .int x)) (hv : x + Int32.ofInt j = v) (hn : i < nL) (L' : List (Nat × Value)) (hL : (i, Value.int v) :: L.filter (fun q => !(q.1 == i) && !(q.1 + 1 == i && q.2.category == 2)) = L') (q : Nat) (hq : pc + 3 = q) (kk : G E p l e R s m args below meth c nL A k n Q ws q L' st) : G E p l e R s m args below meth c nL A k n Q ws pc L st := by
  subst hq; exact fun H locs hP hD hS ls hl => lv_iinc C.hx C.hb d hl hr hv hn hL (fun ls' hl' => kk H locs hP hD hS ls' hl')
-- arithmetic
theorem G_iadd (C : gC E p R s m args meth c cc nL own A) (d : decode cc pc = .ok (.iadd, 1)) {x y v : Int32} (hv : x + y = v) (q : Nat) (hq : pc + 1 = q) (kk : G E p l e R s m args below meth c nL A k n Q ws q L (.int v :: st)) : G E p l e R s m args below meth c nL A k n Q ws pc L (.int y :: .int x :: st) := by
  subst hq; subst hv; exact fun H locs hP hD hS ls hl => lv_iadd C.hx C.hb d (kk H locs hP hD hS ls hl)
theorem G_isub (C : gC E p R s m args meth c cc nL own A) (d : decode cc pc = .ok (.isub, 1)) {x y v : Int32} (hv : x - y = v) (q : Nat) (hq : pc + 1 = q) (kk : G E p l e R s m args below meth c nL A k n Q ws q L (.int v :: st)) : G E p l e R s m args below meth c nL A k n Q ws pc L (.int y :: .int x :: st) := by
  subst hq; subst hv; exact fun H locs hP hD hS ls hl => lv_isub C.hx C.hb d (kk H locs hP hD hS ls hl)
theorem G_imul (C : gC E p R s m args meth c cc nL own A) (d : decode cc pc = .ok (.imul, 1)) {x y v : Int32} (hv : x * y = v) (q : Nat) (hq : pc + 1 = q) (kk : G E p l e R s m args below meth c nL A k n Q ws q L (.int v :: st)) : G E p l e R s m args below meth c nL A k n Q ws pc L (.int y :: .int x :: st) := by
  subst hq; subst hv; exact fun H locs hP hD hS ls hl => lv_imul C.hx C.hb d (kk H locs hP hD hS ls hl)
theorem G_iand (C : gC E p R s m args meth c cc nL own A) (d : decode cc pc = .ok (.iand, 1)) {x y v : Int32} (hv : x &&& y = v) (q : Nat) (hq : pc + 1 = q) (kk : G E p l e R s m args below meth c nL A k n Q ws q L (.int v :: st)) : G E p l e R s m args below meth c nL A k n Q ws pc L (.int y :: .int x :: st) := by
  subst hq; subst hv; exact fun H locs hP hD hS ls hl => lv_iand C.hx C.hb d (kk H locs hP hD hS ls hl)
theorem G_ior (C : gC E p R s m args meth c cc nL own A) (d : decode cc pc = .ok (.ior, 1)) {x y v : Int32} (hv : x ||| y = v) (q : Nat) (hq : pc + 1 = q) (kk : G E p l e R s m args below meth c nL A k n Q ws q L (.int v :: st)) : G E p l e R s m args below meth c nL A k n Q ws pc L (.int y :: .int x :: st) := by
  subst hq; subst hv; exact fun H locs hP hD hS ls hl => lv_ior C.hx C.hb d (kk H locs hP hD hS ls hl)
theorem G_ixor (C : gC E p R s m args meth c cc nL own A) (d : decode cc pc = .ok (.ixor, 1)) {x y v : Int32} (hv : x ^^^ y = v) (q : Nat) (hq : pc + 1 = q) (kk : G E p l e R s m args below meth c nL A k n Q ws q L (.int v :: st)) : G E p l e R s m args below meth c nL A k n Q ws pc L (.int y :: .int x :: st) := by
  subst hq; subst hv; exact fun H locs hP hD hS ls hl => lv_ixor C.hx C.hb d (kk H locs hP hD hS ls hl)
theorem G_ishl (C : gC E p R s m args meth c cc nL own A) (d : decode cc pc = .ok (.ishl, 1)) {x y v : Int32} (hv : x <<< (y &&& 31) = v) (q : Nat) (hq : pc + 1 = q) (kk : G E p l e R s m args below meth c nL A k n Q ws q L (.int v :: st)) : G E p l e R s m args below meth c nL A k n Q ws pc L (.int y :: .int x :: st) := by
  subst hq; subst hv; exact fun H locs hP hD hS ls hl => lv_ishl C.hx C.hb d (kk H locs hP hD hS ls hl)
theorem G_ishr (C : gC E p R s m args meth c cc nL own A) (d : decode cc pc = .ok (.ishr, 1)) {x y v : Int32} (hv : x >>> (y &&& 31) = v) (q : Nat) (hq : pc + 1 = q) (kk : G E p l e R s m args below meth c nL A k n Q ws q L (.int v :: st)) : G E p l e R s m args below meth c nL A k n Q ws pc L (.int y :: .int x :: st) := by
  subst hq; subst hv; exact fun H locs hP hD hS ls hl => lv_ishr C.hx C.hb d (kk H locs hP hD hS ls hl)
theorem G_idiv (C : gC E p R s m args meth c cc nL own A) (d : decode cc pc = .ok (.idiv, 1)) {x y v : Int32} (hne : ¬ y = 0) (hv : x / y = v) (q : Nat) (hq : pc + 1 = q) (kk : G E p l e R s m args below meth c nL A k n Q ws q L (.int v :: st)) : G E p l e R s m args below meth c nL A k n Q ws pc L (.int y :: .int x :: st) := by
  subst hq; subst hv; exact fun H locs hP hD hS ls hl => lv_idiv C.hx C.hb d hne (kk H locs hP hD hS ls hl)
theorem G_irem (C : gC E p R s m args meth c cc nL own A) (d : decode cc pc = .ok (.irem, 1)) {x y v : Int32} (hne : ¬ y = 0) (hv : x - x / y * y = v) (q : Nat) (hq : pc + 1 = q) (kk : G E p l e R s m args below meth c nL A k n Q ws q L (.int v :: st)) : G E p l e R s m args below meth c nL A k n Q ws pc L (.int y :: .int x :: st) := by
  subst hq; subst hv; exact fun H locs hP hD hS ls hl => lv_irem C.hx C.hb d hne (kk H locs hP hD hS ls hl)
theorem G_iushr (C : gC E p R s m args meth c cc nL own A) (d : decode cc pc = .ok (.iushr, 1)) {x y v : Int32} (hv : (x.toUInt32 >>> (y.toUInt32 &&& Int32.toUInt32 31)).toInt32 = v) (q : Nat) (hq : pc + 1 = q) (kk : G E p l e R s m args below meth c nL A k n Q ws q L (.int v :: st)) : G E p l e R s m args below meth c nL A k n Q ws pc L (.int y :: .int x :: st) := by
  subst hq; exact fun H locs hP hD hS ls hl => lv_iushr C.hx C.hb d hv (kk H locs hP hD hS ls hl)
theorem G_ladd (C : gC E p R s m args meth c cc nL own A) (d : decode cc pc = .ok (.ladd, 1)) {x y v : Int64} (hv : x + y = v) (q : Nat) (hq : pc + 1 = q) (kk : G E p l e R s m args below meth c nL A k n Q ws q L (.long v :: st)) : G E p l e R s m args below meth c nL A k n Q ws pc L (.long y :: .long x :: st) := by
  subst hq; subst hv; exact fun H locs hP hD hS ls hl => lv_ladd C.hx C.hb d (kk H locs hP hD hS ls hl)
theorem G_lmul (C : gC E p R s m args meth c cc nL own A) (d : decode cc pc = .ok (.lmul, 1)) {x y v : Int64} (hv : x * y = v) (q : Nat) (hq : pc + 1 = q) (kk : G E p l e R s m args below meth c nL A k n Q ws q L (.long v :: st)) : G E p l e R s m args below meth c nL A k n Q ws pc L (.long y :: .long x :: st) := by
  subst hq; subst hv; exact fun H locs hP hD hS ls hl => lv_lmul C.hx C.hb d (kk H locs hP hD hS ls hl)
theorem G_i2l (C : gC E p R s m args meth c cc nL own A) (d : decode cc pc = .ok (.i2l, 1)) {x : Int32} {v : Int64} (hv : x.toInt64 = v) (q : Nat) (hq : pc + 1 = q) (kk : G E p l e R s m args below meth c nL A k n Q ws q L (.long v :: st)) : G E p l e R s m args below meth c nL A k n Q ws pc L (.int x :: st) := by
  subst hq; exact fun H locs hP hD hS ls hl => lv_i2l C.hx C.hb d hv (kk H locs hP hD hS ls hl)
theorem G_lcmp (C : gC E p R s m args meth c cc nL own A) (d : decode cc pc = .ok (.lcmp, 1)) {x y : Int64} (q : Nat) (hq : pc + 1 = q) (kk : G E p l e R s m args below meth c nL A k n Q ws q L (.int (lg_cmp x y) :: st)) : G E p l e R s m args below meth c nL A k n Q ws pc L (.long y :: .long x :: st) := by
  subst hq; exact fun H locs hP hD hS ls hl => W.lcmp C.hx C.hb d (kk H locs hP hD hS ls hl)
theorem G_dup (C : gC E p R s m args meth c cc nL own A) {v : Value} (d : decode cc pc = .ok (.dup, 1)) (hv : v.category = 1) (q : Nat) (hq : pc + 1 = q) (kk : G E p l e R s m args below meth c nL A k n Q ws q L (v :: v :: st)) : G E p l e R s m args below meth c nL A k n Q ws pc L (v :: st) := by
  subst hq; exact fun H locs hP hD hS ls hl => lv_dup C.hx C.hb d hv (kk H locs hP hD hS ls hl)
theorem G_dup2 (C : gC E p R s m args meth c cc nL own A) {v w : Value} (d : decode cc pc = .ok (.dup2, 1)) (hv : v.category = 1) (hw : w.category = 1) (q : Nat) (hq : pc + 1 = q) (kk : G E p l e R s m args below meth c nL A k n Q ws q L (v :: w :: v :: w :: st)) : G E p l e R s m args below meth c nL A k n Q ws pc L (v :: w :: st) := by
  subst hq; exact fun H locs hP hD hS ls hl => lv_dup2_11 C.hx C.hb d hv hw (kk H locs hP hD hS ls hl)
theorem G_goto (C : gC E p R s m args meth c cc nL own A) {off : Int} (d : decode cc pc = .ok (.goto off, 3)) (q : Nat) (hq : (pc : Int) + off = (q : Int)) (kk : G E p l e R s m args below meth c nL A k n Q ws q L st) : G E p l e R s m args below meth c nL A k n Q ws pc L st :=
  fun H locs hP hD hS ls hl => lv_goto C.hx C.hb d hq (kk H locs hP hD hS ls hl)
-- branches: P is the condition in the prover's words
theorem G_if_eq (C : gC E p R s m args meth c cc nL own A) {off : Int} (d : decode cc pc = .ok (.ifCond .eq off, 3)) (q : Nat) (hq : (pc : Int) + off = (q : Int)) (q2 : Nat) (hq2 : pc + 3 = q2) {x : Int32} {P : Prop} (hP : (x = 0) ↔ P) (kt : P → G E p l e R s m args below meth c nL A k n Q ws q L st) (kf : ¬ P → G E p l e R s m args below meth c nL A k n Q ws q2 L st) : G E p l e R s m args below meth c nL A k n Q ws pc L (.int x :: st) := by
  subst hq2; exact fun H locs hP1 hD hS ls hl => lv_if_eq C.hx C.hb d hq (fun h => kt (hP.mp h) H locs hP1 hD hS ls hl) (fun h => kf (fun hh => h (hP.mpr hh)) H locs hP1 hD hS ls hl)
theorem G_if_eq_t (C : gC E p R s m args meth c cc nL own A) {off : Int} (d : decode cc pc = .ok (.ifCond .eq off, 3)) (q : Nat) (hq : (pc : Int) + off = (q : Int)) {x : Int32} (hP : x = 0) (kt : G E p l e R s m args below meth c nL A k n Q ws q L st) : G E p l e R s m args below meth c nL A k n Q ws pc L (.int x :: st) :=
  G_if_eq C d q hq (pc + 3) rfl Iff.rfl (fun _ => kt) (fun h => absurd hP h)
theorem G_if_eq_f (C : gC E p R s m args meth c cc nL own A) {off : Int} (d : decode cc pc = .ok (.ifCond .eq off, 3)) (tgt : Nat) (ht : (pc : Int) + off = (tgt : Int)) (q : Nat) (hq : pc + 3 = q) {x : Int32} (hP : ¬ (x = 0)) (kf : G E p l e R s m args below meth c nL A k n Q ws q L st) : G E p l e R s m args below meth c nL A k n Q ws pc L (.int x :: st) :=
  G_if_eq C d tgt ht q hq Iff.rfl (fun h => absurd h hP) (fun _ => kf)
theorem G_icmp_eq (C : gC E p R s m args meth c cc nL own A) {off : Int} (d : decode cc pc = .ok (.if_icmp .eq off, 3)) (q : Nat) (hq : (pc : Int) + off = (q : Int)) (q2 : Nat) (hq2 : pc + 3 = q2) {x y : Int32} {P : Prop} (hP : (x = y) ↔ P) (kt : P → G E p l e R s m args below meth c nL A k n Q ws q L st) (kf : ¬ P → G E p l e R s m args below meth c nL A k n Q ws q2 L st) : G E p l e R s m args below meth c nL A k n Q ws pc L (.int y :: .int x :: st) := by
  subst hq2; exact fun H locs hP1 hD hS ls hl => lv_icmp_eq C.hx C.hb d hq (fun h => kt (hP.mp h) H locs hP1 hD hS ls hl) (fun h => kf (fun hh => h (hP.mpr hh)) H locs hP1 hD hS ls hl)
theorem G_icmp_eq_t (C : gC E p R s m args meth c cc nL own A) {off : Int} (d : decode cc pc = .ok (.if_icmp .eq off, 3)) (q : Nat) (hq : (pc : Int) + off = (q : Int)) {x y : Int32} (hP : x = y) (kt : G E p l e R s m args below meth c nL A k n Q ws q L st) : G E p l e R s m args below meth c nL A k n Q ws pc L (.int y :: .int x :: st) :=
  G_icmp_eq C d q hq (pc + 3) rfl Iff.rfl (fun _ => kt) (fun h => absurd hP h)
theorem G_icmp_eq_f (C : gC E p R s m args meth c cc nL own A) {off : Int} (d : decode cc pc = .ok (.if_icmp .eq off, 3)) (tgt : Nat) (ht : (pc : Int) + off = (tgt : Int)) (q : Nat) (hq : pc + 3 = q) {x y : Int32} (hP : ¬ (x = y)) (kf : G E p l e R s m args below meth c nL A k n Q ws q L st) : G E p l e R s m args below meth c nL A k n Q ws pc L (.int y :: .int x :: st) :=
  G_icmp_eq C d tgt ht q hq Iff.rfl (fun h => absurd h hP) (fun _ => kf)
theorem G_if_ne (C : gC E p R s m args meth c cc nL own A) {off : Int} (d : decode cc pc = .ok (.ifCond .ne off, 3)) (q : Nat) (hq : (pc : Int) + off = (q : Int)) (q2 : Nat) (hq2 : pc + 3 = q2) {x : Int32} {P : Prop} (hP : (x = 0) ↔ P) (kt : ¬ P → G E p l e R s m args below meth c nL A k n Q ws q L st) (kf : P → G E p l e R s m args below meth c nL A k n Q ws q2 L st) : G E p l e R s m args below meth c nL A k n Q ws pc L (.int x :: st) := by
  subst hq2; exact fun H locs hP1 hD hS ls hl => lv_if_ne C.hx C.hb d hq (fun h => kt (fun hh => h (hP.mpr hh)) H locs hP1 hD hS ls hl) (fun h => kf (hP.mp h) H locs hP1 hD hS ls hl)
theorem G_if_ne_t (C : gC E p R s m args meth c cc nL own A) {off : Int} (d : decode cc pc = .ok (.ifCond .ne off, 3)) (q : Nat) (hq : (pc : Int) + off = (q : Int)) {x : Int32} (hP : ¬ (x = 0)) (kt : G E p l e R s m args below meth c nL A k n Q ws q L st) : G E p l e R s m args below meth c nL A k n Q ws pc L (.int x :: st) :=
  G_if_ne C d q hq (pc + 3) rfl Iff.rfl (fun _ => kt) (fun h => absurd h hP)
theorem G_if_ne_f (C : gC E p R s m args meth c cc nL own A) {off : Int} (d : decode cc pc = .ok (.ifCond .ne off, 3)) (tgt : Nat) (ht : (pc : Int) + off = (tgt : Int)) (q : Nat) (hq : pc + 3 = q) {x : Int32} (hP : x = 0) (kf : G E p l e R s m args below meth c nL A k n Q ws q L st) : G E p l e R s m args below meth c nL A k n Q ws pc L (.int x :: st) :=
  G_if_ne C d tgt ht q hq Iff.rfl (fun h => absurd hP h) (fun _ => kf)
theorem G_icmp_ne (C : gC E p R s m args meth c cc nL own A) {off : Int} (d : decode cc pc = .ok (.if_icmp .ne off, 3)) (q : Nat) (hq : (pc : Int) + off = (q : Int)) (q2 : Nat) (hq2 : pc + 3 = q2) {x y : Int32} {P : Prop} (hP : (x = y) ↔ P) (kt : ¬ P → G E p l e R s m args below meth c nL A k n Q ws q L st) (kf : P → G E p l e R s m args below meth c nL A k n Q ws q2 L st) : G E p l e R s m args below meth c nL A k n Q ws pc L (.int y :: .int x :: st) := by
  subst hq2; exact fun H locs hP1 hD hS ls hl => lv_icmp_ne C.hx C.hb d hq (fun h => kt (fun hh => h (hP.mpr hh)) H locs hP1 hD hS ls hl) (fun h => kf (hP.mp h) H locs hP1 hD hS ls hl)
theorem G_icmp_ne_t (C : gC E p R s m args meth c cc nL own A) {off : Int} (d : decode cc pc = .ok (.if_icmp .ne off, 3)) (q : Nat) (hq : (pc : Int) + off = (q : Int)) {x y : Int32} (hP : ¬ (x = y)) (kt : G E p l e R s m args below meth c nL A k n Q ws q L st) : G E p l e R s m args below meth c nL A k n Q ws pc L (.int y :: .int x :: st) :=
  G_icmp_ne C d q hq (pc + 3) rfl Iff.rfl (fun _ => kt) (fun h => absurd h hP)
theorem G_icmp_ne_f (C : gC E p R s m args meth c cc nL own A) {off : Int} (d : decode cc pc = .ok (.if_icmp .ne off, 3)) (tgt : Nat) (ht : (pc : Int) + off = (tgt : Int)) (q : Nat) (hq : pc + 3 = q) {x y : Int32} (hP : x = y) (kf : G E p l e R s m args below meth c nL A k n Q ws q L st) : G E p l e R s m args below meth c nL A k n Q ws pc L (.int y :: .int x :: st) :=
  G_icmp_ne C d tgt ht q hq Iff.rfl (fun h => absurd hP h) (fun _ => kf)
theorem G_if_lt (C : gC E p R s m args meth c cc nL own A) {off : Int} (d : decode cc pc = .ok (.ifCond .lt off, 3)) (q : Nat) (hq : (pc : Int) + off = (q : Int)) (q2 : Nat) (hq2 : pc + 3 = q2) {x : Int32} {P : Prop} (hP : (x < 0) ↔ P) (kt : P → G E p l e R s m args below meth c nL A k n Q ws q L st) (kf : ¬ P → G E p l e R s m args below meth c nL A k n Q ws q2 L st) : G E p l e R s m args below meth c nL A k n Q ws pc L (.int x :: st) := by
  subst hq2; exact fun H locs hP1 hD hS ls hl => lv_if_lt C.hx C.hb d hq (fun h => kt (hP.mp h) H locs hP1 hD hS ls hl) (fun h => kf (fun hh => h (hP.mpr hh)) H locs hP1 hD hS ls hl)
theorem G_if_lt_t (C : gC E p R s m args meth c cc nL own A) {off : Int} (d : decode cc pc = .ok (.ifCond .lt off, 3)) (q : Nat) (hq : (pc : Int) + off = (q : Int)) {x : Int32} (hP : x < 0) (kt : G E p l e R s m args below meth c nL A k n Q ws q L st) : G E p l e R s m args below meth c nL A k n Q ws pc L (.int x :: st) :=
  G_if_lt C d q hq (pc + 3) rfl Iff.rfl (fun _ => kt) (fun h => absurd hP h)
theorem G_if_lt_f (C : gC E p R s m args meth c cc nL own A) {off : Int} (d : decode cc pc = .ok (.ifCond .lt off, 3)) (tgt : Nat) (ht : (pc : Int) + off = (tgt : Int)) (q : Nat) (hq : pc + 3 = q) {x : Int32} (hP : ¬ (x < 0)) (kf : G E p l e R s m args below meth c nL A k n Q ws q L st) : G E p l e R s m args below meth c nL A k n Q ws pc L (.int x :: st) :=
  G_if_lt C d tgt ht q hq Iff.rfl (fun h => absurd h hP) (fun _ => kf)
theorem G_icmp_lt (C : gC E p R s m args meth c cc nL own A) {off : Int} (d : decode cc pc = .ok (.if_icmp .lt off, 3)) (q : Nat) (hq : (pc : Int) + off = (q : Int)) (q2 : Nat) (hq2 : pc + 3 = q2) {x y : Int32} {P : Prop} (hP : (x < y) ↔ P) (kt : P → G E p l e R s m args below meth c nL A k n Q ws q L st) (kf : ¬ P → G E p l e R s m args below meth c nL A k n Q ws q2 L st) : G E p l e R s m args below meth c nL A k n Q ws pc L (.int y :: .int x :: st) := by
  subst hq2; exact fun H locs hP1 hD hS ls hl => lv_icmp_lt C.hx C.hb d hq (fun h => kt (hP.mp h) H locs hP1 hD hS ls hl) (fun h => kf (fun hh => h (hP.mpr hh)) H locs hP1 hD hS ls hl)
theorem G_icmp_lt_t (C : gC E p R s m args meth c cc nL own A) {off : Int} (d : decode cc pc = .ok (.if_icmp .lt off, 3)) (q : Nat) (hq : (pc : Int) + off = (q : Int)) {x y : Int32} (hP : x < y) (kt : G E p l e R s m args below meth c nL A k n Q ws q L st) : G E p l e R s m args below meth c nL A k n Q ws pc L (.int y :: .int x :: st) :=
  G_icmp_lt C d q hq (pc + 3) rfl Iff.rfl (fun _ => kt) (fun h => absurd hP h)
theorem G_icmp_lt_f (C : gC E p R s m args meth c cc nL own A) {off : Int} (d : decode cc pc = .ok (.if_icmp .lt off, 3)) (tgt : Nat) (ht : (pc : Int) + off = (tgt : Int)) (q : Nat) (hq : pc + 3 = q) {x y : Int32} (hP : ¬ (x < y)) (kf : G E p l e R s m args below meth c nL A k n Q ws q L st) : G E p l e R s m args below meth c nL A k n Q ws pc L (.int y :: .int x :: st) :=
  G_icmp_lt C d tgt ht q hq Iff.rfl (fun h => absurd h hP) (fun _ => kf)
theorem G_if_ge (C : gC E p R s m args meth c cc nL own A) {off : Int} (d : decode cc pc = .ok (.ifCond .ge off, 3)) (q : Nat) (hq : (pc : Int) + off = (q : Int)) (q2 : Nat) (hq2 : pc + 3 = q2) {x : Int32} {P : Prop} (hP : (0 ≤ x) ↔ P) (kt : P → G E p l e R s m args below meth c nL A k n Q ws q L st) (kf : ¬ P → G E p l e R s m args below meth c nL A k n Q ws q2 L st) : G E p l e R s m args below meth c nL A k n Q ws pc L (.int x :: st) := by
  subst hq2; exact fun H locs hP1 hD hS ls hl => lv_if_ge C.hx C.hb d hq (fun h => kt (hP.mp h) H locs hP1 hD hS ls hl) (fun h => kf (fun hh => h (hP.mpr hh)) H locs hP1 hD hS ls hl)
theorem G_if_ge_t (C : gC E p R s m args meth c cc nL own A) {off : Int} (d : decode cc pc = .ok (.ifCond .ge off, 3)) (q : Nat) (hq : (pc : Int) + off = (q : Int)) {x : Int32} (hP : 0 ≤ x) (kt : G E p l e R s m args below meth c nL A k n Q ws q L st) : G E p l e R s m args below meth c nL A k n Q ws pc L (.int x :: st) :=
  G_if_ge C d q hq (pc + 3) rfl Iff.rfl (fun _ => kt) (fun h => absurd hP h)
theorem G_if_ge_f (C : gC E p R s m args meth c cc nL own A) {off : Int} (d : decode cc pc = .ok (.ifCond .ge off, 3)) (tgt : Nat) (ht : (pc : Int) + off = (tgt : Int)) (q : Nat) (hq : pc + 3 = q) {x : Int32} (hP : ¬ (0 ≤ x)) (kf : G E p l e R s m args below meth c nL A k n Q ws q L st) : G E p l e R s m args below meth c nL A k n Q ws pc L (.int x :: st) :=
  G_if_ge C d tgt ht q hq Iff.rfl (fun h => absurd h hP) (fun _ => kf)
theorem G_icmp_ge (C : gC E p R s m args meth c cc nL own A) {off : Int} (d : decode cc pc = .ok (.if_icmp .ge off, 3)) (q : Nat) (hq : (pc : Int) + off = (q : Int)) (q2 : Nat) (hq2 : pc + 3 = q2) {x y : Int32} {P : Prop} (hP : (y ≤ x) ↔ P) (kt : P → G E p l e R s m args below meth c nL A k n Q ws q L st) (kf : ¬ P → G E p l e R s m args below meth c nL A k n Q ws q2 L st) : G E p l e R s m args below meth c nL A k n Q ws pc L (.int y :: .int x :: st) := by
  subst hq2; exact fun H locs hP1 hD hS ls hl => lv_icmp_ge C.hx C.hb d hq (fun h => kt (hP.mp h) H locs hP1 hD hS ls hl) (fun h => kf (fun hh => h (hP.mpr hh)) H locs hP1 hD hS ls hl)
theorem G_icmp_ge_t (C : gC E p R s m args meth c cc nL own A) {off : Int} (d : decode cc pc = .ok (.if_icmp .ge off, 3)) (q : Nat) (hq : (pc : Int) + off = (q : Int)) {x y : Int32} (hP : y ≤ x) (kt : G E p l e R s m args below meth c nL A k n Q ws q L st) : G E p l e R s m args below meth c nL A k n Q ws pc L (.int y :: .int x :: st) :=
  G_icmp_ge C d q hq (pc + 3) rfl Iff.rfl (fun _ => kt) (fun h => absurd hP h)
theorem G_icmp_ge_f (C : gC E p R s m args meth c cc nL own A) {off : Int} (d : decode cc pc = .ok (.if_icmp .ge off, 3)) (tgt : Nat) (ht : (pc : Int) + off = (tgt : Int)) (q : Nat) (hq : pc + 3 = q) {x y : Int32} (hP : ¬ (y ≤ x)) (kf : G E p l e R s m args below meth c nL A k n Q ws q L st) : G E p l e R s m args below meth c nL A k n Q ws pc L (.int y :: .int x :: st) :=
  G_icmp_ge C d tgt ht q hq Iff.rfl (fun h => absurd h hP) (fun _ => kf)
theorem G_if_gt (C : gC E p R s m args meth c cc nL own A) {off : Int} (d : decode cc pc = .ok (.ifCond .gt off, 3)) (q : Nat) (hq : (pc : Int) + off = (q : Int)) (q2 : Nat) (hq2 : pc + 3 = q2) {x : Int32} {P : Prop} (hP : (0 < x) ↔ P) (kt : P → G E p l e R s m args below meth c nL A k n Q ws q L st) (kf : ¬ P → G E p l e R s m args below meth c nL A k n Q ws q2 L st) : G E p l e R s m args below meth c nL A k n Q ws pc L (.int x :: st) := by
  subst hq2; exact fun H locs hP1 hD hS ls hl => lv_if_gt C.hx C.hb d hq (fun h => kt (hP.mp h) H locs hP1 hD hS ls hl) (fun h => kf (fun hh => h (hP.mpr hh)) H locs hP1 hD hS ls hl)
theorem G_if_gt_t (C : gC E p R s m args meth c cc nL own A) {off : Int} (d : decode cc pc = .ok (.ifCond .gt off, 3)) (q : Nat) (hq : (pc : Int) + off = (q : Int)) {x : Int32} (hP : 0 < x) (kt : G E p l e R s m args below meth c nL A k n Q ws q L st) : G E p l e R s m args below meth c nL A k n Q ws pc L (.int x :: st) :=
  G_if_gt C d q hq (pc + 3) rfl Iff.rfl (fun _ => kt) (fun h => absurd hP h)
theorem G_if_gt_f (C : gC E p R s m args meth c cc nL own A) {off : Int} (d : decode cc pc = .ok (.ifCond .gt off, 3)) (tgt : Nat) (ht : (pc : Int) + off = (tgt : Int)) (q : Nat) (hq : pc + 3 = q) {x : Int32} (hP : ¬ (0 < x)) (kf : G E p l e R s m args below meth c nL A k n Q ws q L st) : G E p l e R s m args below meth c nL A k n Q ws pc L (.int x :: st) :=
  G_if_gt C d tgt ht q hq Iff.rfl (fun h => absurd h hP) (fun _ => kf)
theorem G_icmp_gt (C : gC E p R s m args meth c cc nL own A) {off : Int} (d : decode cc pc = .ok (.if_icmp .gt off, 3)) (q : Nat) (hq : (pc : Int) + off = (q : Int)) (q2 : Nat) (hq2 : pc + 3 = q2) {x y : Int32} {P : Prop} (hP : (y < x) ↔ P) (kt : P → G E p l e R s m args below meth c nL A k n Q ws q L st) (kf : ¬ P → G E p l e R s m args below meth c nL A k n Q ws q2 L st) : G E p l e R s m args below meth c nL A k n Q ws pc L (.int y :: .int x :: st) := by
  subst hq2; exact fun H locs hP1 hD hS ls hl => lv_icmp_gt C.hx C.hb d hq (fun h => kt (hP.mp h) H locs hP1 hD hS ls hl) (fun h => kf (fun hh => h (hP.mpr hh)) H locs hP1 hD hS ls hl)
theorem G_icmp_gt_t (C : gC E p R s m args meth c cc nL own A) {off : Int} (d : decode cc pc = .ok (.if_icmp .gt off, 3)) (q : Nat) (hq : (pc : Int) + off = (q : Int)) {x y : Int32} (hP : y < x) (kt : G E p l e R s m args below meth c nL A k n Q ws q L st) : G E p l e R s m args below meth c nL A k n Q ws pc L (.int y :: .int x :: st) :=
  G_icmp_gt C d q hq (pc + 3) rfl Iff.rfl (fun _ => kt) (fun h => absurd hP h)
theorem G_icmp_gt_f (C : gC E p R s m args meth c cc nL own A) {off : Int} (d : decode cc pc = .ok (.if_icmp .gt off, 3)) (tgt : Nat) (ht : (pc : Int) + off = (tgt : Int)) (q : Nat) (hq : pc + 3 = q) {x y : Int32} (hP : ¬ (y < x)) (kf : G E p l e R s m args below meth c nL A k n Q ws q L st) : G E p l e R s m args below meth c nL A k n Q ws pc L (.int y :: .int x :: st) :=
  G_icmp_gt C d tgt ht q hq Iff.rfl (fun h => absurd h hP) (fun _ => kf)
theorem G_if_le (C : gC E p R s m args meth c cc nL own A) {off : Int} (d : decode cc pc = .ok (.ifCond .le off, 3)) (q : Nat) (hq : (pc : Int) + off = (q : Int)) (q2 : Nat) (hq2 : pc + 3 = q2) {x : Int32} {P : Prop} (hP : (x ≤ 0) ↔ P) (kt : P → G E p l e R s m args below meth c nL A k n Q ws q L st) (kf : ¬ P → G E p l e R s m args below meth c nL A k n Q ws q2 L st) : G E p l e R s m args below meth c nL A k n Q ws pc L (.int x :: st) := by
  subst hq2; exact fun H locs hP1 hD hS ls hl => lv_if_le C.hx C.hb d hq (fun h => kt (hP.mp h) H locs hP1 hD hS ls hl) (fun h => kf (fun hh => h (hP.mpr hh)) H locs hP1 hD hS ls hl)
theorem G_if_le_t (C : gC E p R s m args meth c cc nL own A) {off : Int} (d : decode cc pc = .ok (.ifCond .le off, 3)) (q : Nat) (hq : (pc : Int) + off = (q : Int)) {x : Int32} (hP : x ≤ 0) (kt : G E p l e R s m args below meth c nL A k n Q ws q L st) : G E p l e R s m args below meth c nL A k n Q ws pc L (.int x :: st) :=
  G_if_le C d q hq (pc + 3) rfl Iff.rfl (fun _ => kt) (fun h => absurd hP h)
theorem G_if_le_f (C : gC E p R s m args meth c cc nL own A) {off : Int} (d : decode cc pc = .ok (.ifCond .le off, 3)) (tgt : Nat) (ht : (pc : Int) + off = (tgt : Int)) (q : Nat) (hq : pc + 3 = q) {x : Int32} (hP : ¬ (x ≤ 0)) (kf : G E p l e R s m args below meth c nL A k n Q ws q L st) : G E p l e R s m args below meth c nL A k n Q ws pc L (.int x :: st) :=
  G_if_le C d tgt ht q hq Iff.rfl (fun h => absurd h hP) (fun _ => kf)
theorem G_icmp_le (C : gC E p R s m args meth c cc nL own A) {off : Int} (d : decode cc pc = .ok (.if_icmp .le off, 3)) (q : Nat) (hq : (pc : Int) + off = (q : Int)) (q2 : Nat) (hq2 : pc + 3 = q2) {x y : Int32} {P : Prop} (hP : (x ≤ y) ↔ P) (kt : P → G E p l e R s m args below meth c nL A k n Q ws q L st) (kf : ¬ P → G E p l e R s m args below meth c nL A k n Q ws q2 L st) : G E p l e R s m args below meth c nL A k n Q ws pc L (.int y :: .int x :: st) := by
  subst hq2; exact fun H locs hP1 hD hS ls hl => lv_icmp_le C.hx C.hb d hq (fun h => kt (hP.mp h) H locs hP1 hD hS ls hl) (fun h => kf (fun hh => h (hP.mpr hh)) H locs hP1 hD hS ls hl)
theorem G_icmp_le_t (C : gC E p R s m args meth c cc nL own A) {off : Int} (d : decode cc pc = .ok (.if_icmp .le off, 3)) (q : Nat) (hq : (pc : Int) + off = (q : Int)) {x y : Int32} (hP : x ≤ y) (kt : G E p l e R s m args below meth c nL A k n Q ws q L st) : G E p l e R s m args below meth c nL A k n Q ws pc L (.int y :: .int x :: st) :=
  G_icmp_le C d q hq (pc + 3) rfl Iff.rfl (fun _ => kt) (fun h => absurd hP h)
theorem G_icmp_le_f (C : gC E p R s m args meth c cc nL own A) {off : Int} (d : decode cc pc = .ok (.if_icmp .le off, 3)) (tgt : Nat) (ht : (pc : Int) + off = (tgt : Int)) (q : Nat) (hq : pc + 3 = q) {x y : Int32} (hP : ¬ (x ≤ y)) (kf : G E p l e R s m args below meth c nL A k n Q ws q L st) : G E p l e R s m args below meth c nL A k n Q ws pc L (.int y :: .int x :: st) :=
  G_icmp_le C d tgt ht q hq Iff.rfl (fun h => absurd h hP) (fun _ => kf)
theorem G_tabIn (C : gC E p R s m args meth c cc nL own A) {dflt lo hi : Int} {offs : Array Int} {len : Nat} {x : Int32} (d : decode cc pc = .ok (.tableswitch dflt lo hi offs, len)) (off : Int) (h1 : ¬ x.toInt < lo) (h2 : ¬ hi < x.toInt) (ho : offs[(x.toInt - lo).toNat]? = some off) (q : Nat) (hq : (pc : Int) + off = (q : Int)) (kk : G E p l e R s m args below meth c nL A k n Q ws q L st) : G E p l e R s m args below meth c nL A k n Q ws pc L (.int x :: st) :=
  fun H locs hP hD hS ls hl => lv_tableIn C.hx C.hb d h1 h2 ho hq (kk H locs hP hD hS ls hl)
theorem G_tabOut (C : gC E p R s m args meth c cc nL own A) {dflt lo hi : Int} {offs : Array Int} {len : Nat} {x : Int32} (d : decode cc pc = .ok (.tableswitch dflt lo hi offs, len)) (h : x.toInt < lo ∨ hi < x.toInt) (q : Nat) (hq : (pc : Int) + dflt = (q : Int)) (kk : G E p l e R s m args below meth c nL A k n Q ws q L st) : G E p l e R s m args below meth c nL A k n Q ws pc L (.int x :: st) :=
  fun H locs hP hD hS ls hl => lv_tableOut C.hx C.hb d h hq (kk H locs hP hD hS ls hl)
theorem G_lookup (C : gC E p R s m args meth c cc nL own A) {dflt : Int} {ps : Array (Int × Int)} {len : Nat} {x : Int32} (d : decode cc pc = .ok (.lookupswitch dflt ps, len)) (off : Int) (hp : (ps.toList.zip (ps.toList.drop 1)).all (fun (a, next) => a.1 < next.1) = true) (ho : Op.lookupswitch.offset ps.toList dflt x.toInt = off) (q : Nat) (hq : (pc : Int) + off = (q : Int)) (kk : G E p l e R s m args below meth c nL A k n Q ws q L st) : G E p l e R s m args below meth c nL A k n Q ws pc L (.int x :: st) :=
  fun H locs hP hD hS ls hl => lv_lookup C.hx C.hb d hp ho hq (kk H locs hP hD hS ls hl)
-- fields
theorem G_getf (C : gC E p R s m args meth c cc nL own A) {j : Nat} (d : decode cc pc = .ok (.getfield j, 3)) {K : String} {T : u_T} {N : Nat} (hT : ∀ w ∈ u_ws K T N, w ∈ lw_g) {f : Nat} (hl : Cond.fieldLink own j (T f).1 (T f).2.1 (T f).2.2.1 ∈ lw_g) (hf : f < N) {ci : Nat} (hc : gcls[ci]? = some (K, T, N)) (q0 : Nat) {a : Nat} {fs : List Value} (he : ws[q0]? = some (a, .inr (ci, fs))) {v : Value} (hv : fs[f]? = some v) (q : Nat) (hq : pc + 3 = q) (kk : G E p l e R s m args below meth c nL A k n Q ws q L (v :: st)) : G E p l e R s m args below meth c nL A k n Q ws pc L (.ref a :: st) := by
  subst hq; exact fun H locs hP hD hS ls h => va_get C.hx C.hb C.hts hT C.hown C.hK.1 hP q0 he hc f hf (C.hts _ hl) (fun _ h9 => h9) hv d (kk H locs hP hD hS ls h)
theorem G_putf (C : gC E p R s m args meth c cc nL own A) {j : Nat} (d : decode cc pc = .ok (.putfield j, 3)) {K : String} {T : u_T} {N : Nat} (hT : ∀ w ∈ u_ws K T N, w ∈ lw_g) {f : Nat} (hl : Cond.fieldLink own j (T f).1 (T f).2.1 (T f).2.2.1 ∈ lw_g) (hf : f < N) {ci : Nat} (hc : gcls[ci]? = some (K, T, N)) {ty0 : Nat → FieldType} (hty : ∀ k, k < N → parseFieldDescriptor (T k).2.2.1 = some (ty0 k)) (hnm : ∀ a, a < N → ∀ b, b < N → a ≠ b → (T a).2.1 ≠ (T b).2.1) (hfin : (T f).2.2.2 = false) (q0 : Nat) {a : Nat} {fs : List Value} (he : ws[q0]? = some (a, .inr (ci, fs))) {v : Value} (hn : narrow (ty0 f) v = v) (hfit : fits (ty0 f) v = true) (hlen : f < fs.length) (ws' : va_W) (hw : ws.set q0 (a, .inr (ci, fs.set f v)) = ws') (q : Nat) (hq : pc + 3 = q) (kk : G E p l e R s m args below meth c nL A k n Q ws' q L st) : G E p l e R s m args below meth c nL A k n Q ws pc L (v :: .ref a :: st) := by
  subst hq; subst hw; exact fun H locs hP hD hS ls h => va_put C.hx C.hb C.hts hT ty0 hty hnm C.hown C.hK.1 hP hD hS q0 he hc f hf (C.hts _ hl) (fun _ h9 => h9) hfin (hty f hf) hn hfit hlen d (fun H1 locs1 hP1 hD1 hS1 => kk H1 locs1 hP1 hD1 hS1 ls h)
theorem G_putF (C : gC E p R s m args meth c cc nL own A) {j : Nat} (d : decode cc pc = .ok (.putfield j, 3)) {K : String} {T : u_T} {N : Nat} (hT : ∀ w ∈ u_ws K T N, w ∈ lw_g) {f : Nat} (hl : Cond.fieldLink own j (T f).1 (T f).2.1 (T f).2.2.1 ∈ lw_g) (hf : f < N) {ci : Nat} (hc : gcls[ci]? = some (K, T, N)) {ty0 : Nat → FieldType} (hty : ∀ k, k < N → parseFieldDescriptor (T k).2.2.1 = some (ty0 k)) (hnm : ∀ a, a < N → ∀ b, b < N → a ≠ b → (T a).2.1 ≠ (T b).2.1) (hfin : (T f).2.2.2 = true) (hin : meth.name = "<init>") (hdc : (T f).1 = own) (q0 : Nat) {a : Nat} {fs : List Value} (he : ws[q0]? = some (a, .inr (ci, fs))) {v : Value} (hn : narrow (ty0 f) v = v) (hfit : fits (ty0 f) v = true) (hlen : f < fs.length) (ws' : va_W) (hw : ws.set q0 (a, .inr (ci, fs.set f v)) = ws') (q : Nat) (hq : pc + 3 = q) (kk : G E p l e R s m args below meth c nL A k n Q ws' q L st) : G E p l e R s m args below meth c nL A k n Q ws pc L (v :: .ref a :: st) := by
  subst hq; subst hw; exact fun H locs hP hD hS ls h => va_putF C.hx C.hb C.hts hT ty0 hty hnm C.hown C.hK.1 hP hD hS q0 he hc f hf (C.hts _ hl) (fun _ h9 => h9) hfin hin hdc (hty f hf) hn hfit hlen d (fun H1 locs1 hP1 hD1 hS1 => kk H1 locs1 hP1 hD1 hS1 ls h)
-- arrays
theorem G_iald (C : gC E p R s m args meth c cc nL own A) (d : decode cc pc = .ok (.iaload, 1)) (q0 : Nat) {a len : Nat} {f : Nat → Int32} (ha : ws[q0]? = some (a, .inl (E.2.1, len, .inl f))) {i v : Int32} (hin : vp_in i len) (hv : f i.toNatClampNeg = v) (q : Nat) (hq : pc + 1 = q) (kk : G E p l e R s m args below meth c nL A k n Q ws q L (.int v :: st)) : G E p l e R s m args below meth c nL A k n Q ws pc L (.int i :: .ref a :: st) := by
  subst hq; subst hv; exact fun H locs hP hD hS ls h => va_iald C.hx C.hb C.hK.1 hP q0 0 ha rfl hin d (kk H locs hP hD hS ls h)
theorem G_iast (C : gC E p R s m args meth c cc nL own A) (d : decode cc pc = .ok (.iastore, 1)) (q0 : Nat) {a len : Nat} {f f' : Nat → Int32} (ha : ws[q0]? = some (a, .inl (E.2.1, len, .inl f))) {i x : Int32} (hin : vp_in i len) (hf : upd f i.toNatClampNeg x = f') (ws' : va_W) (hw : ws.set q0 (a, .inl (E.2.1, len, .inl f')) = ws') (q : Nat) (hq : pc + 1 = q) (kk : G E p l e R s m args below meth c nL A k n Q ws' q L st) : G E p l e R s m args below meth c nL A k n Q ws pc L (.int x :: .int i :: .ref a :: st) := by
  subst hq; subst hf; subst hw; exact fun H locs hP hD hS ls h => va_iast C.hx C.hb C.hK.1 hP hD hS q0 0 ha rfl hin d (fun H1 locs1 hP1 hD1 hS1 => kk H1 locs1 hP1 hD1 hS1 ls h)
theorem G_aald (C : gC E p R s m args meth c cc nL own A) (d : decode cc pc = .ok (.aaload, 1)) (q0 : Nat) {a len : Nat} {f : Nat → Option Nat} (ha : ws[q0]? = some (a, .inl (E.2.2, len, .inr (.inr (.inr (.inr f)))))) {i : Int32} {v : Value} (hin : vp_in i len) (hv : va_rf (f i.toNatClampNeg) = v) (q : Nat) (hq : pc + 1 = q) (kk : G E p l e R s m args below meth c nL A k n Q ws q L (v :: st)) : G E p l e R s m args below meth c nL A k n Q ws pc L (.int i :: .ref a :: st) := by
  subst hq; subst hv; exact fun H locs hP hD hS ls h => va_aldq C.hx C.hb C.hK.1 hP q0 1 ha rfl hin d (kk H locs hP hD hS ls h)
theorem G_aast (C : gC E p R s m args meth c cc nL own A) (d : decode cc pc = .ok (.aastore, 1)) (q0 qk : Nat) {a len : Nat} {f f' : Nat → Option Nat} (ha : ws[q0]? = some (a, .inl (E.2.2, len, .inr (.inr (.inr (.inr f)))))) {v : Nat} {vs : List Value} (hv : ws[qk]? = some (v, .inr (2, vs))) {i : Int32} (hin : vp_in i len) (hf : va_up f i.toNatClampNeg (some v) = f') (ws' : va_W) (hw : ws.set q0 (a, .inl (E.2.2, len, .inr (.inr (.inr (.inr f'))))) = ws') (q : Nat) (hq : pc + 1 = q) (kk : G E p l e R s m args below meth c nL A k n Q ws' q L st) : G E p l e R s m args below meth c nL A k n Q ws pc L (.ref v :: .int i :: .ref a :: st) := by
  subst hq; subst hf; subst hw; exact fun H locs hP hD hS ls h => va_astq C.hx C.hb C.hK.1 hP hD hS q0 1 qk 2 ha rfl hv rfl hin d (fun H1 locs1 hP1 hD1 hS1 => kk H1 locs1 hP1 hD1 hS1 ls h)
theorem G_alen (C : gC E p R s m args meth c cc nL own A) (d : decode cc pc = .ok (.arraylength, 1)) (q0 : Nat) {a len : Nat} {f : Nat → Int32} (ha : ws[q0]? = some (a, .inl (E.2.1, len, .inl f))) (q : Nat) (hq : pc + 1 = q) (kk : G E p l e R s m args below meth c nL A k n Q ws q L (.int (nI len) :: st)) : G E p l e R s m args below meth c nL A k n Q ws pc L (.ref a :: st) := by
  subst hq; exact fun H locs hP hD hS ls h => va_alen C.hx C.hb C.hK.1 hP q0 0 ha rfl rfl d (kk H locs hP hD hS ls h)
-- contracts
def gQ (E : gE) {S : Type} (post : S → Prop) (rv : S → Option Value) (wo : S → va_W) (A : Nat → Prop) : Array Value → State → Outcome → State → Prop := fun _ st oc t => (∃ u : S, oc = .returned (rv u) ∧ post u ∧ va_P E.1 gcls (wo u) t.heap ∧ va_D A (wo u)) ∧ va_F A st t
def gP (E : gE) (as : List Value) (wi : va_W) (sz : Nat) : Array Value → State → Prop := va_Pc as (fun U => U.heap.size = sz ∧ va_P E.1 gcls wi U.heap ∧ gK E U ∧ va_D (fun _ => True) wi)
def Fn (l : Launch) (E : gE) (y : MethodName) (cc : ByteArray) (mL : Nat) (ret : Option FieldType) (rm : Room) (as : List Value) (wi : va_W) {S : Type} (post : S → Prop) (rv : S → Option Value) (wo : S → va_W) (mc ms : Nat) : Prop :=
  ∀ sz : Nat, Met l y (.code y cc mL ret :: lw_g) rm (gP E as wi sz) (gQ E post rv wo (va_A wi sz)) mc ms (va_A wi sz)
abbrev FD (l : Launch) (E : gE) (y : MethodName) (cc : ByteArray) (mL : Nat) (ret : Option FieldType) (rm : Room) (as : List Value) (wi : va_W) (r : Option Value) (wo : va_W) : Prop := Fn l E y cc mL ret rm as wi (S := Unit) (fun _ => True) (fun _ => r) (fun _ => wo) 0 0
theorem gP.blind {as : List Value} {wi : va_W} {sz : Nat} : FrameBlind (gP E as wi sz) := fun a U g mk h => by
  obtain ⟨h1, h2, h3, h4, h5⟩ := h
  exact ⟨h1, h2, h3, gK.same (u := U) (U := U.calling g mk a) rfl h4, h5⟩
theorem Fn_of {y : MethodName} {ret : Option FieldType} {rm : Room} {as : List Value} {wi : va_W} {S : Type} {post : S → Prop} {rv : S → Option Value} {wo : S → va_W} {mc ms : Nat} (hy : plainName y.cls = true) (ho : y.cls = own) (hlen : Nat.ble (lg_sl as).length nL = true)
    (body : ∀ (p : Program) (e : Env) (s : State) (m : MethodId) (below : List Frame) (meth : Method) (c : Code) (A : Nat → Prop), gC E p rm s m as.toArray meth c cc nL own A → meth.sig.returnType = ret → meth.name = y.name →
      G E p l e rm s m as.toArray below meth c nL A 0 0 (MQ below (gQ E post rv wo A) as.toArray s mc ms A) wi 0 (lv_args 0 as) []) : Fn l E y cc nL ret rm as wi post rv wo mc ms := by
  intro sz
  refine Met.ofW (cc := cc) (maxL := nL) (ret := ret) hy rfl ?_
  intro p e s m args below meth c s₁ B hml hv
  obtain ⟨rfl, hsz, hP, hK, hD0⟩ := hv
  have hts := atoms_spec (ws := .code y cc nL ret :: lw_g) B.pre
  have hown : s.vm.findClass own = some m.cls := by rw [← ho]; exact findClass_of_methodNamed B.named
  subst hsz
  have hD := hD0.self (sz := s.heap.size)
  generalize hAe : va_A wi s.heap.size = A at hD ⊢
  have hA : ∀ q : Nat, s.heap.size ≤ q → A q := fun q h => by rw [← hAe]; exact Or.inr h
  have hl := lv_entry as (n := nL) (Nat.le_of_ble_eq_true hlen)
  rw [lg_entry_eq]
  generalize (lg_sl as ++ List.replicate (nL - (lg_sl as).length) Slot.unset).toArray = ls at hl ⊢
  exact body p e s m below meth c A ⟨B.exec, B.bytes, hml, hown, fun w hw => hts w (List.mem_cons_of_mem _ hw), hK, hA, B.notSynchronized⟩ B.returns (name_of_methodNamed B.named B.method).1 s.heap [] hP hD va_S.rf ls hl
-- returns
theorem G_iret (C : gC E p R s m args meth c cc nL own A) {ty : FieldType} (hr : meth.sig.returnType = some ty) (d : decode cc pc = .ok (.ireturn, 1)) {v : Int32} (hn : narrow ty (.int v) = .int v) {S : Type} {post : S → Prop} {rv : S → Option Value} {wo : S → va_W} (u : S) (hp : post u) (hv : rv u = some (.int v)) (hw : wo u = ws) : G E p l e R s m args below meth c nL A k n (MQ below (gQ E post rv wo A) args s k n A) ws pc L [.int v] := by
  subst hw
  exact fun H locs hP hD hS ls h => W.zret C.hx C.hb hr hn (fun t ht hW => ⟨⟨u, by rw [hv], hp, by rw [ht]; exact hP, hD⟩, hS.F ht⟩) hS.2.2 d C.hlk
theorem G_vret (C : gC E p R s m args meth c cc nL own A) (hr : meth.sig.returnType = none) (d : decode cc pc = .ok (.return_, 1)) {S : Type} {post : S → Prop} {rv : S → Option Value} {wo : S → va_W} (u : S) (hp : post u) (hv : rv u = none) (hw : wo u = ws) : G E p l e R s m args below meth c nL A k n (MQ below (gQ E post rv wo A) args s k n A) ws pc L [] := by
  subst hw
  exact fun H locs hP hD hS ls h => W.vret C.hx C.hb hr (fun t ht hW => ⟨⟨u, by rw [hv], hp, by rw [ht]; exact hP, hD⟩, hS.F ht⟩) hS.2.2 d C.hlk
theorem G_lret (C : gC E p R s m args meth c cc nL own A) (hr : meth.sig.returnType = some .long) (d : decode cc pc = .ok (.lreturn, 1)) {v : Int64} {S : Type} {post : S → Prop} {rv : S → Option Value} {wo : S → va_W} (u : S) (hp : post u) (hv : rv u = some (.long v)) (hw : wo u = ws) : G E p l e R s m args below meth c nL A k n (MQ below (gQ E post rv wo A) args s k n A) ws pc L [.long v] := by
  subst hw
  exact fun H locs hP hD hS ls h => W.lret C.hx C.hb hr (fun t ht hW => ⟨⟨u, by rw [hv], hp, by rw [ht]; exact hP, hD⟩, hS.F ht⟩) hS.2.2 d C.hlk
theorem G_aret (C : gC E p R s m args meth c cc nL own A) {rt : String} (hr : meth.sig.returnType = some (.object rt)) (d : decode cc pc = .ok (.areturn, 1)) {a : Nat} {S : Type} {post : S → Prop} {rv : S → Option Value} {wo : S → va_W} (u : S) (hp : post u) (hv : rv u = some (.ref a)) (hw : wo u = ws) : G E p l e R s m args below meth c nL A k n (MQ below (gQ E post rv wo A) args s k n A) ws pc L [.ref a] := by
  subst hw
  exact fun H locs hP hD hS ls h => W.aret C.hx C.hb hr (Or.inl ⟨_, rfl⟩) (Or.inr ⟨_, rfl⟩) (fun t ht hW => ⟨⟨u, by rw [hv], hp, by rw [ht]; exact hP, hD⟩, hS.F ht⟩) hS.2.2 d C.hlk
-- calls
theorem va_callg {ls : Array Slot} {st0 rest : List Value} {H H0 : Heap} {locs : List Loc} {A0 A1 : Nat → Prop} {mc ms : Nat} {free : Addr → Prop} {S : Type} {post : S → Prop} {rv : S → Option Value} {wo : S → va_W} {a : Array Value} (hr : va_Run p l e R s m args below meth c H locs k n mc ms (F0 m pc ls st0) rest (gQ E post rv wo A1 a) free) (hS : va_S A0 H0 H locs) (hA : ∀ q, q < H.size → A1 q → A0 q) (hf : ∀ q, free q → A0 q)
    (kk : ∀ (u : S) (H1 : Heap) (locs1 : List Loc), post u → va_P E.1 gcls (wo u) H1 → va_D A1 (wo u) → (∀ q : Nat, q < H.size → ¬ A1 q → H1[q]? = H[q]?) → va_S A0 H0 H1 locs1 → W p l e R s m args below meth c H1 locs1 (k + mc) (n + ms) Q (F0 m (pc + 3) ls ((rv u).toList ++ rest))) : W p l e R s m args below meth c H locs k n Q (F0 m pc ls st0) := by
  intro T hT X
  obtain ⟨v, st₀, t, T', L, h0, X', hL, e1, e2, ⟨⟨u, hv, hp, hb, hd⟩, hz, hk⟩, st⟩ := hr T hT X
  have hv2 := Outcome.returned.inj hv
  subst hv2
  rw [h0] at hz hk
  obtain ⟨t2, a1, b1⟩ := kk u T'.heap (locs ++ L) hp (by rw [e1]; exact hb) hd (fun q h1 h2 => by rw [e1]; exact hk q h1 h2)
    ⟨Nat.le_trans hS.1 (by rw [e1]; exact hz), fun q h1 h2 => by rw [e1, hk q (Nat.lt_of_lt_of_le h1 hS.1) (fun z => h2 (hA q (Nat.lt_of_lt_of_le h1 hS.1) z))]; exact hS.2.1 q h1 h2, fun q hq => by
      rcases List.mem_append.mp hq with h | h
      · exact hS.2.2 q h
      · exact hf _ (hL q h)⟩ T' rfl X'
  exact ⟨t2, st t2 a1, b1⟩
/-- a call's cells cut out of the world and put back into their places -/
theorem G_core {mc ms : Nat} {S : Type} {post : S → Prop} {rv : S → Option Value} {wo : S → va_W} {as : List Value} {wc : va_W} {st0 rest : List Value} {y : MethodName} (C : gC E p R s m args meth c cc nL own A)
    (run : ∀ (H : Heap) (locs : List Loc) (ls : Array Slot), va_P E.1 gcls wc H → va_D (fun _ => True) wc → lv_has ls nL L → va_Run p l e R s m args below meth c H locs k n mc ms (F0 m pc ls st0) rest (gQ E post rv wo (va_A wc H.size) as.toArray) (va_A wc H.size))
    (isC isR : List Nat) {wr : va_W} (hC : isC.map (fun i => ws[i]?) = wc.map some) (hR : isR.map (fun i => ws[i]?) = wr.map some) (hnC : va_nd isC = true) (hnR : va_nd isR = true) (hdis : isR.all (fun i => !isC.contains i) = true) (pm : List Nat) (hpm : va_nd pm = true) (ws' : S → va_W) (hw : ∀ u, pm.map (fun i => (wr ++ wo u)[i]?) = (ws' u).map some)
    (q : Nat) (hq : pc + 3 = q) (kk : ∀ u : S, post u → G E p l e R s m args below meth c nL A (k + mc) (n + ms) Q (ws' u) q L ((rv u).toList ++ rest)) : G E p l e R s m args below meth c nL A k n Q ws pc L st0 := by
  subst hq
  intro H locs hP hD hS ls hl
  have hFc := va_free (wc := wc) hD hS C.hA isC hC
  refine va_callg (run H locs ls (P_map hP isC hC) ((hD.sub isC hnC hC).weaken (fun _ _ _ _ => trivial)) hl) hS (fun q _ h => hFc q h) hFc (fun u H1 locs1 hp hP1 hD1 hk1 hS1 => ?_)
  have hdis' : ∀ i ∈ isR, i ∉ isC := fun i hi hj => by
    have h1 := List.all_eq_true.mp hdis i hi
    simp only [Bool.not_eq_true', List.contains_iff_mem, Bool.eq_false_iff, ne_eq] at h1
    exact h1 hj
  obtain ⟨hP2, hD2⟩ := va_join (wr := wr) (w1 := wo u) hP hD isC isR hC hR hnR hdis' hk1 hFc hP1 hD1
  exact kk u hp H1 locs1 (P_map hP2 pm (hw u)) (hD2.sub pm hpm (hw u)) hS1 ls hl
theorem G_callV {mc ms : Nat} {S : Type} {post : S → Prop} {rv : S → Option Value} {wo : S → va_W} {b : Nat} {As : List Value} {wc : va_W} {rest : List Value} {y : MethodName} {yc : ByteArray} {mL : Nat} {ret : Option FieldType} {rm : Room} (C : gC E p R s m args meth c cc nL own A) {j : Nat} (d : decode cc pc = .ok (.invokevirtual j, 3))
    (hF : Fn l E y yc mL ret rm (.ref b :: As) wc post rv wo mc ms) (w1 : Cond.methodLink own j y ∈ lw_g) (w2 : Cond.instanceMethod y ∈ lw_g) (w3 : Cond.selects y.cls y y ∈ lw_g) (w4 : Cond.initialized y.cls ∈ lw_g) (w5 : Cond.code y yc mL ret ∈ lw_g)
    (hrc : rm.cells = mc) (hrs : rm.slots = ms) (hd : y.cls ≠ "java/lang/invoke/MethodHandle" ∧ y.cls ≠ "java/lang/invoke/VarHandle" ∧ (parseMethodDescriptor y.desc).map (fun d => d.parameters.length) = some As.length) (hR0 : (Nat.ble (rm.frames + 1) R.frames && Nat.ble (8 + (mL + 11) + rm.locals) R.locals && Nat.ble (k + mc) R.cells && Nat.ble (n + ms) R.slots) = true) (hst : (rest.map fun v => v.category).sum ≤ 8)
    (ci : Nat) {fs : List Value} {rr : vw_C} (hci : gcls[ci]? = some rr) (hrr : rr.1 = y.cls) (qr : Nat) (hrcv : wc[qr]? = some (b, .inr (ci, fs)))
    (isC isR : List Nat) {wr : va_W} (hC : isC.map (fun i => ws[i]?) = wc.map some) (hR : isR.map (fun i => ws[i]?) = wr.map some) (hnC : va_nd isC = true) (hnR : va_nd isR = true) (hdis : isR.all (fun i => !isC.contains i) = true) (pm : List Nat) (hpm : va_nd pm = true) (ws' : S → va_W) (hw : ∀ u, pm.map (fun i => (wr ++ wo u)[i]?) = (ws' u).map some)
    {st0 : List Value} (hst0 : st0 = As.reverse ++ .ref b :: rest) (q : Nat) (hq : pc + 3 = q) (kk : ∀ u : S, post u → G E p l e R s m args below meth c nL A (k + mc) (n + ms) Q (ws' u) q L ((rv u).toList ++ rest)) : G E p l e R s m args below meth c nL A k n Q ws pc L st0 := by
  subst hst0
  simp only [Bool.and_eq_true] at hR0
  obtain ⟨⟨⟨r1, r2⟩, r3⟩, r4⟩ := hR0
  refine G_core (y := y) (as := .ref b :: As) C (fun H locs ls hP hD hl => ?_) isC isR hC hR hnC hnR hdis pm hpm ws' hw q hq kk
  have hG : GoodIn lw_g (wsV own j y.cls y (.code y yc mL ret :: lw_g)) := by
    intro w hw
    simp only [wsV, List.mem_append, List.mem_cons, List.not_mem_nil, or_false] at hw
    rcases hw with (rfl | rfl | rfl | rfl) | hw
    · exact lw_gg _ w1
    · exact lw_gg _ w2
    · exact lw_gg _ w3
    · exact lw_gg _ w4
    · exact lw_gc w5 w (List.mem_cons.mpr hw)
  exact va_runV (As := As) (rest := rest) (b := b) (C := y.cls) ⟨C.hx, C.hb, C.hml, C.hown, C.hts⟩ (hF H.size) (cwV As.length C.hts hG rfl hrc hrs ⟨rfl, hd⟩ ⟨Nat.le_of_ble_eq_true r1, Nat.le_of_ble_eq_true r2⟩) ⟨gP.blind, by rw [← hrr]; exact va_recv C.hK.1 hP hci hrcv, fun U hU hW => ⟨rfl, by rw [hU], by rw [hU]; exact hP, gK.warm hW C.hK, hD⟩⟩ rfl rfl hl.1 rfl (lv_room hst) d ⟨Nat.le_of_ble_eq_true r3, Nat.le_of_ble_eq_true r4⟩
theorem G_callS {mc ms : Nat} {S : Type} {post : S → Prop} {rv : S → Option Value} {wo : S → va_W} {As : List Value} {wc : va_W} {rest : List Value} {y : MethodName} {yc : ByteArray} {mL : Nat} {ret : Option FieldType} {rm : Room} (C : gC E p R s m args meth c cc nL own A) {j : Nat} (d : decode cc pc = .ok (.invokestatic j, 3))
    (hF : Fn l E y yc mL ret rm As wc post rv wo mc ms) (w1 : Cond.methodLink own j y ∈ lw_g) (w2 : Cond.static y ∈ lw_g) (w4 : Cond.initialized y.cls ∈ lw_g) (w5 : Cond.code y yc mL ret ∈ lw_g)
    (hrc : rm.cells = mc) (hrs : rm.slots = ms) (hd : y.cls ≠ "java/lang/invoke/MethodHandle" ∧ y.cls ≠ "java/lang/invoke/VarHandle" ∧ (parseMethodDescriptor y.desc).map (fun d => d.parameters.length) = some As.length) (hR0 : (Nat.ble (rm.frames + 1) R.frames && Nat.ble (8 + (mL + 11) + rm.locals) R.locals && Nat.ble (k + mc) R.cells && Nat.ble (n + ms) R.slots) = true) (hst : (rest.map fun v => v.category).sum ≤ 8)
    (isC isR : List Nat) {wr : va_W} (hC : isC.map (fun i => ws[i]?) = wc.map some) (hR : isR.map (fun i => ws[i]?) = wr.map some) (hnC : va_nd isC = true) (hnR : va_nd isR = true) (hdis : isR.all (fun i => !isC.contains i) = true) (pm : List Nat) (hpm : va_nd pm = true) (ws' : S → va_W) (hw : ∀ u, pm.map (fun i => (wr ++ wo u)[i]?) = (ws' u).map some)
    {st0 : List Value} (hst0 : st0 = As.reverse ++ rest) (q : Nat) (hq : pc + 3 = q) (kk : ∀ u : S, post u → G E p l e R s m args below meth c nL A (k + mc) (n + ms) Q (ws' u) q L ((rv u).toList ++ rest)) : G E p l e R s m args below meth c nL A k n Q ws pc L st0 := by
  subst hst0
  simp only [Bool.and_eq_true] at hR0
  obtain ⟨⟨⟨r1, r2⟩, r3⟩, r4⟩ := hR0
  refine G_core (y := y) (as := As) C (fun H locs ls hP hD hl => ?_) isC isR hC hR hnC hnR hdis pm hpm ws' hw q hq kk
  exact va_runS (As := As) (rest := rest) ⟨C.hx, C.hb, C.hml, C.hown, C.hts⟩ (hF H.size) ⟨callB_of As.length C.hts (lw_gc w5) rfl hrc hrs (C.hts _ w4) (C.hts _ w1) hd ⟨Nat.le_of_ble_eq_true r1, Nat.le_of_ble_eq_true r2⟩, C.hts _ w2⟩ ⟨gP.blind, fun U hU hW => ⟨rfl, by rw [hU], by rw [hU]; exact hP, gK.warm hW C.hK, hD⟩⟩ rfl rfl hl.1 rfl (lv_room hst) d ⟨Nat.le_of_ble_eq_true r3, Nat.le_of_ble_eq_true r4⟩
theorem G_callSN {mc ms : Nat} {S : Type} {post : S → Prop} {rv : S → Option Value} {wo : S → va_W} {As : List Value} {wc : va_W} {rest : List Value} {y : MethodName} {host : String} {yc : ByteArray} {mL : Nat} {ret : Option FieldType} {rm : Room} (C : gC E p R s m args meth c cc nL own A) {j : Nat} (d : decode cc pc = .ok (.invokestatic j, 3))
    (hF : Fn l E y yc mL ret rm As wc post rv wo mc ms) (w1 : (own, j, y, host) ∈ lw_nest) (w2 : Cond.static y ∈ lw_g) (w4 : Cond.initialized y.cls ∈ lw_g) (w5 : Cond.code y yc mL ret ∈ lw_g)
    (hrc : rm.cells = mc) (hrs : rm.slots = ms) (hd : y.cls ≠ "java/lang/invoke/MethodHandle" ∧ y.cls ≠ "java/lang/invoke/VarHandle" ∧ (parseMethodDescriptor y.desc).map (fun d => d.parameters.length) = some As.length) (hR0 : (Nat.ble (rm.frames + 1) R.frames && Nat.ble (8 + (mL + 11) + rm.locals) R.locals && Nat.ble (k + mc) R.cells && Nat.ble (n + ms) R.slots) = true) (hst : (rest.map fun v => v.category).sum ≤ 8)
    (isC isR : List Nat) {wr : va_W} (hC : isC.map (fun i => ws[i]?) = wc.map some) (hR : isR.map (fun i => ws[i]?) = wr.map some) (hnC : va_nd isC = true) (hnR : va_nd isR = true) (hdis : isR.all (fun i => !isC.contains i) = true) (pm : List Nat) (hpm : va_nd pm = true) (ws' : S → va_W) (hw : ∀ u, pm.map (fun i => (wr ++ wo u)[i]?) = (ws' u).map some)
    {st0 : List Value} (hst0 : st0 = As.reverse ++ rest) (q : Nat) (hq : pc + 3 = q) (kk : ∀ u : S, post u → G E p l e R s m args below meth c nL A (k + mc) (n + ms) Q (ws' u) q L ((rv u).toList ++ rest)) : G E p l e R s m args below meth c nL A k n Q ws pc L st0 := by
  subst hst0
  simp only [Bool.and_eq_true] at hR0
  obtain ⟨⟨⟨r1, r2⟩, r3⟩, r4⟩ := hR0
  refine G_core (y := y) (as := As) C (fun H locs ls hP hD hl => ?_) isC isR hC hR hnC hnR hdis pm hpm ws' hw q hq kk
  exact va_runSN (As := As) (rest := rest) (host := host) ⟨C.hx, C.hb, C.hml, C.hown, C.hts⟩ (hF H.size) ⟨va_cnB As.length C.hts (lw_gc w5) rfl hrc hrs (C.hK.2.1 _ w1) (C.hts _ w4) hd ⟨Nat.le_of_ble_eq_true r1, Nat.le_of_ble_eq_true r2⟩, C.hts _ w2, trivial⟩ ⟨gP.blind, fun U hU hW => ⟨rfl, by rw [hU], by rw [hU]; exact hP, gK.warm hW C.hK, hD⟩⟩ rfl rfl hl.1 rfl (lv_room hst) d ⟨Nat.le_of_ble_eq_true r3, Nat.le_of_ble_eq_true r4⟩
end GR
