def oI : Option Nat → Int32
  | none => -1
  | some g => nI g
def bI (b : Bool) : Int32 := if b then nI 1 else nI 0
def aN (S : Nat → Nat) : Nat → Int32 := fun k => nI (S k)
def aO (T : Nat → Option Nat) : Nat → Int32 := fun k => oI (T k)
def inb (x : Int32) (n : Nat) : Bool := decide (0 ≤ x.toInt ∧ x.toInt < n)
theorem aN_at {S : Nat → Nat} {i : Nat} (h : i < 2 ^ 31) : aN S (nI i).toNatClampNeg = nI (S i) := by rw [nI_clamp h]; rfl
theorem aO_at {S : Nat → Option Nat} {i : Nat} (h : i < 2 ^ 31) : aO S (nI i).toNatClampNeg = oI (S i) := by rw [nI_clamp h]; rfl
theorem aN_up {S : Nat → Nat} {i v : Nat} (h : i < 2 ^ 31) : upd (aN S) (nI i).toNatClampNeg (nI v) = aN (va_up S i v) := by
  rw [nI_clamp h]; funext j; unfold upd aN va_up; by_cases hj : j = i <;> simp [hj]
theorem aO_up {S : Nat → Option Nat} {i : Nat} {v : Option Nat} (h : i < 2 ^ 31) : upd (aO S) (nI i).toNatClampNeg (oI v) = aO (va_up S i v) := by
  rw [nI_clamp h]; funext j; unfold upd aO va_up; by_cases hj : j = i <;> simp [hj]
theorem up_s {α : Type} {f : Nat → α} {k : Nat} {v : α} : va_up f k v k = v := by simp [va_up]
theorem up_n {α : Type} {f : Nat → α} {k j : Nat} {v : α} (h : j ≠ k) : va_up f k v j = f j := by simp [va_up, h]
theorem i_lt (a b : Int32) : a < b ↔ a.toInt < b.toInt := Int32.lt_iff_toInt_lt
theorem i_le (a b : Int32) : a ≤ b ↔ a.toInt ≤ b.toInt := Int32.le_iff_toInt_le
theorem i_eq (a b : Int32) : a = b ↔ a.toInt = b.toInt := ⟨fun h => by rw [h], fun h => Int32.toInt_inj.mp h⟩
theorem i_ltN (a : Int32) {b : Nat} (h : b < 2 ^ 31) : a < nI b ↔ a.toInt < b := by rw [i_lt, nI_toInt h]
theorem i_leN (a : Int32) {b : Nat} (h : b < 2 ^ 31) : a ≤ nI b ↔ a.toInt ≤ b := by rw [i_le, nI_toInt h]
theorem i_Nle (a : Int32) {b : Nat} (h : b < 2 ^ 31) : nI b ≤ a ↔ (b : Int) ≤ a.toInt := by rw [i_le, nI_toInt h]
theorem i_Nlt (a : Int32) {b : Nat} (h : b < 2 ^ 31) : nI b < a ↔ (b : Int) < a.toInt := by rw [i_lt, nI_toInt h]
theorem i_eqN (a : Int32) {b : Nat} (h : b < 2 ^ 31) : a = nI b ↔ a.toInt = b := by rw [i_eq, nI_toInt h]
theorem i_lt0 (a : Int32) : a < 0 ↔ a.toInt < 0 := by rw [i_lt]; rfl
theorem i_ge0 (a : Int32) : 0 ≤ a ↔ 0 ≤ a.toInt := by rw [i_le]; rfl
theorem i_le0 (a : Int32) : a ≤ 0 ↔ a.toInt ≤ 0 := by rw [i_le]; rfl
theorem nI0 : (0 : Int32) = nI 0 := nI_0.symm
theorem n_eq0 {a : Nat} (h : a < 2 ^ 31) : nI a = 0 ↔ a = 0 := by rw [nI0]; exact nI_eq h (by decide)
theorem inb_iff (x : Int32) (n : Nat) : inb x n = true ↔ (0 ≤ x.toInt ∧ x.toInt < n) := by simp [inb]
theorem inb_of {x : Int32} {n : Nat} (h : inb x n = true) (hn : n < 2 ^ 31) : ∃ j : Nat, j < n ∧ x = nI j := by
  rw [inb_iff] at h
  refine ⟨x.toInt.toNat, by omega, ?_⟩
  rw [i_eq, nI_toInt (by omega)]; omega
theorem inb_nI {j n : Nat} (h : j < 2 ^ 31) : inb (nI j) n = decide (j < n) := by
  unfold inb; rw [nI_toInt h]; congr 1; simp
theorem oI_ne {g : Nat} (h : g < 2 ^ 31) : ¬ nI g = -1 := by
  have h1 : ((-1 : Int32)).toInt = -1 := by decide
  rw [i_eq, nI_toInt h, h1]
  omega
theorem oI_none {t : Option Nat} (h : ∀ g, t = some g → g < 2 ^ 31) : oI t = -1 ↔ t = none := by
  cases t with
  | none => exact ⟨fun _ => rfl, fun _ => rfl⟩
  | some g => exact ⟨fun h2 => absurd h2 (oI_ne (h g rfl)), fun h2 => by cases h2⟩
theorem oI_eq {t u : Option Nat} (h : ∀ g, t = some g → g < 2 ^ 31) (hu : ∀ g, u = some g → g < 2 ^ 31) : oI t = oI u ↔ t = u := by
  cases t with
  | none =>
    cases u with
    | none => exact ⟨fun _ => rfl, fun _ => rfl⟩
    | some g => exact ⟨fun h2 => absurd h2.symm (oI_ne (hu g rfl)), fun h2 => by cases h2⟩
  | some f =>
    cases u with
    | none => exact ⟨fun h2 => absurd h2 (oI_ne (h f rfl)), fun h2 => by cases h2⟩
    | some g =>
      show nI f = nI g ↔ _
      rw [nI_eq (h f rfl) (hu g rfl)]; simp
theorem bI_0 (b : Bool) : bI b = 0 ↔ b = false := by cases b <;> decide
theorem bI_1 (b : Bool) : bI b = nI 1 ↔ b = true := by cases b <;> decide
theorem bI_nar (b : Bool) : narrow .boolean (.int (bI b)) = .int (bI b) := by cases b <;> decide
theorem bI_fit (b : Bool) : fits .boolean (.int (bI b)) = true := by cases b <;> decide
theorem bI_r1 {P : Prop} [Decidable P] (h : P) : some (Value.int (bI (decide P))) = some (.int (nI 1)) := by rw [decide_eq_true h]; rfl
theorem bI_r0 {P : Prop} [Decidable P] (h : ¬ P) : some (Value.int (bI (decide P))) = some (.int (nI 0)) := by rw [decide_eq_false h]; rfl
theorem bI_rt {b : Bool} (h : b = true) : some (Value.int (bI b)) = some (.int (nI 1)) := by rw [h]; rfl
theorem bI_rf {b : Bool} (h : b = false) : some (Value.int (bI b)) = some (.int (nI 0)) := by rw [h]; rfl
theorem fa_and (a b : Nat) : nI a &&& nI b = nI (a &&& b) := by
  unfold nI
  apply Int32.toBitVec_inj.mp
  simp [Int32.toBitVec_and, BitVec.ofNat_and]
theorem fa_or (a b : Nat) : nI a ||| nI b = nI (a ||| b) := by
  unfold nI
  apply Int32.toBitVec_inj.mp
  simp [Int32.toBitVec_or, BitVec.ofNat_or]
theorem nI_bit : ∀ x, x < 31 → nI 1 <<< (nI x &&& 31) = nI (2 ^ x) := by decide +kernel
section GR2
variable {E : gE} {p : Program} {l : Launch} {e : Env} {R : Room} {s : State} {m : MethodId} {args : Array Value} {below : List Frame} {meth : Method} {c : Code} {cc : ByteArray} {nL : Nat} {own : String} {A : Nat → Prop} {k n : Nat} {Q : State → Prop} {ws : va_W} {pc : Nat} {L : List (Nat × Value)} {st : List Value}
theorem G_ialdN (C : gC E p R s m args meth c cc nL own A) (d : decode cc pc = .ok (.iaload, 1)) (q0 : Nat) {a len : Nat} {S : Nat → Nat} (ha : ws[q0]? = some (a, .inl (E.2.1, len, .inl (aN S)))) (hlen : Nat.ble len 1000 = true) {i : Nat} (hi : i < len) (q : Nat) (hq : pc + 1 = q) (kk : G E p l e R s m args below meth c nL A k n Q ws q L (.int (nI (S i)) :: st)) : G E p l e R s m args below meth c nL A k n Q ws pc L (.int (nI i) :: .ref a :: st) :=
  have h1 : len ≤ 1000 := Nat.le_of_ble_eq_true hlen
  G_iald C d q0 ha (vp_in_nI hi (by omega)) (aN_at (by omega)) q hq kk
theorem G_ialdO (C : gC E p R s m args meth c cc nL own A) (d : decode cc pc = .ok (.iaload, 1)) (q0 : Nat) {a len : Nat} {S : Nat → Option Nat} (ha : ws[q0]? = some (a, .inl (E.2.1, len, .inl (aO S)))) (hlen : Nat.ble len 1000 = true) {i : Nat} (hi : i < len) (q : Nat) (hq : pc + 1 = q) (kk : G E p l e R s m args below meth c nL A k n Q ws q L (.int (oI (S i)) :: st)) : G E p l e R s m args below meth c nL A k n Q ws pc L (.int (nI i) :: .ref a :: st) :=
  have h1 : len ≤ 1000 := Nat.le_of_ble_eq_true hlen
  G_iald C d q0 ha (vp_in_nI hi (by omega)) (aO_at (by omega)) q hq kk
theorem G_iastN (C : gC E p R s m args meth c cc nL own A) (d : decode cc pc = .ok (.iastore, 1)) (q0 : Nat) {a len : Nat} {S : Nat → Nat} (ha : ws[q0]? = some (a, .inl (E.2.1, len, .inl (aN S)))) (hlen : Nat.ble len 1000 = true) {i x : Nat} (hi : i < len) (ws' : va_W) (hw : ws.set q0 (a, .inl (E.2.1, len, .inl (aN (va_up S i x)))) = ws') (q : Nat) (hq : pc + 1 = q) (kk : G E p l e R s m args below meth c nL A k n Q ws' q L st) : G E p l e R s m args below meth c nL A k n Q ws pc L (.int (nI x) :: .int (nI i) :: .ref a :: st) :=
  have h1 : len ≤ 1000 := Nat.le_of_ble_eq_true hlen
  G_iast C d q0 ha (vp_in_nI hi (by omega)) (aN_up (by omega)) ws' hw q hq kk
theorem G_iastO (C : gC E p R s m args meth c cc nL own A) (d : decode cc pc = .ok (.iastore, 1)) (q0 : Nat) {a len : Nat} {S : Nat → Option Nat} (ha : ws[q0]? = some (a, .inl (E.2.1, len, .inl (aO S)))) (hlen : Nat.ble len 1000 = true) {i : Nat} {x : Option Nat} (hi : i < len) (ws' : va_W) (hw : ws.set q0 (a, .inl (E.2.1, len, .inl (aO (va_up S i x)))) = ws') (q : Nat) (hq : pc + 1 = q) (kk : G E p l e R s m args below meth c nL A k n Q ws' q L st) : G E p l e R s m args below meth c nL A k n Q ws pc L (.int (oI x) :: .int (nI i) :: .ref a :: st) :=
  have h1 : len ≤ 1000 := Nat.le_of_ble_eq_true hlen
  G_iast C d q0 ha (vp_in_nI hi (by omega)) (aO_up (by omega)) ws' hw q hq kk
theorem G_cV {r : Option Value} {wo : va_W} {b : Nat} {As : List Value} {wc : va_W} {rest : List Value} {y : MethodName} {yc : ByteArray} {mL : Nat} {ret : Option FieldType} {rm : Room} (C : gC E p R s m args meth c cc nL own A) {j : Nat} (d : decode cc pc = .ok (.invokevirtual j, 3))
    (hF : FD l E y yc mL ret rm (.ref b :: As) wc r wo) (w1 : Cond.methodLink own j y ∈ lw_g) (w2 : Cond.instanceMethod y ∈ lw_g) (w3 : Cond.selects y.cls y y ∈ lw_g) (w4 : Cond.initialized y.cls ∈ lw_g) (w5 : Cond.code y yc mL ret ∈ lw_g)
    (hrc : rm.cells = 0) (hrs : rm.slots = 0) (hd : y.cls ≠ "java/lang/invoke/MethodHandle" ∧ y.cls ≠ "java/lang/invoke/VarHandle" ∧ (parseMethodDescriptor y.desc).map (fun d => d.parameters.length) = some As.length) (hR0 : (Nat.ble (rm.frames + 1) R.frames && Nat.ble (8 + (mL + 11) + rm.locals) R.locals && Nat.ble k R.cells && Nat.ble n R.slots) = true) (hst : (rest.map fun v => v.category).sum ≤ 8)
    (ci : Nat) {fs : List Value} {rr : vw_C} (hci : gcls[ci]? = some rr) (hrr : rr.1 = y.cls) (qr : Nat) (hrcv : wc[qr]? = some (b, .inr (ci, fs)))
    (isC isR : List Nat) {wr : va_W} (hC : isC.map (fun i => ws[i]?) = wc.map some) (hR : isR.map (fun i => ws[i]?) = wr.map some) (hnC : va_nd isC = true) (hnR : va_nd isR = true) (hdis : isR.all (fun i => !isC.contains i) = true) (pm : List Nat) (hpm : va_nd pm = true) (ws' : va_W) (hw : pm.map (fun i => (wr ++ wo)[i]?) = ws'.map some)
    {st0 : List Value} (hst0 : st0 = As.reverse ++ .ref b :: rest) (st' : List Value) (hst' : r.toList ++ rest = st') (q : Nat) (hq : pc + 3 = q) (kk : G E p l e R s m args below meth c nL A k n Q ws' q L st') : G E p l e R s m args below meth c nL A k n Q ws pc L st0 := by
  subst hst'
  exact G_callV C d hF w1 w2 w3 w4 w5 hrc hrs hd hR0 hst ci hci hrr qr hrcv isC isR hC hR hnC hnR hdis pm hpm (fun _ => ws') (fun _ => hw) hst0 q hq (fun _ _ => kk)
theorem G_cS {r : Option Value} {wo : va_W} {As : List Value} {wc : va_W} {rest : List Value} {y : MethodName} {yc : ByteArray} {mL : Nat} {ret : Option FieldType} {rm : Room} (C : gC E p R s m args meth c cc nL own A) {j : Nat} (d : decode cc pc = .ok (.invokestatic j, 3))
    (hF : FD l E y yc mL ret rm As wc r wo) (w1 : Cond.methodLink own j y ∈ lw_g) (w2 : Cond.static y ∈ lw_g) (w4 : Cond.initialized y.cls ∈ lw_g) (w5 : Cond.code y yc mL ret ∈ lw_g)
    (hrc : rm.cells = 0) (hrs : rm.slots = 0) (hd : y.cls ≠ "java/lang/invoke/MethodHandle" ∧ y.cls ≠ "java/lang/invoke/VarHandle" ∧ (parseMethodDescriptor y.desc).map (fun d => d.parameters.length) = some As.length) (hR0 : (Nat.ble (rm.frames + 1) R.frames && Nat.ble (8 + (mL + 11) + rm.locals) R.locals && Nat.ble k R.cells && Nat.ble n R.slots) = true) (hst : (rest.map fun v => v.category).sum ≤ 8)
    (isC isR : List Nat) {wr : va_W} (hC : isC.map (fun i => ws[i]?) = wc.map some) (hR : isR.map (fun i => ws[i]?) = wr.map some) (hnC : va_nd isC = true) (hnR : va_nd isR = true) (hdis : isR.all (fun i => !isC.contains i) = true) (pm : List Nat) (hpm : va_nd pm = true) (ws' : va_W) (hw : pm.map (fun i => (wr ++ wo)[i]?) = ws'.map some)
    {st0 : List Value} (hst0 : st0 = As.reverse ++ rest) (st' : List Value) (hst' : r.toList ++ rest = st') (q : Nat) (hq : pc + 3 = q) (kk : G E p l e R s m args below meth c nL A k n Q ws' q L st') : G E p l e R s m args below meth c nL A k n Q ws pc L st0 := by
  subst hst'
  exact G_callS C d hF w1 w2 w4 w5 hrc hrs hd hR0 hst isC isR hC hR hnC hnR hdis pm hpm (fun _ => ws') (fun _ => hw) hst0 q hq (fun _ _ => kk)
theorem G_cSN {r : Option Value} {wo : va_W} {As : List Value} {wc : va_W} {rest : List Value} {y : MethodName} {host : String} {yc : ByteArray} {mL : Nat} {ret : Option FieldType} {rm : Room} (C : gC E p R s m args meth c cc nL own A) {j : Nat} (d : decode cc pc = .ok (.invokestatic j, 3))
    (hF : FD l E y yc mL ret rm As wc r wo) (w1 : (own, j, y, host) ∈ lw_nest) (w2 : Cond.static y ∈ lw_g) (w4 : Cond.initialized y.cls ∈ lw_g) (w5 : Cond.code y yc mL ret ∈ lw_g)
    (hrc : rm.cells = 0) (hrs : rm.slots = 0) (hd : y.cls ≠ "java/lang/invoke/MethodHandle" ∧ y.cls ≠ "java/lang/invoke/VarHandle" ∧ (parseMethodDescriptor y.desc).map (fun d => d.parameters.length) = some As.length) (hR0 : (Nat.ble (rm.frames + 1) R.frames && Nat.ble (8 + (mL + 11) + rm.locals) R.locals && Nat.ble k R.cells && Nat.ble n R.slots) = true) (hst : (rest.map fun v => v.category).sum ≤ 8)
    (isC isR : List Nat) {wr : va_W} (hC : isC.map (fun i => ws[i]?) = wc.map some) (hR : isR.map (fun i => ws[i]?) = wr.map some) (hnC : va_nd isC = true) (hnR : va_nd isR = true) (hdis : isR.all (fun i => !isC.contains i) = true) (pm : List Nat) (hpm : va_nd pm = true) (ws' : va_W) (hw : pm.map (fun i => (wr ++ wo)[i]?) = ws'.map some)
    {st0 : List Value} (hst0 : st0 = As.reverse ++ rest) (st' : List Value) (hst' : r.toList ++ rest = st') (q : Nat) (hq : pc + 3 = q) (kk : G E p l e R s m args below meth c nL A k n Q ws' q L st') : G E p l e R s m args below meth c nL A k n Q ws pc L st0 := by
  subst hst'
  exact G_callSN C d hF w1 w2 w4 w5 hrc hrs hd hR0 hst isC isR hC hR hnC hnR hdis pm hpm (fun _ => ws') (fun _ => hw) hst0 q hq (fun _ _ => kk)
theorem G_sel (is : List Nat) (L' : List (Nat × Value)) (hs : is.map (fun i => L[i]?) = L'.map some) (kk : G E p l e R s m args below meth c nL A k n Q ws pc L' st) : G E p l e R s m args below meth c nL A k n Q ws pc L st := G_sub (fun q hq => by
  obtain ⟨j, hj⟩ := List.getElem?_of_mem hq
  have h1 : (is.map (fun i => L[i]?))[j]? = some (some q) := by rw [hs, List.getElem?_map, hj]; rfl
  rw [List.getElem?_map] at h1
  obtain ⟨i, -, hi⟩ := Option.map_eq_some_iff.mp h1
  exact List.mem_of_getElem? hi) kk
theorem G_while {X : Type} {Wf : X → va_W} {Lf : X → List (Nat × Value)} {Sf : X → List Value} (inv : X → Prop) (μ : X → Nat) (step : ∀ x, inv x → (∀ y, inv y → μ y < μ x → G E p l e R s m args below meth c nL A k n Q (Wf y) pc (Lf y) (Sf y)) → G E p l e R s m args below meth c nL A k n Q (Wf x) pc (Lf x) (Sf x)) (x0 : X) (h0 : inv x0) : G E p l e R s m args below meth c nL A k n Q (Wf x0) pc (Lf x0) (Sf x0) := by
  have key : ∀ (d : Nat) (x : X), μ x < d → inv x → G E p l e R s m args below meth c nL A k n Q (Wf x) pc (Lf x) (Sf x) := by
    intro d
    induction d with
    | zero => intro x h; exact absurd h (Nat.not_lt_zero _)
    | succ d ih => intro x h hi; exact step x hi (fun y hy hm => ih y (by omega) hy)
  exact key (μ x0 + 1) x0 (Nat.lt_succ_self _) h0
theorem G_join {X : Type} {pcj : Nat} {Wf : X → va_W} {Lf : X → List (Nat × Value)} {Sf : X → List Value} (inv : X → Prop) (kk : ∀ x, inv x → G E p l e R s m args below meth c nL A k n Q (Wf x) pcj (Lf x) (Sf x)) (main : (∀ x, inv x → G E p l e R s m args below meth c nL A k n Q (Wf x) pcj (Lf x) (Sf x)) → G E p l e R s m args below meth c nL A k n Q ws pc L st) : G E p l e R s m args below meth c nL A k n Q ws pc L st := main kk
theorem Fn_ofL {y : MethodName} {ret : Option FieldType} {rm : Room} {as : List Value} {wi : va_W} {S : Type} {post : S → Prop} {rv : S → Option Value} {wo : S → va_W} {mc ms : Nat} (hy : plainName y.cls = true) (ho : y.cls = own) (hlen : Nat.ble (lg_sl as).length nL = true) (L0 : List (Nat × Value)) (hL0 : lv_args 0 as = L0)
    (body : ∀ (p : Program) (e : Env) (s : State) (m : MethodId) (below : List Frame) (meth : Method) (c : Code) (A : Nat → Prop), gC E p rm s m as.toArray meth c cc nL own A → meth.sig.returnType = ret → meth.name = y.name →
      G E p l e rm s m as.toArray below meth c nL A 0 0 (MQ below (gQ E post rv wo A) as.toArray s mc ms A) wi 0 L0 []) : Fn l E y cc nL ret rm as wi post rv wo mc ms := by
  subst hL0
  exact Fn_of hy ho hlen body
end GR2
