def R_law : String := "JoinedNamesLaw"
def lw_P (b : Addr) (xs : List Int32) (args : Array Value) (s : State) : Prop := args = #[.ref b] ∧ s.IntsAt b xs ∧ xs.length ≤ 2048 ∧ (Jvm.Cond.and given_1 narrow_1).before args s = true
def lw_Q (_ : Array Value) (s : State) (o : Outcome) (t : State) : Prop := o = .returned (some (.int 1)) ∧ Framed s o t [] 600000 7302250
def lw_Z (below : List Frame) (a : Array Value) (s : State) : State → Prop := fun t => ∃ o, t.status = .running ∧ Ended t below o ∧ lw_Q a s o t
/-- the law's own end, with 1 on the stack, nothing written that was there before, its room as the claim has it -/
theorem lw_ret {p : Program} {l : Launch} {e : Env} {s : State} {m : MethodId} {below : List Frame} {meth : Method} {c : Code} {b : Nat} (hx : p.tables.exec = Jvm.exec) (hb : c.code = code) (hr : meth.sig.returnType = ret) (hlocks : meth.locks = false) {pc : Nat} {H : Heap} {ls : Array Slot} (hdg : decode code pc = .ok (.ireturn, 1)) : W p l e room_1 s m #[Value.ref b] below meth c H [] 600000 7302250 (lw_Z below #[Value.ref b] s) (F0 m pc ls [.int 1]) := by
  intro T hT X
  obtain ⟨fs, hret, hrun, hended, hW, hframe⟩ := X.leave (v := some (.int 1)) (hlocks := hlocks) (fun h => by rw [hr] at h; cases h)
  have hmeth' : T.vm.method? m = some meth := X.method'
  refine ⟨T.setFrames fs, ?_, .returned (some (.int 1)), hrun, hended, rfl, ⟨_, rfl⟩, hW, hframe⟩
  jvm_step X.here [X.here.top, hx, hb, hdg, hmeth', hr, ret, narrow_b1]
  (try refine ⟨rfl, ?_⟩); (try refine ⟨rfl, ?_⟩)
  first | (intro acts; rw [hret _ acts rfl rfl rfl]) | rw [hret _ _ rfl rfl rfl]
  exact Steps.refl _
/-- what holds at the law's entry: the machine, the code, the tables' words (any of lw_tbl by 'hts w (by decide +kernel)'), the script of L ints xs at the cell b, what the Statement gives of the start (any of its parts by flat_of_before) -/
def lw_At (p : Program) (s : State) (m : MethodId) (meth : Method) (c : Code) (b L : Nat) (xs : Nat → Int32) : Prop :=
  p.tables.exec = Jvm.exec ∧ c.code = code ∧ meth.sig.returnType = ret ∧ c.maxLocals = 4 ∧ s.vm.findClass R_law = some m.cls ∧ (∀ w ∈ lw_tbl, w.before #[Value.ref b] s = true) ∧ va_X b L xs s s.heap ∧ b < s.heap.size ∧ meth.locks = false ∧ (Jvm.Cond.and given_1 narrow_1).before #[Value.ref b] s = true
section GR5
variable {E : gE} {p : Program} {l : Launch} {e : Env} {R : Room} {s : State} {m : MethodId} {args : Array Value} {below : List Frame} {meth : Method} {c : Code} {cc : ByteArray} {nL : Nat} {own : String} {A : Nat → Prop} {k n : Nat} {Q : State → Prop} {ws : va_W} {pc : Nat} {L : List (Nat × Value)} {st : List Value}
def gX (s : State) (A : Nat → Prop) (b N : Nat) (xs : Nat → Int32) : Prop := va_X b N xs s s.heap ∧ b < s.heap.size ∧ ¬ A b ∧ N ≤ 2048
theorem G_slen (C : gC E p R s m args meth c cc nL own A) {b N : Nat} {xs : Nat → Int32} (X : gX s A b N xs) (d : decode cc pc = .ok (.arraylength, 1)) (q : Nat) (hq : pc + 1 = q) (kk : G E p l e R s m args below meth c nL A k n Q ws q L (.int (nI N) :: st)) : G E p l e R s m args below meth c nL A k n Q ws pc L (.ref b :: st) := by
  subst hq; exact fun H locs hP hD hS ls hl => va_slen C.hx C.hb X.1 X.2.1 X.2.2.1 hS d (kk H locs hP hD hS ls hl)
theorem G_sld (C : gC E p R s m args meth c cc nL own A) {b N : Nat} {xs : Nat → Int32} (X : gX s A b N xs) (d : decode cc pc = .ok (.iaload, 1)) {i : Nat} (hi : i < N) {v : Int32} (hv : xs i = v) (q : Nat) (hq : pc + 1 = q) (kk : G E p l e R s m args below meth c nL A k n Q ws q L (.int v :: st)) : G E p l e R s m args below meth c nL A k n Q ws pc L (.int (nI i) :: .ref b :: st) := by
  subst hq; subst hv
  have h1 : N ≤ 2048 := X.2.2.2
  exact fun H locs hP hD hS ls hl => va_sld C.hx C.hb X.1 X.2.1 X.2.2.1 hS (vp_in_nI hi (by omega)) d (by rw [nI_clamp (by omega)]; exact kk H locs hP hD hS ls hl)
end GR5
section GR6
variable {E : gE} {p : Program} {l : Launch} {e : Env} {s : State} {m : MethodId} {below : List Frame} {meth : Method} {c : Code} {k n : Nat} {ws : va_W} {pc : Nat} {L : List (Nat × Value)} {b : Nat}
theorem G_lawret {own : String} (C : gC E p room_1 s m #[Value.ref b] meth c cL_law 4 own (fun q => s.heap.size ≤ q)) (hr : meth.sig.returnType = ret) (d : decode cL_law pc = .ok (.ireturn, 1)) (hk : Nat.ble k 600000 = true) (hn : Nat.ble n 7302250 = true) : G E p l e room_1 s m #[Value.ref b] below meth c 4 (fun q => s.heap.size ≤ q) k n (lw_Z below #[Value.ref b] s) ws pc L [.int (nI 1)] :=
  fun H locs hP hD hS ls hl => va_forget (fun q hq => hS.2.2 q hq) (W.widen (Nat.le_of_ble_eq_true hk) (Nat.le_of_ble_eq_true hn) (lw_ret C.hx C.hb hr C.hlk d))
theorem law_C {N : Nat} {xs : Nat → Int32} (C0 : lw_At p s m meth c b N xs) : ∃ E : gE, gC E p room_1 s m #[Value.ref b] meth c cL_law 4 RL (fun q => s.heap.size ≤ q) := by
  obtain ⟨hx, hb, hr, hml, hown, hts, hX, hbl, hlocks, hgv⟩ := C0
  have htg : ∀ w ∈ lw_g, w.before #[Value.ref b] s = true := fun w hw => hts w (List.mem_filter.mp hw).1
  obtain ⟨c0, i0, hK0⟩ := u_known (C := RX0) (T := TX0) (N := 2) (n := 2) htg wF_X0 (htg _ wins_X0)
  obtain ⟨c1, i1, hK1⟩ := u_known (C := RX1) (T := TX1) (N := 1) (n := 1) htg wF_X1 (htg _ wins_X1)
  obtain ⟨c2, i2, hK2⟩ := u_known (C := RX2) (T := TX2) (N := 2) (n := 2) htg wF_X2 (htg _ wins_X2)
  obtain ⟨c3, i3, hK3⟩ := u_known (C := RX3) (T := TX3) (N := 3) (n := 3) htg wF_X3 (htg _ wins_X3)
  obtain ⟨c4, i4, hK4⟩ := u_known (C := RX4) (T := TX4) (N := 2) (n := 2) htg wF_X4 (htg _ wins_X4)
  obtain ⟨c5, i5, hK5⟩ := u_known (C := RX5) (T := TX5) (N := 6) (n := 6) htg wF_X5 (htg _ wins_X5)
  obtain ⟨c6, i6, hK6⟩ := u_known (C := RX6) (T := TX6) (N := 9) (n := 9) htg wF_X6 (htg _ wins_X6)
  obtain ⟨c7, i7, hK7⟩ := u_known (C := RX7) (T := TX7) (N := 18) (n := 18) htg wF_X7 (htg _ wins_X7)
  obtain ⟨dC, dI, hKc⟩ : ∃ (dC : Nat → ClassId) (dI : Nat → Nat → Nat), ∀ (k : Nat) (q : vw_C), gcls[k]? = some q → u_Kn s q.1 q.2.1 q.2.2 (dC k) (dI k) := by
    refine ⟨fun k => if k = 0 then c0 else if k = 1 then c1 else if k = 2 then c2 else if k = 3 then c3 else if k = 4 then c4 else if k = 5 then c5 else if k = 6 then c6 else c7, fun k => if k = 0 then i0 else if k = 1 then i1 else if k = 2 then i2 else if k = 3 then i3 else if k = 4 then i4 else if k = 5 then i5 else if k = 6 then i6 else i7, ?_⟩
    intro k q hq
    match k, hq with
    | 0, hq => cases hq; exact hK0
    | 1, hq => cases hq; exact hK1
    | 2, hq => cases hq; exact hK2
    | 3, hq => cases hq; exact hK3
    | 4, hq => cases hq; exact hK4
    | 5, hq => cases hq; exact hK5
    | 6, hq => cases hq; exact hK6
    | 7, hq => cases hq; exact hK7
    | k + 8, hq => simp [gcls] at hq
  obtain ⟨cI, kI, cmI, f1, f2, f3⟩ := Cond.arrayClass_spec (htg _ wa_int)
  obtain ⟨cmL, cL, kL, g1, g2, g3, g4, g5⟩ := Cond.arrayOver_spec (hts _ lw_ao)
  refine ⟨((dC, dI), cI, cL), hx, hb, hml, hown, htg, ⟨⟨hKc, fun k q hq => ?_⟩, fun q hq => va_Nw.of rfl (hts _ (lw_nest_ok q hq)), va_AO.of (hts _ lw_ao)⟩, fun q h => h, hlocks⟩
  match k, hq with
  | 0, hq => cases hq; exact ⟨fun N z => ⟨(fun k h => by cases h), kI, f2, cmI, f3⟩, f1⟩
  | 1, hq => cases hq; exact ⟨fun N z => ⟨(fun k h => by cases h), kL, g3, cmL, g4⟩, kL, cmL, g3, g4, g1, g5⟩
  | k + 2, hq => simp at hq
end GR6
