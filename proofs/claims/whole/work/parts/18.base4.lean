theorem P_congR {D : va_G} {cl : List vw_C} {ws : va_W} {H : Heap} {A : Nat → Prop} (hP : va_P D cl ws H) (hD : va_D A ws) {q0 a n : Nat} {cA : ClassId} {f g : Nat → Option Nat} (ha : ws[q0]? = some (a, .inl (cA, n, .inr (.inr (.inr (.inr f)))))) (h : ∀ k, k < n → f k = g k) : va_P D cl (ws.set q0 (a, .inl (cA, n, .inr (.inr (.inr (.inr g)))))) H ∧ va_D A (ws.set q0 (a, .inl (cA, n, .inr (.inr (.inr (.inr g)))))) := by
  refine ⟨va_P.set hP hD ha ?_ (fun _ _ => rfl), va_D.set hD ha⟩
  have h1 : va_at D cl (a, .inl (cA, n, .inr (.inr (.inr (.inr f))))) H := hP q0 _ ha
  show H[a]? = some (vp_cell cA (n, .inr (.inr (.inr (.inr g)))))
  have h2 : H[a]? = some (vp_cell cA (n, .inr (.inr (.inr (.inr f))))) := h1
  rw [h2, vp_cell_q, vp_cell_q, arrV_cong cA (fun k hk => by rw [h k hk])]
section GR4
variable {E : gE} {p : Program} {l : Launch} {e : Env} {R : Room} {s : State} {m : MethodId} {args : Array Value} {below : List Frame} {meth : Method} {c : Code} {cc : ByteArray} {nL : Nat} {own : String} {A : Nat → Prop} {k n : Nat} {Q : State → Prop} {ws : va_W} {pc : Nat} {L : List (Nat × Value)} {st : List Value}
theorem G_congR (q0 : Nat) {a len : Nat} {f : Nat → Option Nat} (g : Nat → Option Nat) (ha : ws[q0]? = some (a, .inl (E.2.2, len, .inr (.inr (.inr (.inr f)))))) (h : ∀ j, j < len → f j = g j) (ws' : va_W) (hw : ws.set q0 (a, .inl (E.2.2, len, .inr (.inr (.inr (.inr g))))) = ws') (kk : G E p l e R s m args below meth c nL A k n Q ws' pc L st) : G E p l e R s m args below meth c nL A k n Q ws pc L st := by
  subst hw
  exact fun H locs hP hD hS ls hl => kk H locs (P_congR hP hD ha h).1 (P_congR hP hD ha h).2 hS ls hl
theorem G_perm (is : List Nat) (hn : va_nd is = true) (ws' : va_W) (hs : is.map (fun i => ws[i]?) = ws'.map some) (kk : G E p l e R s m args below meth c nL A k n Q ws' pc L st) : G E p l e R s m args below meth c nL A k n Q ws pc L st :=
  fun H locs hP hD hS ls hl => kk H locs (P_map hP is hs) (hD.sub is hn hs) hS ls hl
end GR4
