-- THE TEXT READ: the reference's way beside the class's steps
def nxq (Bt : Nat → Nat) (len : Nat) : Nat → Nat → Nat
  | 0, p => p
  | f + 1, p => if p < len ∧ Bt p = 32 then nxq Bt len f (p + 1) else p
def nx (Bt : Nat → Nat) (len p : Nat) : Nat := nxq Bt len (len - p) p
def nxc (Bt : Nat → Nat) (len p : Nat) : Option Nat := if nx Bt len p < len then some (Bt (nx Bt len p)) else none
section Tx
variable {Bt : Nat → Nat} {len : Nat}
theorem nx_step {p : Nat} (h : p < len) (hb : Bt p = 32) : nx Bt len p = nx Bt len (p + 1) := by
  unfold nx
  rw [show len - p = (len - (p + 1)) + 1 by omega]
  show (if p < len ∧ Bt p = 32 then _ else _) = _
  rw [if_pos ⟨h, hb⟩]
theorem nx_stop {p : Nat} (h : ¬ (p < len ∧ Bt p = 32)) : nx Bt len p = p := by
  unfold nx
  cases len - p with
  | zero => rfl
  | succ f => show (if p < len ∧ Bt p = 32 then _ else _) = _; rw [if_neg h]
/-- induction along the blanks -/
theorem nx_ind (P : Nat → Nat → Prop) (h0 : ∀ p, p ≤ len → ¬ (p < len ∧ Bt p = 32) → P p p) (h1 : ∀ p z, p < len → Bt p = 32 → P (p + 1) z → P p z) : ∀ d p, len - p = d → p ≤ len → P p (nx Bt len p)
  | 0, p, hd, hp => by
    have hn : ¬ (p < len ∧ Bt p = 32) := fun h => by omega
    rw [nx_stop hn]; exact h0 p hp hn
  | d + 1, p, hd, hp => by
    by_cases hb : Bt p = 32
    · rw [nx_step (by omega) hb]
      exact h1 p _ (by omega) hb (nx_ind P h0 h1 d (p + 1) (by omega) (by omega))
    · have hn : ¬ (p < len ∧ Bt p = 32) := fun h => hb h.2
      rw [nx_stop hn]; exact h0 p hp hn
theorem nx_le {p : Nat} (h : p ≤ len) : p ≤ nx Bt len p ∧ nx Bt len p ≤ len ∧ ¬ (nx Bt len p < len ∧ Bt (nx Bt len p) = 32) :=
  nx_ind (Bt := Bt) (len := len) (fun p z => p ≤ z ∧ z ≤ len ∧ ¬ (z < len ∧ Bt z = 32)) (fun p h1 h2 => ⟨Nat.le_refl _, h1, h2⟩) (fun p z _ _ h => ⟨by omega, h.2⟩) (len - p) p rfl h
theorem nx_id {p : Nat} (h : p ≤ len) : nx Bt len (nx Bt len p) = nx Bt len p := nx_stop (nx_le h).2.2
theorem nxc_id {p : Nat} (h : p ≤ len) : nxc Bt len (nx Bt len p) = nxc Bt len p := by unfold nxc; rw [nx_id h]
theorem nxc_s {p c : Nat} (h : nxc Bt len p = some c) : nx Bt len p < len ∧ Bt (nx Bt len p) = c := by
  unfold nxc at h
  by_cases e : nx Bt len p < len
  · rw [if_pos e] at h; exact ⟨e, Option.some.inj h⟩
  · rw [if_neg e] at h; cases h
theorem nxc_n {p : Nat} (hp : p ≤ len) (h : nxc Bt len p = none) : nx Bt len p = len := by
  unfold nxc at h
  by_cases e : nx Bt len p < len
  · rw [if_pos e] at h; cases h
  · have := (nx_le (Bt := Bt) hp).2.1; omega
def Sim (q0 : pS) (Bt : Nat → Nat) (len p : Nat) (q : pS) : Prop := pk q0 Bt p = q ∧ pflt q0 Bt p = none ∧ p ≤ len
variable {q0 : pS}
theorem sim_blank {p : Nat} {q : pS} (h : Sim q0 Bt len p q) (h5 : ¬ q.1 = 6) (hp : p < len) (hb : Bt p = 32) : Sim q0 Bt len (p + 1) q := by
  obtain ⟨h1, h2, h3⟩ := h
  have e : pk q0 Bt (p + 1) = q := by simp only [pk]; rw [if_pos hb]; exact h1
  exact ⟨e, pflt_s h2 (by rw [e]; exact h5), hp⟩
theorem sim_nx {p : Nat} {q : pS} (h : Sim q0 Bt len p q) (h5 : ¬ q.1 = 6) : Sim q0 Bt len (nx Bt len p) q :=
  nx_ind (Bt := Bt) (len := len) (fun p z => Sim q0 Bt len p q → Sim q0 Bt len z q) (fun p _ _ h => h) (fun p z hp hb ih h => ih (sim_blank h h5 hp hb)) (len - p) p rfl h.2.2 h
theorem sim_ok {p c : Nat} {q : pS} (h : Sim q0 Bt len p q) (h5 : ¬ q.1 = 6) (hc : nxc Bt len p = some c) (h6 : ¬ (pstep q c).1 = 6) : Sim q0 Bt len (nx Bt len p + 1) (pstep q c) := by
  obtain ⟨h1, h2, h3⟩ := sim_nx h h5
  obtain ⟨c1, c2⟩ := nxc_s hc
  have nb := (nx_le (Bt := Bt) h.2.2).2.2
  have e : pk q0 Bt (nx Bt len p + 1) = pstep q c := by
    simp only [pk]; rw [if_neg (fun hb => nb ⟨c1, hb⟩), h1, c2]
  exact ⟨e, pflt_s h2 (by rw [e]; exact h6), c1⟩
theorem sim_bad {p : Nat} {q : pS} (h : Sim q0 Bt len p q) (h5 : ¬ q.1 = 6) (h0 : ¬ q.1 = 0 ∨ ¬ nxc Bt len p = none) (hb : ∀ c, nxc Bt len p = some c → (pstep q c).1 = 6) : pres q0 Bt len = some (nx Bt len p) := by
  obtain ⟨h1, h2, h3⟩ := sim_nx h h5
  cases hc : nxc Bt len p with
  | some c =>
    obtain ⟨c1, c2⟩ := nxc_s hc
    have nb := (nx_le (Bt := Bt) h.2.2).2.2
    have e : pk q0 Bt (nx Bt len p + 1) = pstep q c := by
      simp only [pk]; rw [if_neg (fun hb => nb ⟨c1, hb⟩), h1, c2]
    have f1 := pflt_stay (pflt_f h2 (by rw [e]; exact hb c hc)) (len - (nx Bt len p + 1))
    rw [show nx Bt len p + 1 + (len - (nx Bt len p + 1)) = len by omega] at f1
    unfold pres; rw [f1]
  | none =>
    have e := nxc_n h.2.2 hc
    rw [e] at h1 h2
    have h9 : ¬ q.1 = 0 := h0.elim id (fun h => absurd hc h)
    unfold pres; rw [h2, h1]
    show (if q.1 = 0 then none else some len) = _
    rw [if_neg h9, e]
theorem sim_end {p : Nat} {q : pS} (h : Sim q0 Bt len p q) (h0 : q.1 = 0) (hc : nxc Bt len p = none) : pres q0 Bt len = none ∧ pk q0 Bt (pend q0 Bt len) = q := by
  obtain ⟨h1, h2, h3⟩ := sim_nx h (by omega)
  have e := nxc_n h.2.2 hc
  rw [e] at h1 h2
  constructor
  · unfold pres; rw [h2, h1]
    show (if q.1 = 0 then none else some len) = _
    rw [if_pos h0]
  · unfold pend; rw [h2]; exact h1
end Tx
section St
variable {sr cx cy n c : Nat} {Cd : Nat → Nat}
theorem p0_full (h : 14 ≤ n) : (pstep (0, sr, cx, cy, n, Cd) c).1 = 6 := by simp [pstep, h]
theorem p0_star (h : ¬ 14 ≤ n) : pstep (0, sr, cx, cy, n, Cd) 42 = (1, 3, cx, cy, n, Cd) := by simp [pstep, h]
theorem p0_name (h : ¬ 14 ≤ n) (h2 : ¬ c = 42) (h3 : nmc c = true) : pstep (0, sr, cx, cy, n, Cd) c = (2, 1, c, cy, n, Cd) := by simp [pstep, h, h2, h3]
theorem p0_bad (h : ¬ 14 ≤ n) (h2 : ¬ c = 42) (h3 : nmc c = false) : (pstep (0, sr, cx, cy, n, Cd) c).1 = 6 := by simp [pstep, h, h2, h3]
theorem p1_name (h3 : nmc c = true) : pstep (1, sr, cx, cy, n, Cd) c = (2, sr, c, cy, n, Cd) := by simp [pstep, h3]
theorem p1_bad (h3 : nmc c = false) : (pstep (1, sr, cx, cy, n, Cd) c).1 = 6 := by simp [pstep, h3]
theorem p2_eq : pstep (2, sr, cx, cy, n, Cd) 61 = ((if sr = 3 then 4 else 3), sr, cx, cy, n, Cd) := by simp [pstep]
theorem p2_bad (h : ¬ c = 61) : (pstep (2, sr, cx, cy, n, Cd) c).1 = 6 := by simp [pstep, h]
theorem p3_amp : pstep (3, sr, cx, cy, n, Cd) 38 = (4, 0, cx, cy, n, Cd) := by simp [pstep]
theorem p3_star : pstep (3, sr, cx, cy, n, Cd) 42 = (4, 2, cx, cy, n, Cd) := by simp [pstep]
theorem p3_name (h : ¬ c = 38) (h2 : ¬ c = 42) (h3 : nmc c = true) : pstep (3, sr, cx, cy, n, Cd) c = (5, sr, cx, c, n, Cd) := by simp [pstep, h, h2, h3]
theorem p3_bad (h : ¬ c = 38) (h2 : ¬ c = 42) (h3 : nmc c = false) : (pstep (3, sr, cx, cy, n, Cd) c).1 = 6 := by simp [pstep, h, h2, h3]
theorem p4_name (h3 : nmc c = true) : pstep (4, sr, cx, cy, n, Cd) c = (5, sr, cx, c, n, Cd) := by simp [pstep, h3]
theorem p4_bad (h3 : nmc c = false) : (pstep (4, sr, cx, cy, n, Cd) c).1 = 6 := by simp [pstep, h3]
theorem p5_semi : pstep (5, sr, cx, cy, n, Cd) 59 = (0, sr, cx, cy, n + 1, va_up Cd n (ce (100 * sr + 10 * (cx - 97) + (cy - 97)))) := by simp [pstep]
theorem p5_bad (h : ¬ c = 59) : (pstep (5, sr, cx, cy, n, Cd) c).1 = 6 := by simp [pstep, h]
end St
def nmo (Bt : Nat → Nat) (len p : Nat) : Option Nat := match nxc Bt len p with
  | some c => if nmc c = true then some (c - 97) else none
  | none => none
theorem nmo_s {Bt : Nat → Nat} {len p x : Nat} (h : nmo Bt len p = some x) : ∃ c, nxc Bt len p = some c ∧ nmc c = true ∧ x = c - 97 := by
  unfold nmo at h
  cases hc : nxc Bt len p with
  | none => rw [hc] at h; cases h
  | some c =>
    rw [hc] at h
    by_cases e : nmc c = true
    · simp only [e, if_true] at h
      exact ⟨c, rfl, e, (Option.some.inj h).symm⟩
    · simp [e] at h
theorem nmo_n {Bt : Nat → Nat} {len p : Nat} (h : nmo Bt len p = none) : ∀ c, nxc Bt len p = some c → nmc c = false := by
  intro c hc
  unfold nmo at h
  rw [hc] at h
  cases e : nmc c with
  | false => rfl
  | true => simp [e] at h
/-- the lines read so far, in both their numbers -/
def fok (n : Nat) (Cd Fr : Nat → Nat) : Prop := Fr 0 = n ∧ n ≤ 14 ∧ ∀ i, i < n → Fr (1 + i) < 400 ∧ Cd i = ce (Fr (1 + i))
theorem fok_add {n v : Nat} {Cd Fr : Nat → Nat} (h : fok n Cd Fr) (hn : ¬ 14 ≤ n) (hv : v < 400) : fok (n + 1) (va_up Cd n (ce v)) (va_up (va_up Fr 0 (n + 1)) (n + 1) v) := by
  refine ⟨by rw [up_n (by omega), up_s], by omega, fun i hi => ?_⟩
  by_cases e : i = n
  · subst e; rw [show 1 + i = i + 1 by omega, up_s, up_s]; exact ⟨hv, rfl⟩
  · rw [up_n (show ¬ 1 + i = n + 1 by omega), up_n (show ¬ 1 + i = 0 by omega), up_n e]
    exact h.2.2 i (by omega)
theorem nm_v {sr c1 c2 : Nat} (h : sr < 4) (h1 : nmc c1 = true) (h2 : nmc c2 = true) : 100 * sr + 10 * (c1 - 97) + (c2 - 97) < 400 := by
  have a1 := nmc_of h1
  have a2 := nmc_of h2
  omega
