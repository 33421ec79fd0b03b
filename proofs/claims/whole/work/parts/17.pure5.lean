-- runs
abbrev rQ : Type := (Nat → Option Nat) × (Nat → Nat) × Nat
def rpV (Ev : Nat → Nat) (x : Nat) : Option Nat → (Nat → Nat)
  | none => Ev
  | some g => va_up Ev x (Ev x ||| 2 ^ g)
def rld (q : rQ) (x : Nat) : Option Nat → rQ
  | none => (q.1, q.2.1, q.2.2 + 1)
  | some g => (va_up q.1 x (q.1 g), rpV q.2.1 x (q.1 g), q.2.2)
def rsto (q : rQ) (t : Option Nat) : Option Nat → rQ
  | none => (q.1, q.2.1, q.2.2 + 1)
  | some g => (va_up q.1 g t, rpV q.2.1 g t, q.2.2)
def rst (v : Nat) (q : rQ) : rQ :=
  if v / 100 = 0 then (va_up q.1 (v / 10 % 10) (some (v % 10)), rpV q.2.1 (v / 10 % 10) (some (v % 10)), q.2.2)
  else if v / 100 = 1 then (va_up q.1 (v / 10 % 10) (q.1 (v % 10)), rpV q.2.1 (v / 10 % 10) (q.1 (v % 10)), q.2.2)
  else if v / 100 = 2 then rld q (v / 10 % 10) (q.1 (v % 10))
  else rsto q (q.1 (v % 10)) (q.1 (v / 10 % 10))
def rr (ln : Nat → Nat) (n : Nat) : Nat → rQ
  | 0 => (fun _ => none, fun _ => 0, 0)
  | k + 1 => rst (ln (k % n)) (rr ln n k)
theorem tok_rld {q : rQ} (h : tok q.1) (x : Nat) {t : Option Nat} (ht : ook t) : tok (rld q x t).1 := by
  cases t with
  | none => exact h
  | some g => exact tok_up h (h g (ht g rfl))
theorem tok_rsto {q : rQ} (h : tok q.1) {t : Option Nat} (ht : ook t) (u : Option Nat) : tok (rsto q t u).1 := by
  cases u with
  | none => exact h
  | some g => exact tok_up h ht
theorem tok_rst {q : rQ} (h : tok q.1) (v : Nat) : tok (rst v q).1 := by
  have hx : v / 10 % 10 < 10 := by omega
  have hy : v % 10 < 10 := by omega
  unfold rst
  by_cases h0 : v / 100 = 0
  · rw [if_pos h0]; exact tok_up h (ook_s hy)
  · rw [if_neg h0]
    by_cases h1 : v / 100 = 1
    · rw [if_pos h1]; exact tok_up h (h _ hy)
    · rw [if_neg h1]
      by_cases h2 : v / 100 = 2
      · rw [if_pos h2]; exact tok_rld h _ (h _ hy)
      · rw [if_neg h2]; exact tok_rsto h (h _ hy) _
theorem tok_rr {ln : Nat → Nat} {n : Nat} : ∀ k, tok (rr ln n k).1
  | 0 => fun _ _ => ook_n
  | k + 1 => tok_rst (tok_rr k) _
theorem rr_s {ln : Nat → Nat} {n r i : Nat} (h : i < n) : rr ln n (r * n + (i + 1)) = rst (ln i) (rr ln n (r * n + i)) := by
  show rst (ln ((r * n + i) % n)) _ = _
  rw [Nat.mul_comm, Nat.mul_add_mod, Nat.mod_eq_of_lt h]; rfl
-- states
def rotA (Ha : Nat → Nat) : Nat → Nat := fun j => if j < 4 then Ha (j + 1) else Ha 0
def kA (sn : Nat) (Ha : Nat → Nat) : Nat → Nat := if sn = 5 then rotA Ha else Ha
def kN (sn : Nat) (NS : Nat → Nat) (nn : Nat) : Nat → Nat := if sn = 5 then (fun j => if j < 4 then NS (j + 1) else nn) else va_up NS sn nn
def kC (sn : Nat) (CS : Nat → Nat → Nat) (Cn : Nat → Nat) (nn : Nat) : Nat → Nat → Nat := if sn = 5 then (fun j => if j < 4 then CS (j + 1) else cpN Cn (CS 0) nn) else va_up CS sn (cpN Cn (CS sn) nn)
def kS (sn : Nat) : Nat := if sn = 5 then 5 else sn + 1
-- texts
def fld (c : Nat) : Int32 := nI c - nI 97
def nmc (c : Nat) : Bool := decide (97 ≤ c ∧ c < 107)
theorem inb_fld : ∀ c, c < 128 → inb (fld c) 10 = nmc c := by decide +kernel
theorem fld_nm {c : Nat} (h : nmc c = true) : fld c = nI (c - 97) := by
  unfold nmc at h; unfold fld
  exact pk_sub (by simpa using (of_decide_eq_true h).1)
theorem nmc_of {c : Nat} (h : nmc c = true) : 97 ≤ c ∧ c < 107 := of_decide_eq_true h
abbrev pS : Type := Nat × Nat × Nat × Nat × Nat × (Nat → Nat)
/-- a byte behind a step (no blank): the step, the sort, the bytes of x and y, the lines -/
def pstep (q : pS) (c : Nat) : pS :=
  if q.1 = 0 then
    if 14 ≤ q.2.2.2.2.1 then (6, q.2)
    else if c = 42 then (1, 3, q.2.2) else ((if nmc c = true then 2 else 6), 1, c, q.2.2.2)
  else if q.1 = 1 then ((if nmc c = true then 2 else 6), q.2.1, c, q.2.2.2)
  else if q.1 = 2 then (if c = 61 then ((if q.2.1 = 3 then 4 else 3), q.2) else (6, q.2))
  else if q.1 = 3 then (if c = 38 then (4, 0, q.2.2) else if c = 42 then (4, 2, q.2.2) else ((if nmc c = true then 5 else 6), q.2.1, q.2.2.1, c, q.2.2.2.2))
  else if q.1 = 4 then ((if nmc c = true then 5 else 6), q.2.1, q.2.2.1, c, q.2.2.2.2)
  else (if c = 59 then (0, q.2.1, q.2.2.1, q.2.2.2.1, q.2.2.2.2.1 + 1, va_up q.2.2.2.2.2 q.2.2.2.2.1 (ce (100 * q.2.1 + 10 * (q.2.2.1 - 97) + (q.2.2.2.1 - 97)))) else (6, q.2))
def pk (q0 : pS) (Bt : Nat → Nat) : Nat → pS
  | 0 => q0
  | k + 1 => if Bt k = 32 then pk q0 Bt k else pstep (pk q0 Bt k) (Bt k)
def pflt (q0 : pS) (Bt : Nat → Nat) : Nat → Option Nat
  | 0 => none
  | k + 1 => match pflt q0 Bt k with
    | some f => some f
    | none => if (pk q0 Bt (k + 1)).1 = 6 then some k else none
def pres (q0 : pS) (Bt : Nat → Nat) (len : Nat) : Option Nat := match pflt q0 Bt len with
  | some f => some f
  | none => if (pk q0 Bt len).1 = 0 then none else some len
def pend (q0 : pS) (Bt : Nat → Nat) (len : Nat) : Nat := match pflt q0 Bt len with
  | some f => f + 1
  | none => len
theorem pflt_stay {q0 : pS} {Bt : Nat → Nat} {k f : Nat} (h : pflt q0 Bt k = some f) : ∀ d, pflt q0 Bt (k + d) = some f
  | 0 => h
  | d + 1 => by
    show pflt q0 Bt (k + d + 1) = _
    simp only [pflt]
    rw [pflt_stay h d]
/-- a state of the reading that the class may meet -/
def pv (q : pS) : Prop := q.1 ≤ 5 ∧ q.2.2.2.2.1 ≤ 14 ∧ q.2.1 < 4 ∧ (2 ≤ q.1 → nmc q.2.2.1 = true) ∧ (5 ≤ q.1 → nmc q.2.2.2.1 = true) ∧ (1 ≤ q.1 → q.2.2.2.2.1 < 14)
theorem pv_step {q : pS} (h : pv q) {c : Nat} (h6 : ¬ (pstep q c).1 = 6) : pv (pstep q c) := by
  obtain ⟨stp, sr, cx, cy, n, Cd⟩ := q
  obtain ⟨h1, h2, h3, h4, h5, h7⟩ := h
  simp only at h1 h2 h3 h4 h5 h7
  unfold pstep at h6 ⊢
  simp only at h6 ⊢
  split at h6
  · rename_i e
    rw [if_pos e]
    split at h6
    · exact absurd rfl h6
    · rename_i e2
      rw [if_neg e2]
      split at h6
      · rename_i e3
        rw [if_pos e3]
        refine ⟨?_, ?_, ?_, ?_, ?_, ?_⟩ <;> simp only <;> omega
      · rename_i e3
        rw [if_neg e3]
        by_cases hn : nmc c = true
        · simp only [hn, if_true] at h6 ⊢
          refine ⟨?_, ?_, ?_, ?_, ?_, ?_⟩ <;> simp only <;> first | omega | exact fun _ => hn
        · simp [hn] at h6
  · rename_i e
    rw [if_neg e]
    split at h6
    · rename_i e1
      rw [if_pos e1]
      by_cases hn : nmc c = true
      · simp only [hn, if_true] at h6 ⊢
        refine ⟨?_, ?_, ?_, ?_, ?_, ?_⟩ <;> simp only <;> first | omega | exact fun _ => hn
      · simp [hn] at h6
    · rename_i e1
      rw [if_neg e1]
      split at h6
      · rename_i e2
        rw [if_pos e2]
        split at h6
        · rename_i e3
          rw [if_pos e3]
          have hcx := h4 (by omega)
          have hn14 := h7 (by omega)
          refine ⟨?_, ?_, ?_, ?_, ?_, ?_⟩ <;> simp only
          · split <;> omega
          · omega
          · omega
          · exact fun _ => hcx
          · split <;> omega
          · exact fun _ => hn14
        · exact absurd rfl h6
      · rename_i e2
        rw [if_neg e2]
        split at h6
        · rename_i e3
          rw [if_pos e3]
          have hcx := h4 (by omega)
          have hn14 := h7 (by omega)
          split at h6
          · rename_i e4
            rw [if_pos e4]
            refine ⟨?_, ?_, ?_, ?_, ?_, ?_⟩ <;> simp only <;> first | omega | exact fun _ => hcx | exact fun _ => hn14
          · rename_i e4
            rw [if_neg e4]
            split at h6
            · rename_i e5
              rw [if_pos e5]
              refine ⟨?_, ?_, ?_, ?_, ?_, ?_⟩ <;> simp only <;> first | omega | exact fun _ => hcx | exact fun _ => hn14
            · rename_i e5
              rw [if_neg e5]
              by_cases hn : nmc c = true
              · simp only [hn, if_true] at h6 ⊢
                refine ⟨?_, ?_, ?_, ?_, ?_, ?_⟩ <;> simp only <;> first | omega | exact fun _ => hcx | exact fun _ => hn14 | exact fun _ => hn
              · simp [hn] at h6
        · rename_i e3
          rw [if_neg e3]
          split at h6
          · rename_i e4
            rw [if_pos e4]
            have hcx := h4 (by omega)
            have hn14 := h7 (by omega)
            by_cases hn : nmc c = true
            · simp only [hn, if_true] at h6 ⊢
              refine ⟨?_, ?_, ?_, ?_, ?_, ?_⟩ <;> simp only <;> first | omega | exact fun _ => hcx | exact fun _ => hn14 | exact fun _ => hn
            · simp [hn] at h6
          · rename_i e4
            rw [if_neg e4]
            have hn14 := h7 (by omega)
            split at h6
            · rename_i e5
              rw [if_pos e5]
              refine ⟨?_, ?_, ?_, ?_, ?_, ?_⟩ <;> simp only <;> omega
            · exact absurd rfl h6
theorem pv_pk {q0 : pS} (h : pv q0) {Bt : Nat → Nat} : ∀ k, pflt q0 Bt k = none → pv (pk q0 Bt k)
  | 0, _ => h
  | k + 1, hf => by
    simp only [pflt] at hf
    cases e : pflt q0 Bt k with
    | some f => rw [e] at hf; cases hf
    | none =>
      rw [e] at hf
      have h1 := pv_pk h (Bt := Bt) k e
      have h6 : ¬ (pk q0 Bt (k + 1)).1 = 6 := fun h6 => by simp only [h6, if_true] at hf; cases hf
      simp only [pk] at h6 ⊢
      by_cases hb : Bt k = 32
      · rw [if_pos hb]; exact h1
      · rw [if_neg hb] at h6 ⊢; exact pv_step h1 h6
theorem pflt_s {q0 : pS} {Bt : Nat → Nat} {k : Nat} (h : pflt q0 Bt k = none) (h6 : ¬ (pk q0 Bt (k + 1)).1 = 6) : pflt q0 Bt (k + 1) = none := by
  simp only [pflt, h, if_neg h6]
theorem pflt_f {q0 : pS} {Bt : Nat → Nat} {k : Nat} (h : pflt q0 Bt k = none) (h6 : (pk q0 Bt (k + 1)).1 = 6) : pflt q0 Bt (k + 1) = some k := by
  simp only [pflt, h, if_pos h6]
