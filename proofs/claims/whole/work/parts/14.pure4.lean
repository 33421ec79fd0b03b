-- groups
def flG {α : Type} (f g : Nat → α) (i : Nat) : Nat → α := fun k => if k < i then f k else g k
theorem flG_0 {α : Type} (f g : Nat → α) : flG f g 0 = g := by funext k; simp [flG]
theorem flG_s {α : Type} (f g : Nat → α) (i : Nat) : va_up (flG f g i) i (f i) = flG f g (i + 1) := by
  funext k; unfold va_up flG
  by_cases hk : k = i
  · subst hk; simp
  · rw [if_neg hk]
    by_cases h2 : k < i
    · rw [if_pos h2, if_pos (by omega)]
    · rw [if_neg h2, if_neg (by omega)]
theorem flG_in {α : Type} (f g : Nat → α) {i k : Nat} (h : k < i) : flG f g i k = f k := by simp [flG, h]
def gok (Gp : Nat → Nat) : Prop := ∀ k, k < 10 → Gp k < 10
def ook (t : Option Nat) : Prop := ∀ g, t = some g → g < 10
def tok (Tt : Nat → Option Nat) : Prop := ∀ k, k < 10 → ook (Tt k)
theorem ook.b {t : Option Nat} (h : ook t) : ∀ g, t = some g → g < 2 ^ 31 := fun g hg => Nat.lt_of_lt_of_le (h g hg) (by omega)
theorem ook_n : ook none := fun g h => by cases h
theorem ook_s {g : Nat} (h : g < 10) : ook (some g) := fun a ha => by cases ha; exact h
def renN (Gp : Nat → Nat) (hi lo i : Nat) : Nat → Nat := fun k => if k < i ∧ Gp k = hi then lo else Gp k
def renO (Tt : Nat → Option Nat) (hi lo i : Nat) : Nat → Option Nat := fun k => if k < i ∧ Tt k = some hi then some lo else Tt k
theorem renN_0 (Gp : Nat → Nat) (hi lo : Nat) : renN Gp hi lo 0 = Gp := by funext k; simp [renN]
theorem renO_0 (Tt : Nat → Option Nat) (hi lo : Nat) : renO Tt hi lo 0 = Tt := by funext k; simp [renO]
theorem renN_at (Gp : Nat → Nat) (hi lo i : Nat) : renN Gp hi lo i i = Gp i := by simp [renN]
theorem renO_at (Tt : Nat → Option Nat) (hi lo i : Nat) : renO Tt hi lo i i = Tt i := by simp [renO]
theorem renN_s1 {Gp : Nat → Nat} {hi lo i : Nat} (h : Gp i = hi) : va_up (renN Gp hi lo i) i lo = renN Gp hi lo (i + 1) := by
  funext k; unfold va_up renN
  by_cases hk : k = i
  · subst hk; simp [h]
  · rw [if_neg hk]
    by_cases h2 : k < i ∧ Gp k = hi
    · rw [if_pos h2, if_pos ⟨by omega, h2.2⟩]
    · rw [if_neg h2, if_neg (fun h3 => h2 ⟨by omega, h3.2⟩)]
theorem renN_s0 {Gp : Nat → Nat} {hi lo i : Nat} (h : ¬ Gp i = hi) : renN Gp hi lo i = renN Gp hi lo (i + 1) := by
  funext k; unfold renN
  by_cases hk : k = i
  · subst hk; simp [h]
  · by_cases h2 : k < i ∧ Gp k = hi
    · rw [if_pos h2, if_pos ⟨by omega, h2.2⟩]
    · rw [if_neg h2, if_neg (fun h3 => h2 ⟨by omega, h3.2⟩)]
theorem renO_s1 {Tt : Nat → Option Nat} {hi lo i : Nat} (h : Tt i = some hi) : va_up (renO Tt hi lo i) i (some lo) = renO Tt hi lo (i + 1) := by
  funext k; unfold va_up renO
  by_cases hk : k = i
  · subst hk; simp [h]
  · rw [if_neg hk]
    by_cases h2 : k < i ∧ Tt k = some hi
    · rw [if_pos h2, if_pos ⟨by omega, h2.2⟩]
    · rw [if_neg h2, if_neg (fun h3 => h2 ⟨by omega, h3.2⟩)]
theorem renO_s0 {Tt : Nat → Option Nat} {hi lo i : Nat} (h : ¬ Tt i = some hi) : renO Tt hi lo i = renO Tt hi lo (i + 1) := by
  funext k; unfold renO
  by_cases hk : k = i
  · subst hk; simp [h]
  · by_cases h2 : k < i ∧ Tt k = some hi
    · rw [if_pos h2, if_pos ⟨by omega, h2.2⟩]
    · rw [if_neg h2, if_neg (fun h3 => h2 ⟨by omega, h3.2⟩)]
theorem gok_ren {Gp : Nat → Nat} (h : gok Gp) {hi lo : Nat} (hl : lo < 10) (i : Nat) : gok (renN Gp hi lo i) := by
  intro k hk; unfold renN
  by_cases h2 : k < i ∧ Gp k = hi
  · rw [if_pos h2]; exact hl
  · rw [if_neg h2]; exact h k hk
theorem tok_ren {Tt : Nat → Option Nat} (h : tok Tt) {hi lo : Nat} (hl : lo < 10) (i : Nat) : tok (renO Tt hi lo i) := by
  intro k hk; unfold renO
  by_cases h2 : k < i ∧ Tt k = some hi
  · rw [if_pos h2]; exact ook_s hl
  · rw [if_neg h2]; exact h k hk
theorem tok_up {Tt : Nat → Option Nat} (h : tok Tt) {x : Nat} {t : Option Nat} (ht : ook t) : tok (va_up Tt x t) := by
  intro k hk
  by_cases e : k = x
  · subst e; rw [up_s]; exact ht
  · rw [up_n e]; exact h k hk
abbrev jQ : Type := (Nat → Nat) × (Nat → Option Nat) × Option Nat × Option Nat
/-- two different groups become one; what they point to comes next -/
def jone (Gp : Nat → Nat) (Tt : Nat → Option Nat) (lo hi : Nat) : jQ :=
  (renN Gp hi lo 10, (if renO Tt hi lo 10 lo = none then va_up (va_up (renO Tt hi lo 10) hi none) lo (renO Tt hi lo 10 hi) else va_up (renO Tt hi lo 10) hi none), renO Tt hi lo 10 lo, renO Tt hi lo 10 hi)
def jstep : jQ → jQ
  | (Gp, Tt, some x, some y) => if x = y then (Gp, Tt, some x, some y) else jone Gp Tt (min x y) (max x y)
  | q => q
def jit (q : jQ) : Nat → jQ
  | 0 => q
  | j + 1 => jstep (jit q j)
theorem jit_stay {q : jQ} {j : Nat} (h : jstep (jit q j) = jit q j) : ∀ d, jit q (j + d) = jit q j
  | 0 => rfl
  | d + 1 => by
    show jstep (jit q (j + d)) = _
    rw [jit_stay h d, h]
def jn (Gp : Nat → Nat) (Tt : Nat → Option Nat) (a b : Option Nat) : jQ := jit (Gp, Tt, a, b) 10
theorem jstep_eq {Gp : Nat → Nat} {Tt : Nat → Option Nat} {a b : Option Nat} (h : a = b ∨ a = none ∨ b = none) : jstep (Gp, Tt, a, b) = (Gp, Tt, a, b) := by
  cases a with
  | none => rfl
  | some x =>
    cases b with
    | none => rfl
    | some y =>
      rcases h with h | h | h
      · cases h; simp [jstep]
      · cases h
      · cases h
def jok (q : jQ) : Prop := gok q.1 ∧ tok q.2.1 ∧ ook q.2.2.1 ∧ ook q.2.2.2
theorem jok_one {Gp : Nat → Nat} {Tt : Nat → Option Nat} {lo hi : Nat} (hg : gok Gp) (ht : tok Tt) (hl : lo < 10) (hh : hi < 10) : jok (jone Gp Tt lo hi) := by
  have h1 := tok_ren (hi := hi) ht hl 10
  refine ⟨gok_ren hg hl 10, ?_, h1 lo hl, h1 hi hh⟩
  show tok (if _ then _ else _)
  by_cases e : renO Tt hi lo 10 lo = none
  · rw [if_pos e]; exact tok_up (tok_up h1 ook_n) (h1 hi hh)
  · rw [if_neg e]; exact tok_up h1 ook_n
theorem jok_step {q : jQ} (h : jok q) : jok (jstep q) := by
  obtain ⟨Gp, Tt, a, b⟩ := q
  cases a with
  | none => exact h
  | some x =>
    cases b with
    | none => exact h
    | some y =>
      have hx : x < 10 := h.2.2.1 x rfl
      have hy : y < 10 := h.2.2.2 y rfl
      show jok (if x = y then (Gp, Tt, some x, some y) else jone Gp Tt (min x y) (max x y))
      by_cases e : x = y
      · rw [if_pos e]; exact h
      · rw [if_neg e]; exact jok_one h.1 h.2.1 (by omega) (by omega)
theorem jok_it {q : jQ} (h : jok q) : ∀ j, jok (jit q j)
  | 0 => h
  | j + 1 => jok_step (jok_it h j)
theorem jok_n {Gp : Nat → Nat} {Tt : Nat → Option Nat} {a b : Option Nat} (hg : gok Gp) (ht : tok Tt) (ha : ook a) (hb : ook b) : jok (jn Gp Tt a b) := jok_it ⟨hg, ht, ha, hb⟩ 10
/-- one group comes to point to another -/
def pt (Gp : Nat → Nat) (Tt : Nat → Option Nat) (f t : Option Nat) : (Nat → Nat) × (Nat → Option Nat) × Bool :=
  match f, t with
  | some x, some y => if Tt x = some y then (Gp, Tt, false) else if Tt x = none then (Gp, va_up Tt x (some y), true) else ((jn Gp Tt (Tt x) (some y)).1, (jn Gp Tt (Tt x) (some y)).2.1, true)
  | _, _ => (Gp, Tt, false)
def cst (v : Nat) (Gp : Nat → Nat) (Tt : Nat → Option Nat) : (Nat → Nat) × (Nat → Option Nat) × Bool :=
  if v / 100 = 0 then pt Gp Tt (some (Gp (v / 10 % 10))) (some (Gp (v % 10)))
  else if v / 100 = 1 then pt Gp Tt (some (Gp (v / 10 % 10))) (Tt (Gp (v % 10)))
  else if v / 100 = 2 then pt Gp Tt (some (Gp (v / 10 % 10))) ((Tt (Gp (v % 10))).bind Tt)
  else pt Gp Tt (Tt (Gp (v / 10 % 10))) (Tt (Gp (v % 10)))
abbrev cQ : Type := (Nat → Nat) × (Nat → Option Nat) × Bool
def cp (ln : Nat → Nat) (lo : Option Nat) (Gp : Nat → Nat) (Tt : Nat → Option Nat) : Nat → cQ
  | 0 => (Gp, Tt, false)
  | i + 1 => if some i = lo then cp ln lo Gp Tt i else ((cst (ln i) (cp ln lo Gp Tt i).1 (cp ln lo Gp Tt i).2.1).1, (cst (ln i) (cp ln lo Gp Tt i).1 (cp ln lo Gp Tt i).2.1).2.1, (cp ln lo Gp Tt i).2.2 || (cst (ln i) (cp ln lo Gp Tt i).1 (cp ln lo Gp Tt i).2.1).2.2)
def cit (ln : Nat → Nat) (n : Nat) (lo : Option Nat) : Nat → cQ
  | 0 => (fun k => k, fun _ => none, true)
  | j + 1 => if (cit ln n lo j).2.2 = true then cp ln lo (cit ln n lo j).1 (cit ln n lo j).2.1 n else cit ln n lo j
def coarG (ln : Nat → Nat) (n : Nat) (lo : Option Nat) : Nat → Nat := (cit ln n lo 21).1
def coarT (ln : Nat → Nat) (n : Nat) (lo : Option Nat) : Nat → Option Nat := (cit ln n lo 21).2.1
def cok (q : cQ) : Prop := gok q.1 ∧ tok q.2.1
theorem cok_pt {Gp : Nat → Nat} {Tt : Nat → Option Nat} (hg : gok Gp) (ht : tok Tt) {f t : Option Nat} (hf : ook f) (h2 : ook t) : cok (pt Gp Tt f t) := by
  cases f with
  | none => exact ⟨hg, ht⟩
  | some x =>
    cases t with
    | none => exact ⟨hg, ht⟩
    | some y =>
      have hx := hf x rfl
      have hy := h2 y rfl
      unfold pt
      by_cases e : Tt x = some y
      · simp only [e, if_true]; exact ⟨hg, ht⟩
      · simp only [if_neg e]
        by_cases e2 : Tt x = none
        · simp only [if_pos e2]; exact ⟨hg, tok_up ht h2⟩
        · simp only [if_neg e2]
          have h := jok_n hg ht (ht x hx) h2
          generalize jn Gp Tt (Tt x) (some y) = Q at h ⊢
          exact ⟨h.1, h.2.1⟩
theorem ook_bind {Tt : Nat → Option Nat} (ht : tok Tt) {t : Option Nat} (h : ook t) : ook (t.bind Tt) := by
  cases t with
  | none => exact ook_n
  | some g => exact ht g (h g rfl)
theorem cok_st {Gp : Nat → Nat} {Tt : Nat → Option Nat} (hg : gok Gp) (ht : tok Tt) (v : Nat) : cok (cst v Gp Tt) := by
  have hx : v / 10 % 10 < 10 := by omega
  have hy : v % 10 < 10 := by omega
  unfold cst
  by_cases h0 : v / 100 = 0
  · rw [if_pos h0]; exact cok_pt hg ht (ook_s (hg _ hx)) (ook_s (hg _ hy))
  · rw [if_neg h0]
    by_cases h1 : v / 100 = 1
    · rw [if_pos h1]; exact cok_pt hg ht (ook_s (hg _ hx)) (ht _ (hg _ hy))
    · rw [if_neg h1]
      by_cases h2 : v / 100 = 2
      · rw [if_pos h2]; exact cok_pt hg ht (ook_s (hg _ hx)) (ook_bind ht (ht _ (hg _ hy)))
      · rw [if_neg h2]; exact cok_pt hg ht (ht _ (hg _ hx)) (ht _ (hg _ hy))
theorem cok_cp {ln : Nat → Nat} {lo : Option Nat} {Gp : Nat → Nat} {Tt : Nat → Option Nat} (hg : gok Gp) (ht : tok Tt) : ∀ i, cok (cp ln lo Gp Tt i)
  | 0 => ⟨hg, ht⟩
  | i + 1 => by
    have h1 := cok_cp (ln := ln) (lo := lo) hg ht i
    simp only [cp]
    by_cases e : some i = lo
    · rw [if_pos e]; exact h1
    · rw [if_neg e]; exact ⟨(cok_st h1.1 h1.2 _).1, (cok_st h1.1 h1.2 _).2⟩
theorem cok_cit {ln : Nat → Nat} {n : Nat} {lo : Option Nat} : ∀ j, cok (cit ln n lo j)
  | 0 => ⟨fun _ h => h, fun _ _ => ook_n⟩
  | j + 1 => by
    have h1 := cok_cit (ln := ln) (n := n) (lo := lo) j
    simp only [cit]
    by_cases e : (cit ln n lo j).2.2 = true
    · rw [if_pos e]; exact cok_cp h1.1 h1.2 n
    · rw [if_neg e]; exact h1
theorem cit_stay {ln : Nat → Nat} {n : Nat} {lo : Option Nat} {j : Nat} (h : (cit ln n lo j).2.2 = false) : ∀ d, cit ln n lo (j + d) = cit ln n lo j
  | 0 => rfl
  | d + 1 => by
    have h1 := cit_stay h d
    show cit ln n lo (j + d + 1) = _
    simp only [cit]
    rw [h1, h]; simp
def mem (Gp : Nat → Nat) (t : Option Nat) : Nat → Nat
  | 0 => 0
  | i + 1 => if some (Gp i) = t then mem Gp t i ||| 2 ^ i else mem Gp t i
theorem mem_lt (Gp : Nat → Nat) (t : Option Nat) : ∀ i, i ≤ 10 → mem Gp t i < 1024
  | 0, _ => by simp [mem]
  | i + 1, h => by
    have h1 := mem_lt Gp t i (by omega)
    simp only [mem]
    by_cases e : some (Gp i) = t
    · rw [if_pos e]; exact or_lt10 h1 (pow_lt10 (by omega))
    · rw [if_neg e]; exact h1
def gcn (Gp : Nat → Nat) : Nat → Nat
  | 0 => 0
  | i + 1 => gcn Gp i + (if Gp i = i then 1 else 0)
def pnc (Tt : Nat → Option Nat) : Nat → Nat
  | 0 => 0
  | i + 1 => pnc Tt i + (if Tt i = none then 0 else 1)
def snc (Tt : Nat → Option Nat) : Nat → Nat
  | 0 => 0
  | i + 1 => snc Tt i + (if Tt i = some i then 1 else 0)
def ctot (Gp : Nat → Nat) (Tt : Nat → Option Nat) : Nat → Nat
  | 0 => 0
  | i + 1 => ctot Gp Tt i + pcn (mem Gp (Tt (Gp i)) 10)
