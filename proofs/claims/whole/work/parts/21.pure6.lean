-- answers of the whole object
theorem inbT {k n : Nat} (h : k < n) (hn : n < 2 ^ 31) : ¬ bI (inb (nI k) n) = 0 := by
  rw [bI_0, inb_nI (by omega)]; simp [h]
theorem inbT1 {k n : Nat} (h : k < n) (hn : n < 2 ^ 31) : inb (nI k) n = true := by
  rw [inb_nI (by omega)]; simp [h]
def tly (w bd nb fl len n sn : Nat) : Nat := if w = 0 then bd else if w = 1 then nb else if w = 2 then fl else if w = 3 then len else if w = 4 then n else sn
def wrs (v : Nat) (S : Nat → Nat) : Nat := if v / 100 = 3 then S (v / 10 % 10) else 2 ^ (v / 10 % 10)
def rds (v : Nat) (S : Nat → Nat) : Nat := if v / 100 = 0 then 0 else if v / 100 = 1 then 2 ^ (v % 10) else if v / 100 = 2 then 2 ^ (v % 10) ||| S (v % 10) else 2 ^ (v / 10 % 10) ||| 2 ^ (v % 10)
def ofD (v : Nat) (S : Nat → Nat) (w : Nat) : Nat := if w = 0 then v / 100 else if w = 1 then v / 10 % 10 else if w = 2 then v % 10 else if w = 3 then wrs v S else rds v S
def dis (u v : Nat) (S : Nat → Nat) : Bool := decide (wrs u S &&& (wrs v S ||| rds v S) ≠ 0)
def gdt (Gp : Nat → Nat) (Tt : Nat → Option Nat) (x w : Nat) : Option Nat := if w = 0 then some (mem Gp (some (Gp x)) 10) else if w = 1 then some (Gp x) else Tt (Gp x)
def cnd (S Gp : Nat → Nat) (Tt : Nat → Option Nat) (w : Nat) : Nat := if w = 0 then gcn Gp 10 else if w = 1 then pnc Tt 10 else if w = 2 then snc Tt 10 else if w = 3 then ftot S 10 else ctot Gp Tt 10
def cse (Gp : Nat → Nat) (Tt : Nat → Option Nat) (x : Nat) : Nat := mem Gp (Tt (Gp x)) 10
theorem wrs_lt {v : Nat} {S : Nat → Nat} (h : sok S) : wrs v S < 1024 := by
  unfold wrs
  by_cases e : v / 100 = 3
  · rw [if_pos e]; exact h _ (by omega)
  · rw [if_neg e]; exact pow_lt10 (by omega)
theorem rds_lt {v : Nat} {S : Nat → Nat} (h : sok S) : rds v S < 1024 := by
  unfold rds
  have h1 : 2 ^ (v % 10) < 1024 := pow_lt10 (by omega)
  have h2 : 2 ^ (v / 10 % 10) < 1024 := pow_lt10 (by omega)
  split
  · omega
  · split
    · exact h1
    · split
      · exact or_lt10 h1 (h _ (by omega))
      · exact or_lt10 h2 h1
def mx (h : Int64) (v : Int32) : Int64 := (31 : Int64) * h + v.toInt64
def mxf (f : Nat → Int32) (h : Int64) : Nat → Int64
  | 0 => h
  | i + 1 => mx (mxf f h i) (f i)
def mxn (S Gp : Nat → Nat) (Tt En : Nat → Option Nat) (Ev : Nat → Nat) (h : Int64) (x : Nat) : Int64 :=
  mx (mx (mx (mx (mx (mx h (nI (S x))) (nI (cse Gp Tt x))) (oI (gdt Gp Tt x 1))) (oI (gdt Gp Tt x 2))) (oI (En x))) (nI (Ev x))
def mdl (ln S : Nat → Nat) (h : Int64) : Nat → Int64
  | 0 => h
  | i + 1 => mxf (fun w => nI (ofD (ln i) S w)) (mdl ln S h i) 5
def mdn (S Gp : Nat → Nat) (Tt En : Nat → Option Nat) (Ev : Nat → Nat) (h : Int64) : Nat → Int64
  | 0 => h
  | i + 1 => mxn S Gp Tt En Ev (mdn S Gp Tt En Ev h i) i
def dgst (bd nb fl len n sn : Nat) (ln S Gp : Nat → Nat) (Tt : Nat → Option Nat) (q : rQ) : Int64 :=
  mx (mxf (fun w => nI (cnd S Gp Tt w)) (mdn S Gp Tt q.1 q.2.1 (mdl ln S (mxf (fun w => nI (tly w bd nb fl len n sn)) (2531 : Int64) 6) n) 10) 5) (nI q.2.2)
theorem neg1_toInt : (oI none).toInt = -1 := by decide
