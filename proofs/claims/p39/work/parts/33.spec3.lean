/-! the model's operations on its block 0, its copies, and its queries -/
def inB (x y z : Int32) : Bool := if x < y then false else if z < x then false else true
def csM (s : NV) (p : Nat) : Bool := !(thM s 0 p) && !(boM s 0 p).isNone
def st1 (s : NV) (p : Nat) (v : Int32) : NV := upd (upd (upd s 1 (s 1 + nI 1)) (32 + p) (upd s 1 (s 1 + nI 1) 1)) (62 + p) v
def plM (s : NV) (p : Nat) : NV := match boM s 0 p with
  | none => s
  | some h => lrM s 0 h p (s 1)
theorem plM_n {s : NV} {p : Nat} (hb : boM s 0 p = none) : plM s p = s := by unfold plM; rw [hb]
theorem plM_s {s : NV} {p h : Nat} (hb : boM s 0 p = some h) : plM s p = lrM s 0 h p (s 1) := by unfold plM; rw [hb]
def plK (s : NV) (p : Nat) : Nat → NV
  | 0 => s
  | k + 1 => plM (plK s p k) p
def st2 (s : NV) (p : Nat) (v : Int32) : NV := plK (st1 s p v) p 2
def cwM (s : NV) (p : Nat) : Bool := if thM s 0 p then (if cpM s 0 p = 0 then false else true) else false
def btC (x : Int32) (h : Nat) : Bool := decide (((x >>> (nI h &&& 31)) &&& nI 1) = nI 1)
def wrL (s : NV) (p : Nat) (c : Int32) : Nat → NV
  | 0 => s
  | h + 1 => lrM (wrL s p c h) 0 h p (if btC c h then wrL s p c h 1 else rpM (wrL s p c h) 0 h p)
def wrM (s : NV) (p : Nat) (v : Int32) : NV := seM (wrL (st1 s p v) p (cpM (st1 s p v) 0 p) 6) 0
def rvL (s : NV) (p : Nat) (c : Int32) : Nat → NV
  | 0 => s
  | h + 1 => lrM (rvL s p c h) 0 h p (if btC c h then nI 0 else rpM (rvL s p c h) 0 h p)
def rv1 (s : NV) (p : Nat) : NV := upd (rvL s p (cpM s 0 p) 6) (32 + p) (nI 0)
def rv2 (s : NV) (p : Nat) : NV := upd s 4 (if s 4 = nI p then -1 else s 4)
def rvM (s : NV) (p : Nat) : NV := seM (rv2 (rv1 s p) p) 0
def le1 (s : NV) (h : Nat) (c : Int32) : NV := laM (laM s 0 h 0 (nI 1)) 0 h 2 c
def leL (s : NV) : Nat → Int32
  | 0 => nI 0
  | h + 1 => leL s h + feM s 0 h
def re1 (s : NV) (h : Nat) (x : Int32) : NV := caM (laM (laM s 0 h 0 (nI 2)) 0 h 3 (laM s 0 h 0 (nI 2) 0 + x)) 0 h false
def di1 (s : NV) (h : Nat) : NV := caM (laM s 0 h 1 (nI 0)) 0 h true
def goM (s : NV) (h p : Nat) : Bool := if rpM s 0 h p ≤ 0 then false else if fsM s 0 h p then (if onM (cpM s 0 p &&& (nI 63 - (nI 1 <<< (nI h &&& 31)))) < nI 2 then false else true) else true
def rcL (s : NV) (h : Nat) : Nat → NV × Nat
  | 0 => (s, 0)
  | p + 1 => (lrM (rcL s h p).1 0 h p (if goM (rcL s h p).1 h p then nI 0 else rpM (rcL s h p).1 0 h p), (rcL s h p).2 + (if goM (rcL s h p).1 h p then 1 else 0))
def rc1 (s : NV) (h : Nat) : NV := laM s 0 h 1 (nI 1)
def cr1 (s : NV) (h : Nat) : NV := caM (laM (laM (clM s 0 h) 0 h 0 (nI 0)) 0 h 1 (nI 1)) 0 h true
def spL (s : NV) (b : Nat) : Nat → NV
  | 0 => s
  | k + 1 => spM (spL s b k) b
def crL (s : NV) (a c : Nat) : Nat → NV
  | 0 => s
  | k + 1 => upd (crL s a c k) (272 * c + k) (crL s a c k (272 * a + k))
def crM (s : NV) (a c : Nat) : NV := crL s a c 272
def shM (s : NV) : NV := crM (crM (crM (crM (crM s 2 1) 3 2) 4 3) 5 4) 6 5
def lsI (s : NV) (p : Nat) : Nat → Int32
  | 0 => nI 0
  | h + 1 => lsI s p h ||| (if fsM s 0 h p then nI 1 <<< (nI h &&& 31) else nI 0)
def lsB (s : NV) (p : Nat) (x : Int32) : Nat := if lsI s p 6 = 0 then 0 else if lsI s p 6 &&& x = lsI s p 6 then 1 else 0
def lsL (s : NV) (x : Int32) : Nat → Nat
  | 0 => 0
  | p + 1 => lsL s x p + lsB s p x
def lbM (s : NV) (x : Int32) : Nat := lsL s x 30
abbrev prM (a b : Nat) : Int32 := (nI 1 <<< (nI a &&& 31)) ||| (nI 1 <<< (nI b &&& 31))
def reC (s : NV) (b : Nat) : Nat → Bool
  | 0 => decide (s (b + 4) = -1)
  | h + 1 => if reC s b h then (if ofM s b h 0 = nI 2 then false else true) else false
def wpI (s : NV) (a : Nat) (f : Nat) : Nat → Nat
  | 0 => f
  | b + 1 => if a < b then (if lbM s (prM a b) ≤ lbM s (prM (wpI s a f b / 6) (wpI s a f b % 6)) then wpI s a f b else 6 * a + b) else wpI s a f b
def wpL (s : NV) : Nat → Nat
  | 0 => 1
  | a + 1 => wpI s a (wpL s a) 6
theorem lsL_le {s : NV} {x : Int32} : ∀ n, lsL s x n ≤ n := by
  intro n
  induction n with
  | zero => exact Nat.le_refl 0
  | succ n ih =>
    have : lsB s n x ≤ 1 := by unfold lsB; (repeat' split) <;> omega
    rw [lsL]; omega
theorem lbM_le {s : NV} {x : Int32} : lbM s x ≤ 30 := lsL_le 30
theorem ctL_le {s : NV} {b : Nat} {x : Int32} : ∀ n, ctL s b x n ≤ n := by
  intro n
  induction n with
  | zero => exact Nat.le_refl 0
  | succ n ih => rw [ctL]; (repeat' split) <;> omega
theorem isR_in {x : Int32} {n : Nat} (h0 : 0 < n) (hn : n ≤ 1000) : inB x (nI 0) (nI (n - 1)) = isR x n := by
  unfold inB isR
  have e1 : (nI n).toInt = n := nI_toInt (by omega)
  have e2 : (nI (n - 1)).toInt = ((n - 1 : Nat) : Int) := nI_toInt (by omega)
  rw [nI_0]
  by_cases h1 : x < 0
  · simp [h1]
  · have h3 : nI (n - 1) < x ↔ nI n ≤ x := by
      rw [Int32.lt_iff_toInt_lt, Int32.le_iff_toInt_le, e1, e2]
      omega
    by_cases h2 : nI n ≤ x
    · simp [h1, h2, h3]
    · simp [h1, h2, h3]
def clB (s : NV) (h : Nat) : Bool := if ofM s 0 h 0 = 0 then (if ofM s 0 h 1 = nI 1 then true else false) else false
def crB (s : NV) (h : Nat) : Bool := if ofM s 0 h 0 = nI 1 then (if ofM s 0 h 1 = nI 1 then true else false) else false
def cdB (s : NV) (h : Nat) : Bool := if ofM s 0 h 0 = 0 then false else (if ofM s 0 h 1 = nI 1 then true else false)
theorem isR_t {p n : Nat} (hp : p < n) (hn : n ≤ 1000) : isR (nI p) n = true := by
  unfold isR
  have h1 : ¬ nI p < 0 := nI_pos (by omega)
  have h2 : ¬ nI n ≤ nI p := nI_lit_le hp (by omega)
  simp [h1, h2]
def kpV (v : Nat) : Nat := if v < 6 then v + 1 else 6
def kpS (s : NV) (v : Nat) : NV := if v < 6 then crM s 0 (v + 1) else crM (shM s) 0 6
def FK (F : SV) (v : Nat) : SV := put (put F 0 0 (nI 0)) 0 2 (nI (kpV v))
def trM (s : NV) (w : Nat) : Int32 := if s 4 = -1 then -1 else if w = 3 then s 7 - s 0 else s (4 + w)
theorem wpI_lo {s : NV} {a f : Nat} : ∀ b, b ≤ a + 1 → wpI s a f b = f := by
  intro b
  induction b with
  | zero => intro _; rfl
  | succ b ih => intro h; rw [wpI, if_neg (by omega), ih (by omega)]
theorem wpI_le {s : NV} {a f : Nat} (ha : a < 6) (hf : f ≤ 35) : ∀ b, b ≤ 6 → wpI s a f b ≤ 35 := by
  intro b
  induction b with
  | zero => intro _; exact hf
  | succ b ih =>
    intro h
    have := ih (by omega)
    rw [wpI]
    (repeat' split) <;> omega
theorem wpL_le {s : NV} : ∀ a, a ≤ 6 → wpL s a ≤ 35 := by
  intro a
  induction a with
  | zero => intro _; show 1 ≤ 35; decide
  | succ a ih => intro h; exact wpI_le (by omega) (ih (by omega)) 6 (Nat.le_refl 6)
