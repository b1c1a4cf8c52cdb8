/-! what the methods of State answer, in words of its seven cells: f 0 its ints (6 existing, 7 connected, 8 now, 9 transferTime, 10 completed, 11 page, 12 source, 13 target, 14 due), f 1 mode, f 2 capacity, f 3 deadline, f 4 fresh, f 5 stale, f 6 value -/
abbrev SV : Type := Nat → Nat → Int32
def tb (s m : Int32) : Bool := decide (¬ ((s >>> (m &&& 31)) &&& nI 1) = 0)
def ush (x y : Int32) : Int32 := (x.toUInt32 >>> (y.toUInt32 &&& Int32.toUInt32 31)).toInt32
def bc1 (i : Int32) : Int32 := i - (ush i (nI 1) &&& nI 1431655765)
def bc2 (i : Int32) : Int32 := (i &&& nI 858993459) + (ush i (nI 2) &&& nI 858993459)
def bc3 (i : Int32) : Int32 := (i + ush i (nI 4)) &&& nI 252645135
def bc4 (i : Int32) : Int32 := i + ush i (nI 8)
def bc5 (i : Int32) : Int32 := i + ush i (nI 16)
def bcI (i : Int32) : Int32 := bc5 (bc4 (bc3 (bc2 (bc1 i)))) &&& nI 63
def isR (x : Int32) (n : Nat) : Bool := decide (¬ x < 0) && decide (¬ nI n ≤ x)
def exS (f : SV) (p : Nat) : Bool := tb (f 0 6) (nI p)
def frS (f : SV) (p : Nat) : Nat → Int32
  | 0 => nI 0
  | k + 1 => frS f p k ||| (((f 4 k >>> (nI p &&& 31)) &&& nI 1) <<< (nI k &&& 31))
def cpS (f : SV) (p : Nat) : Int32 := frS f p 6 &&& f 0 7
def opS (f : SV) (h : Nat) : Bool := decide (f 1 h = nI 1) && tb (f 0 7) (nI h)
def hdS (f : SV) (h : Nat) : Int32 := bcI (f 4 h ||| f 5 h)
def usS (f : SV) (h : Nat) : Int32 := bcI (f 4 h ||| f 5 h) + (if f 0 13 = nI h then nI 1 else nI 0)
def rmS (f : SV) (h : Nat) : Int32 := if opS f h then f 2 h - usS f h else nI 0
def bhS (f : SV) (p : Nat) : Nat → Option Nat × Int32
  | 0 => (none, nI 0)
  | k + 1 => if rmS f k ≤ (bhS f p k).2 then bhS f p k else if tb (f 4 k ||| f 5 k) (nI p) then bhS f p k else (some k, rmS f k)
def bestO (f : SV) (p : Nat) : Option Nat := (bhS f p 6).1
theorem bhS_lt (f : SV) (p : Nat) : ∀ k h, (bhS f p k).1 = some h → h < k := by
  intro k
  induction k with
  | zero => intro h e; cases e
  | succ k ih =>
    intro h e
    rw [bhS] at e
    split at e
    · exact Nat.lt_succ_of_lt (ih h e)
    · split at e
      · exact Nat.lt_succ_of_lt (ih h e)
      · cases e; exact Nat.lt_succ_self k
theorem bestO_lt {f : SV} {p h : Nat} (e : bestO f p = some h) : h < 6 := bhS_lt f p 6 h e
theorem oNb {f : SV} {p : Nat} : oN (bestO f p) = -1 ↔ (bestO f p).isSome = false := by
  rw [oN_none (fun k hk => by have := bestO_lt hk; omega)]
  cases bestO f p <;> simp
def reS (f : SV) (p : Nat) : Bool := exS f p && decide (¬ cpS f p = 0)
def caddS (f : SV) (p : Nat) : Bool := !(exS f p) && (bestO f p).isSome
def cbegS (f : SV) (h : Nat) : Bool := decide (f 1 h = 0) && tb (f 0 7) (nI h)
def cdetS (f : SV) (h : Nat) : Bool := decide (¬ f 1 h = 0) && tb (f 0 7) (nI h)
def cattS (f : SV) (h : Nat) : Bool := !(tb (f 0 7) (nI h))
def cbrkS (f : SV) (h : Nat) : Bool := decide (¬ f 1 h = 0)
def cadvS (f : SV) (x : Int32) : Bool := !decide (nI 1000000 - f 0 8 < x)
def recS (f : SV) : Nat → Bool
  | 0 => false
  | k + 1 => recS f k || decide (f 1 k = nI 2)
def restS (f : SV) : Bool := !(recS f 6) && decide (f 0 11 = -1)
theorem recS_at {f : SV} {k : Nat} : ∀ n, k < n → f 1 k = nI 2 → recS f n = true := by
  intro n
  induction n with
  | zero => intro h; omega
  | succ n ih =>
    intro h e
    rw [recS]
    by_cases hk : k = n
    · subst hk; simp [e]
    · simp [ih (by omega) e]
def stS (f : SV) (p : Nat) : Int32 := if exS f p then (if bcI (cpS f p) ≤ 0 then (if frS f p 6 = 0 then -2 else nI 0) else (if bcI (cpS f p) = nI 1 then nI 1 else nI 2)) else -1
def cntS (f : SV) (s : Int32) : Nat → Nat
  | 0 => 0
  | k + 1 => if stS f k = s then cntS f s k + 1 else cntS f s k
def poS (f : SV) (s : Int32) : Nat → Int32 × Int32
  | 0 => (nI 0, nI 0)
  | k + 1 => if tb s (nI k) then ((poS f s k).1 ||| f 4 k, (poS f s k).2) else ((poS f s k).1, (poS f s k).2 ||| f 4 k)
def onlyS (f : SV) (s : Int32) : Int32 := bcI ((poS f s 6).1 &&& ((poS f s 6).2 ^^^ (-1)))
def neL (f : SV) (x : Int32) : Nat → Int32
  | 0 => x
  | k + 1 => if f 1 k = nI 2 then (if neL f x k ≤ f 3 k then neL f x k else f 3 k) else neL f x k
def neB (f : SV) (e : Int32) : Int32 := if f 0 11 = -1 then e else if e ≤ f 0 14 then e else f 0 14
def neS (f : SV) (e : Int32) : Int32 := neL f (neB f e) 6
def bitP (p : Nat) : Int32 := nI 1 <<< (nI p &&& 31)
def plS (f : SV) (p : Nat) : SV := match bestO f p with
  | none => f
  | some h => put f 4 h (f 4 h ||| bitP p)
def rlS (f : SV) : Nat → SV
  | 0 => f
  | k + 1 => if rlS f k 1 k = nI 2 then (if tb (rlS f k 0 7) (nI k) then (if hdS (rlS f k) k = 0 then put (rlS f k) 1 k (nI 0) else rlS f k) else rlS f k) else rlS f k
def rkS (f : SV) (h : Nat) (s : Int32) : Int32 :=
  if tb s (nI h) then (if f 1 h = nI 2 then (if s = bitP h then nI 10000000 else nI 30000000) + f 3 h else if s = bitP h then nI 20000000 else nI 90000000) else nI 90000000
def chI (f : SV) (p : Nat) (a : Int32 × Option (Nat × Nat)) : Nat → Int32 × Option (Nat × Nat)
  | 0 => a
  | h + 1 => if (chI f p a h).1 ≤ rkS f h (cpS f p) then chI f p a h else (if (bestO f p).isSome then (rkS f h (cpS f p), some (p, h)) else chI f p a h)
def chL (f : SV) : Nat → Int32 × Option (Nat × Nat)
  | 0 => (nI 90000000, none)
  | p + 1 => chI f p (chL f p) 6
def setT (f : SV) (p h : Nat) : SV := put (put (put (put f 0 13 (oN (bestO f p))) 0 11 (nI p)) 0 12 (nI h)) 0 14 (f 0 8 + f 0 9)
def seS1 (f : SV) : SV := if f 0 11 = -1 then (match (chL f 30).2 with
  | none => f
  | some (p, h) => setT f p h) else f
def seS (f : SV) : SV := seS1 (rlS f 6)
def caS (f : SV) : SV := put (put (put f 0 11 (-1)) 0 12 (-1)) 0 13 (-1)
def ctS (f : SV) (h : Nat) : SV := if f 0 12 = nI h then caS f else if f 0 13 = nI h then caS f else f
def lvS (f : SV) (h : Nat) : SV := put (put (put f 4 h (nI 0)) 5 h (nI 0)) 1 h (nI 0)
def odS (f : SV) (p : Nat) : Nat → SV
  | 0 => f
  | k + 1 => if tb (odS f p k 0 7) (nI k) then odS f p k else put (put (odS f p k) 5 k (odS f p k 5 k ||| (odS f p k 4 k &&& bitP p))) 4 k (odS f p k 4 k &&& (bitP p ^^^ (-1)))
def p2S (f : SV) : Nat → Int32 × Int32
  | 0 => (nI 0, nI 0)
  | k + 1 => if tb (f 0 7) (nI k) then ((p2S f k).1 ||| f 4 k, (p2S f k).2 ||| ((p2S f k).1 &&& f 4 k)) else p2S f k
def adG (f : SV) (p : Nat) (v : Int32) : SV := plS (plS (put (put f 0 6 (f 0 6 ||| bitP p)) 6 p v) p) p
def owG (f : SV) (p : Nat) (v : Int32) : SV := seS (odS (put f 6 p v) p 6)
def drL (f : SV) (p : Nat) : Nat → SV
  | 0 => f
  | k + 1 => put (drL f p k) 4 k (drL f p k 4 k &&& (bitP p ^^^ (-1)))
def drG1 (f : SV) (p : Nat) : SV := put f 0 6 (f 0 6 &&& (bitP p ^^^ (-1)))
def drG2 (f : SV) (p : Nat) : SV := if f 0 11 = nI p then caS f else f
def drG (f : SV) (p : Nat) : SV := seS (drG2 (drG1 (drL (odS f p 6) p 6) p) p)
def sumS (f : SV) : Nat → Int32
  | 0 => nI 0
  | k + 1 => sumS f k + rmS f k
def beG (f : SV) (h : Nat) (c : Int32) : SV := put (put f 1 h (nI 1)) 2 h c
def cbG1 (f : SV) (h : Nat) (x : Int32) : SV := put (put f 1 h (nI 2)) 3 h (put f 1 h (nI 2) 0 8 + x)
def cbG (f : SV) (h : Nat) (x : Int32) : SV := seS (if (cbG1 f h x) 0 13 = nI h then caS (cbG1 f h x) else cbG1 f h x)
def deG (f : SV) (h : Nat) : SV := seS (ctS (put f 0 7 (f 0 7 &&& (bitP h ^^^ (-1)))) h)
def suS (f : SV) (h : Nat) : Int32 := f 5 h ||| (f 4 h &&& (p2S f 6).2)
def atG (f : SV) (h : Nat) : SV := seS (put (put (put f 0 7 (f 0 7 ||| bitP h)) 4 h (f 4 h &&& (suS f h ^^^ (-1)))) 5 h (nI 0))
def brG1 (f : SV) (h : Nat) : SV := put (lvS f h) 0 7 (lvS f h 0 7 ||| bitP h)
def brG (f : SV) (h : Nat) : SV := seS (ctS (brG1 f h) h)
def ixN (x : Int32) : Nat := x.toNatClampNeg
def coG1 (f : SV) : SV := put (caS f) 0 10 (caS f 0 10 + nI 1)
def coG2 (f : SV) (p s t : Nat) : SV := if f 1 s = nI 2 then put (put f 4 s (f 4 s &&& (bitP p ^^^ (-1)))) 4 t (put f 4 s (f 4 s &&& (bitP p ^^^ (-1))) 4 t ||| bitP p) else if bcI (cpS f p) = nI 1 then put f 4 t (f 4 t ||| bitP p) else f
def coG (f : SV) : SV := if isR (f 0 11) 30 then (if isR (f 0 12) 6 then (if isR (f 0 13) 6 then coG2 (coG1 f) (ixN (f 0 11)) (ixN (f 0 12)) (ixN (f 0 13)) else coG1 f) else coG1 f) else coG1 f
def exL (f : SV) : Nat → SV
  | 0 => f
  | k + 1 => if exL f k 1 k = nI 2 then (if exL f k 3 k = exL f k 0 8 then ctS (lvS (exL f k) k) k else exL f k) else exL f k
def evG1 (f : SV) (e : Int32) : SV := put f 0 8 (neS f e)
def evG2 (f : SV) : SV := if f 0 11 = -1 then f else if f 0 14 = f 0 8 then coG f else f
def evG (f : SV) (e : Int32) : SV := seS (exL (evG2 (evG1 f e)) 6)
def avG (e : Int32) : Nat → SV → SV
  | 0, f => f
  | n + 1, f => if e ≤ f 0 8 then f else avG e n (evG f e)
theorem isR_n {x : Int32} {n : Nat} (h : isR x n = true) (hn : n ≤ 1000) : x = nI (ixN x) ∧ ixN x < n := by
  simp only [isR, Bool.and_eq_true, decide_eq_true_eq] at h
  obtain ⟨h1, h2⟩ := h
  obtain ⟨j, hj, e⟩ := nI_of h1
  subst e
  have h3 : ixN (nI j) = j := nI_clamp hj
  rw [h3]
  refine ⟨rfl, ?_⟩
  rcases Nat.lt_or_ge j n with h4 | h4
  · exact h4
  · exact absurd (nI_le h4 hj) h2
theorem chI_in {f : SV} {p : Nat} {a : Int32 × Option (Nat × Nat)} {P H : Nat} : ∀ h, (chI f p a h).2 = some (P, H) → a.2 = some (P, H) ∨ (P = p ∧ H < h) := by
  intro h
  induction h with
  | zero => intro e; exact Or.inl e
  | succ h ih =>
    intro e
    rw [chI] at e
    split at e
    · rcases ih e with h1 | h1
      · exact Or.inl h1
      · exact Or.inr ⟨h1.1, by omega⟩
    · split at e
      · cases e; exact Or.inr ⟨rfl, by omega⟩
      · rcases ih e with h1 | h1
        · exact Or.inl h1
        · exact Or.inr ⟨h1.1, by omega⟩
theorem chL_in {f : SV} {P H : Nat} : ∀ p, (chL f p).2 = some (P, H) → P < p ∧ H < 6 := by
  intro p
  induction p with
  | zero => intro e; cases e
  | succ p ih =>
    intro e
    rw [chL] at e
    rcases chI_in 6 e with h1 | h1
    · have := ih h1; omega
    · omega
def o1 (o : Option (Nat × Nat)) : Int32 := match o with
  | none => -1
  | some q => nI q.1
def o2 (o : Option (Nat × Nat)) : Int32 := match o with
  | none => -1
  | some q => nI q.2
theorem plS_n {f : SV} {p : Nat} (hb : bestO f p = none) : plS f p = f := by unfold plS; rw [hb]
theorem plS_s {f : SV} {p h : Nat} (hb : bestO f p = some h) : plS f p = put f 4 h (f 4 h ||| bitP p) := by unfold plS; rw [hb]
