/-! the model's memory: its fields, its text and flags F, its numbers s -/
abbrev NV : Type := Nat → Int32
def mS (F : SV) (s : NV) : SV := setRow F 1 s
theorem mS_1 {F : SV} {s : NV} : mS F s 1 = s := rfl
theorem mS_n {F : SV} {s : NV} {k : Nat} (h : k ≠ 1) : mS F s k = F k := if_neg h
theorem mS_put1 {F : SV} {s : NV} {i : Nat} {v : Int32} : put (mS F s) 1 i v = mS F (upd s i v) := by
  funext k
  by_cases h : k = 1
  · subst h; rw [put_s, mS_1, mS_1]
  · rw [put_n h, mS_n h, mS_n h]
theorem mS_put {F : SV} {s : NV} {a i : Nat} {v : Int32} (ha : a ≠ 1) : put (mS F s) a i v = mS (put F a i v) s := by
  funext k
  by_cases h : k = 1
  · subst h; rw [put_n (Ne.symm ha), mS_1, mS_1]
  · rw [mS_n h]
    by_cases h2 : k = a
    · subst h2; rw [put_s, put_s, mS_n h]
    · rw [put_n h2, put_n h2, mS_n h]
theorem mS_self {F : SV} : mS F (F 1) = F := by
  funext k
  by_cases h : k = 1
  · subst h; rfl
  · rw [mS_n h]
theorem nI_div {a d : Nat} (ha : a < 2147483648) (h0 : 0 < d) (hd : d < 2147483648) : nI a / nI d = nI (a / d) := pk_div ha h0 hd
theorem nI_rem {a d : Nat} (ha : a < 2147483648) (h0 : 0 < d) (hd : d < 2147483648) : nI a - nI a / nI d * nI d = nI (a % d) := pk_rem ha h0 hd
/-! what the methods of the model answer, in words of its numbers s and a block's base b -/
def ofM (s : NV) (b h w : Nat) : Int32 := s (b + 8 + 4 * h + w)
def rpM (s : NV) (b h p : Nat) : Int32 := s (b + 92 + 30 * h + p)
def thM (s : NV) (b p : Nat) : Bool := decide (¬ s (b + 32 + p) ≤ 0)
def fsM (s : NV) (b h p : Nat) : Bool := thM s b p && decide (rpM s b h p = s (b + 32 + p))
def cpMb (s : NV) (b p h : Nat) : Bool := decide (ofM s b h 1 = nI 1) && decide (¬ rpM s b h p ≤ 0)
def cpML (s : NV) (b p : Nat) : Nat → Int32
  | 0 => nI 0
  | k + 1 => cpML s b p k ||| (if cpMb s b p k then nI 1 <<< (nI k &&& 31) else nI 0)
def cpM (s : NV) (b p : Nat) : Int32 := cpML s b p 6
def onL (x : Int32) : Nat → Int32
  | 0 => nI 0
  | k + 1 => onL x k + ((x >>> (nI k &&& 31)) &&& nI 1)
def onM (x : Int32) : Int32 := onL x 6
def hdL (s : NV) (b h : Nat) : Nat → Nat
  | 0 => 0
  | p + 1 => hdL s b h p + (if rpM s b h p ≤ 0 then 0 else 1)
def hdM (s : NV) (b h : Nat) : Nat := hdL s b h 30
def usM (s : NV) (b h : Nat) : Nat := hdM s b h + (if s (b + 4) = -1 then 0 else if s (b + 6) = nI h then 1 else 0)
def leM (s : NV) (b h : Nat) : Bool := decide (ofM s b h 0 = nI 1) && decide (ofM s b h 1 = nI 1)
def feM (s : NV) (b h : Nat) : Int32 := if leM s b h then ofM s b h 2 - nI (usM s b h) else nI 0
def rbM (s : NV) (b p h : Nat) : Int32 := if rpM s b h p ≤ 0 then feM s b h else nI 0
def bhM (s : NV) (b p : Nat) : Nat → Option Nat × Int32
  | 0 => (none, nI 0)
  | k + 1 => if rbM s b p k ≤ (bhM s b p k).2 then bhM s b p k else (some k, rbM s b p k)
def boM (s : NV) (b p : Nat) : Option Nat := (bhM s b p 6).1
def fsL (s : NV) (b p : Nat) : Nat → Bool
  | 0 => false
  | k + 1 => fsL s b p k || fsM s b k p
def stM (s : NV) (b p : Nat) : Int32 := if onM (cpM s b p) ≤ 0 then (if fsL s b p 6 then nI 0 else -2) else if onM (cpM s b p) ≤ nI 1 then nI 1 else nI 2
def ctL (s : NV) (b : Nat) (x : Int32) : Nat → Nat
  | 0 => 0
  | p + 1 => ctL s b x p + (if thM s b p then (if stM s b p = x then 1 else 0) else 0)
def clL (s : NV) (b h : Nat) : Nat → NV
  | 0 => s
  | p + 1 => upd (clL s b h p) (b + 92 + 30 * h + p) (nI 0)
def clM (s : NV) (b h : Nat) : NV := clL s b h 30
def caM (s : NV) (b h : Nat) (src : Bool) : NV := upd s (b + 4) (if s (b + 6) = nI h then -1 else if src = true ∧ s (b + 5) = nI h then -1 else s (b + 4))
def clsM (s : NV) (b p h : Nat) : Nat :=
  if ((cpM s b p >>> (nI h &&& 31)) &&& nI 1) = 0 then 0 else if (boM s b p).isNone then 0
  else if onM (cpM s b p) = nI 1 then (if ofM s b h 0 = nI 2 then 1 else 2) else if ofM s b h 0 = nI 2 then 3 else 0
def dlM (s : NV) (b k : Nat) : Int32 := if clsM s b (k / 6) (k % 6) = 2 then nI 0 else ofM s b (k % 6) 3
def btM (s : NV) (b k least : Nat) (e : Int32) : Bool :=
  if clsM s b (k / 6) (k % 6) = 0 then false else if clsM s b (k / 6) (k % 6) < least then true else if clsM s b (k / 6) (k % 6) = least then (if e ≤ dlM s b k then false else true) else false
def chM (s : NV) (b : Nat) : Nat → (Nat × Int32) × NV
  | 0 => ((4, nI 0), s)
  | k + 1 => if btM (chM s b k).2 b k (chM s b k).1.1 (chM s b k).1.2 then ((clsM (chM s b k).2 b (k / 6) (k % 6), dlM (chM s b k).2 b k), upd (upd (chM s b k).2 (b + 5) (nI (k % 6))) (b + 7) (nI (k / 6))) else chM s b k
def rsM (s : NV) (b : Nat) : Nat → NV
  | 0 => s
  | k + 1 => upd (rsM s b k) (b + 8 + 4 * k + 0) (if ofM (rsM s b k) b k 0 = nI 2 then (if ofM (rsM s b k) b k 1 = nI 1 then (if nI (hdM (rsM s b k) b k) = 0 then nI 0 else ofM (rsM s b k) b k 0) else ofM (rsM s b k) b k 0) else ofM (rsM s b k) b k 0)
theorem clsM_lt {s : NV} {b p h : Nat} : clsM s b p h ≤ 3 := by
  unfold clsM
  (repeat' split) <;> omega
theorem hdL_le {s : NV} {b h : Nat} : ∀ n, hdL s b h n ≤ n := by
  intro n
  induction n with
  | zero => exact Nat.le_refl 0
  | succ n ih => rw [hdL]; split <;> omega
theorem hdM_le {s : NV} {b h : Nat} : hdM s b h ≤ 30 := hdL_le 30
theorem usM_le {s : NV} {b h : Nat} : usM s b h ≤ 31 := by
  unfold usM
  have := hdM_le (s := s) (b := b) (h := h)
  (repeat' split) <;> omega
theorem bhM_lt {s : NV} {b p : Nat} : ∀ k h, (bhM s b p k).1 = some h → h < k := by
  intro k
  induction k with
  | zero => intro h e; cases e
  | succ k ih =>
    intro h e
    rw [bhM] at e
    split at e
    · exact Nat.lt_succ_of_lt (ih h e)
    · cases e; exact Nat.lt_succ_self k
theorem boM_lt {s : NV} {b p h : Nat} (e : boM s b p = some h) : h < 6 := bhM_lt 6 h e
theorem oNm {s : NV} {b p : Nat} : oN (boM s b p) = -1 ↔ (boM s b p).isNone = true := by
  rw [oN_none (fun k hk => by have := boM_lt hk; omega)]
  cases boM s b p <;> simp
theorem fsL_at {s : NV} {b p k : Nat} : ∀ n, k < n → fsM s b k p = true → fsL s b p n = true := by
  intro n
  induction n with
  | zero => intro h; omega
  | succ n ih =>
    intro h e
    rw [fsL]
    by_cases hk : k = n
    · subst hk; simp [e]
    · simp [ih (by omega) e]
theorem chM_lt {s : NV} {b : Nat} : ∀ k, (chM s b k).1.1 ≤ 4 := by
  intro k
  induction k with
  | zero => exact Nat.le_refl 4
  | succ k ih =>
    rw [chM]
    split
    · have := clsM_lt (s := (chM s b k).2) (b := b) (p := k / 6) (h := k % 6)
      show clsM _ _ _ _ ≤ 4
      omega
    · exact ih
theorem chM_pg {s : NV} {b : Nat} : ∀ k, k ≤ 180 → (chM s b k).1.1 < 4 → ∃ P, P < 30 ∧ (chM s b k).2 (b + 7) = nI P := by
  intro k
  induction k with
  | zero => intro _ h; exact absurd h (Nat.lt_irrefl 4)
  | succ k ih =>
    intro hk h
    rw [chM] at h ⊢
    split
    · refine ⟨k / 6, by omega, ?_⟩
      show upd _ (b + 7) _ (b + 7) = _
      rw [pk_us]
    · rename_i hn
      rw [if_neg hn] at h
      exact ih (by omega) h
def cg2 (s : NV) (b P : Nat) : NV := upd (upd s (b + 6) (oN (boM s b P))) (b + 4) (nI P)
def cg3 (s : NV) (b P : Nat) : NV := upd (cg2 s b P) (b + 7) (cg2 s b P (b + 0) + cg2 s b P (b + 2))
def cgM (s : NV) (b : Nat) : NV := if (chM s b 180).1.1 < 4 then cg3 (chM s b 180).2 b (ixN ((chM s b 180).2 (b + 7))) else (chM s b 180).2
def seM (s : NV) (b : Nat) : NV := if rsM s b 6 (b + 4) = -1 then cgM (rsM s b 6) b else rsM s b 6
def lrM (s : NV) (b h p : Nat) (v : Int32) : NV := upd s (b + 92 + 30 * h + p) v
def laM (s : NV) (b h w : Nat) (v : Int32) : NV := upd s (b + 8 + 4 * h + w) v
def co2 (s : NV) (b : Nat) : NV := upd (upd s (b + 4) (-1)) (b + 3) (upd s (b + 4) (-1) (b + 3) + nI 1)
def co1 (s : NV) (b P S U : Nat) : NV := if ofM s b S 0 = nI 2 then lrM (lrM s b U P (s (b + 32 + P))) b S P (nI 0) else if onM (cpM s b P) = nI 1 then lrM s b U P (s (b + 32 + P)) else s
def coM (s : NV) (b : Nat) : NV := co2 (co1 s b (ixN (s (b + 4))) (ixN (s (b + 5))) (ixN (s (b + 6)))) b
def tkM (s : NV) (b : Nat) : NV := upd s (b + 0) (s (b + 0) + nI 1)
def evM (s : NV) (b : Nat) : NV := if s (b + 4) = -1 then s else if s (b + 7) = s (b + 0) then coM s b else s
def exM (s : NV) (b : Nat) : Nat → NV
  | 0 => s
  | k + 1 => if ofM (exM s b k) b k 0 = nI 2 then (if ofM (exM s b k) b k 3 = exM s b k (b + 0) then caM (laM (clM (exM s b k) b k) b k 0 (nI 0)) b k true else exM s b k) else exM s b k
def spM (s : NV) (b : Nat) : NV := seM (exM (evM (tkM s b) b) b 6) b
def trOK (s : NV) (b : Nat) : Prop := ¬ s (b + 4) = -1 → isR (s (b + 4)) 30 = true ∧ isR (s (b + 5)) 6 = true ∧ isR (s (b + 6)) 6 = true
theorem chM_no {s : NV} {b k : Nat} (h : btM (chM s b k).2 b k (chM s b k).1.1 (chM s b k).1.2 = false) : chM s b (k + 1) = chM s b k := by rw [chM, h]; rfl
theorem chM_yes {s : NV} {b k : Nat} (h : btM (chM s b k).2 b k (chM s b k).1.1 (chM s b k).1.2 = true) : chM s b (k + 1) = ((clsM (chM s b k).2 b (k / 6) (k % 6), dlM (chM s b k).2 b k), upd (upd (chM s b k).2 (b + 5) (nI (k % 6))) (b + 7) (nI (k / 6))) := by rw [chM, h]; rfl
