/-! the reader of commands: f 0 0 letter, f 0 1 first, f 0 2 second, f 0 3 whether on the second number -/
def rTwo (f : SV) : Bool := if f 0 0 = nI 115 then true else if f 0 0 = nI 119 then true else if f 0 0 = nI 108 then true else if f 0 0 = nI 114 then true else false
def rPage (f : SV) : Bool := if f 0 0 = nI 115 then true else if f 0 0 = nI 119 then true else if f 0 0 = nI 100 then true else false
def rCmp (f : SV) : Bool := if rTwo f then (if f 0 2 = -1 then false else true) else (if f 0 1 = -1 then false else true)
def rLeast (f : SV) : Int32 := if f 0 0 = nI 116 then nI 1 else if f 0 3 = 0 then nI 0 else if rPage f then nI 0 else nI 1
def rMost (f : SV) : Int32 := if f 0 0 = nI 116 then nI 600 else if f 0 3 = 0 then (if rPage f then nI 29 else nI 5) else if f 0 0 = nI 114 then nI 600 else if rPage f then nI 9999 else nI 20
def rRes (f : SV) : SV := put (put (put (put f 0 0 (nI 0)) 0 1 (-1)) 0 2 (-1)) 0 3 (nI 0)
def rBef (f : SV) : Int32 := if f 0 3 = 0 then f 0 1 else f 0 2
def rNum (f : SV) (d : Int32) : Int32 := if rBef f = -1 then d else nI 10 * rBef f + d
def rDigP (f : SV) (d : Int32) : SV := if f 0 3 = 0 then put f 0 1 (rNum f d) else put f 0 2 (rNum f d)
def rDig (f : SV) (d : Int32) : Bool := if rBef f = 0 then false else if rNum f d < rLeast f then false else if rNum f d ≤ rMost f then true else false
def isLet (c : Nat) : Bool := decide (c = 99 ∨ c = 100 ∨ c = 108 ∨ c = 111 ∨ c = 114 ∨ c = 115 ∨ c = 116 ∨ c = 119 ∨ c = 120)
def rAccB (f : SV) (c : Nat) : Bool :=
  if f 0 0 = 0 then isLet c
  else if 48 ≤ c ∧ c ≤ 57 then rDig f (nI c - nI 48)
  else if c = 44 ∧ rTwo f = true ∧ ¬ f 0 1 = -1 ∧ f 0 3 = 0 then true
  else if c = 59 ∧ rCmp f = true then true else false
def rAccP (f : SV) (c : Nat) : SV :=
  if f 0 0 = 0 then (if isLet c then put f 0 0 (nI c) else f)
  else if 48 ≤ c ∧ c ≤ 57 then (if rDig f (nI c - nI 48) then rDigP f (nI c - nI 48) else f)
  else if c = 44 ∧ rTwo f = true ∧ ¬ f 0 1 = -1 ∧ f 0 3 = 0 then put f 0 3 (nI 1)
  else if c = 59 ∧ rCmp f = true then rRes f else f
theorem isLet_o {c : Nat} (ho : c < 99 ∨ 120 < c) : isLet c = false := by simp [isLet]; omega
