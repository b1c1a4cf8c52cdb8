/-! what the methods of State answer, in words of its seven cells: f 0 its ints (6 existing, 7 connected, 8 now, 9 transferTime, 10 completed, 11 page, 12 source, 13 target, 14 due), f 1 mode, f 2 capacity, f 3 deadline, f 4 fresh, f 5 stale, f 6 value -/
abbrev SV : Type := Nat → Nat → Int32
def tb (s m : Int32) : Bool := decide (¬ ((s >>> (m &&& 31)) &&& nI 1) = 0)
def ush (x y : Int32) : Int32 := (x.toUInt32 >>> (y.toUInt32 &&& Int32.toUInt32 31)).toInt32
def bc1 (i : Int32) : Int32 := i - (ush i (nI 1) &&& nI 1431655765)
def bc2 (i : Int32) : Int32 := (i &&& nI 858993459) + (ush i (nI 2) &&& nI 858993459)
def bc3 (i : Int32) : Int32 := (i + ush i (nI 4)) &&& nI 252645135
def bc4 (i : Int32) : Int32 := i + ush i (nI 8)
def bc5 (i : Int32) : Int32 := i + ush i (nI 16)
def bcI (i : Int32) : Int32 := bc5 (bc4 (bc3 (bc2 (bc1 i)))) &&& nI 63
def isR (x : Int32) (n : Nat) : Bool := decide (¬ x < 0) && decide (¬ nI n ≤ x)
def exS (f : SV) (p : Nat) : Bool := tb (f 0 6) (nI p)
def frS (f : SV) (p : Nat) : Nat → Int32
  | 0 => nI 0
  | k + 1 => frS f p k ||| (((f 4 k >>> (nI p &&& 31)) &&& nI 1) <<< (nI k &&& 31))
def cpS (f : SV) (p : Nat) : Int32 := frS f p 6 &&& f 0 7
def opS (f : SV) (h : Nat) : Bool := decide (f 1 h = nI 1) && tb (f 0 7) (nI h)
def hdS (f : SV) (h : Nat) : Int32 := bcI (f 4 h ||| f 5 h)
def usS (f : SV) (h : Nat) : Int32 := bcI (f 4 h ||| f 5 h) + (if f 0 13 = nI h then nI 1 else nI 0)
def rmS (f : SV) (h : Nat) : Int32 := if opS f h then f 2 h - usS f h else nI 0
def bhS (f : SV) (p : Nat) : Nat → Int32 × Int32
  | 0 => (-1, nI 0)
  | k + 1 => if rmS f k ≤ (bhS f p k).2 then bhS f p k else if tb (f 4 k ||| f 5 k) (nI p) then bhS f p k else (nI k, rmS f k)
def bestS (f : SV) (p : Nat) : Int32 := (bhS f p 6).1
