/-! what the pool's queries answer, in words of its state f -/
/-- how far the forecast goes at once -/
def rsD (g : SV) (e : Int32) : Int32 := neS g e - g 0 8
def rsG (f : SV) (e : Int32) : Nat → SV
  | 0 => f
  | k + 1 => avG (rsG f e k 0 8 + nI (cN (rsD (rsG f e k) e))) (cN (rsD (rsG f e k) e)) (rsG f e k)
theorem pSw {G : Nat → Nat → Int32} {f g : SV} {r w : Nat} (h : 8 ≤ r) : patch (patch G r w g) 1 7 f = patch (patch G 1 7 f) r w g := by
  funext k
  by_cases h1 : 1 ≤ k ∧ k < 1 + 7
  · rw [patch_out (r := r) (w := w) (k := k) (Or.inl (by omega))]
    unfold patch
    rw [if_pos h1, if_pos h1]
  · rw [patch_out (r := 1) (w := 7) (k := k) (by omega)]
    by_cases h2 : r ≤ k ∧ k < r + w
    · unfold patch; rw [if_pos h2, if_pos h2]
    · rw [patch_out (by omega), patch_out (by omega), patch_out (by omega)]
theorem mSw {G : Nat → Nat → Int32} {f g : SV} {r w : Nat} {T : (Nat → Nat) × Int64} (h : 8 ≤ r) : (patch (patch G r w g) 1 7 f, T) = (patch (patch G 1 7 f) r w g, T) := by rw [pSw h]
theorem mSx {G : Nat → Nat → Int32} {f g : SV} {r w : Nat} {T : (Nat → Nat) × Int64} (h : 8 ≤ r) : (patch (patch G 1 7 f) r w g, T) = (patch (patch G r w g) 1 7 f, T) := by rw [pSw h]
/-- the copy of the state into another, ready for calls on that other -/
theorem mVw {G : Nat → Nat → Int32} {f : SV} {r : Nat} {T : (Nat → Nat) × Int64} (h : 8 ≤ r) : (patch (patch G 1 7 f) r 7 (view (patch G 1 7 f) 1), T) = (patch (patch G 1 7 f) r 7 f, T) := by rw [pV h, pSw h]
theorem pRv {G : Nat → Nat → Int32} {r w : Nat} {T : (Nat → Nat) × Int64} : (G, T) = (patch G r w (view G r), T) := by rw [patch_view]
/-- may the letter's command be done in f -/
def calT (f : SV) (c p : Nat) : Bool :=
  if c = 115 then caddS f p else if c = 119 then reS f p else if c = 100 then exS f p else if c = 108 then cbegS f p else if c = 114 then opS f p
  else if c = 111 then cdetS f p else if c = 99 then cattS f p else if c = 120 then cbrkS f p else cadvS f (nI p)
def exeT (f : SV) (c p : Nat) (y : Int32) : SV :=
  if c = 115 then seS (adG f p y) else if c = 119 then owG f p y else if c = 100 then drG f p else if c = 108 then seS (beG f p y) else if c = 114 then cbG f p y
  else if c = 111 then deG f p else if c = 99 then atG f p else if c = 120 then brG f p else avG (f 0 8 + nI p) p f
