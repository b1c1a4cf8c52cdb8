/-! the pool's run of a text -/
theorem rmR_ge {T : (Nat → Nat) × Int64} {m : Nat} (hT : ∀ i, i < 6 → isV (T.1 i)) : 19 ≤ rmR T m ∧ rmR T m ≤ 54 := by
  unfold rmR
  split
  · rename_i h; exact (isV_B (hT m h)).2
  · exact (isV_B (hT 0 (by decide))).2
theorem pRm {G : Nat → Nat → Int32} {f g : SV} {T : (Nat → Nat) × Int64} {m : Nat} (hr : 19 ≤ rmR T m) : rmG (patch G 18 1 g) f T m = patch (rmG G f T m) 18 1 g := by
  funext k j
  unfold rmG
  by_cases h1 : 18 ≤ k ∧ k < 18 + 1
  · rw [put_n (by omega), patch_out (r := rmR T m) (by omega)]
    unfold patch
    rw [if_pos h1, if_pos h1]
  · rw [patch_out (r := 18) (w := 1) (g := put (patch G (rmR T m) 7 f) 0 3 (nI (rmN m))) (by omega), put_at, put_at]
    split
    · rfl
    · by_cases h2 : rmR T m ≤ k ∧ k < rmR T m + 7
      · unfold patch; rw [if_pos h2, if_pos h2]
      · rw [patch_out (by omega), patch_out (by omega), patch_out (by omega)]
theorem mRm {G : Nat → Nat → Int32} {f g : SV} {T T' : (Nat → Nat) × Int64} {m : Nat} (hr : 19 ≤ rmR T m) : (patch (rmG (patch G 18 1 g) f T m) 1 7 f, T') = (patch (patch (rmG G f T m) 1 7 f) 18 1 g, T') := by rw [pRm hr, pSw (by decide)]
theorem rm_0 {G : Nat → Nat → Int32} {f : SV} {T : (Nat → Nat) × Int64} {m j : Nat} (hr : 19 ≤ rmR T m) (hj : j ≠ 3) : rmG G f T m 0 j = G 0 j := by
  unfold rmG
  rw [put_at, if_neg (by omega), patch_out (by omega)]
theorem rm_k {G : Nat → Nat → Int32} {f : SV} {T : (Nat → Nat) × Int64} {m k : Nat} (hr : 19 ≤ rmR T m) (h0 : k ≠ 0) (hk : k < 19) : rmG G f T m k = G k := by
  unfold rmG
  rw [put_n (by omega), patch_out (by omega)]
abbrev RU : Type := SV × SV × Nat
def ruP (L : Nat) (tx : Nat → Nat) (f g : SV) : Nat → RU
  | 0 => (f, rRes g, 0)
  | k + 1 => if k < L ∧ tx k ≠ 59 then ((ruP L tx f g k).1, rAccP (ruP L tx f g k).2.1 (tx k), (ruP L tx f g k).2.2)
    else (exeT (ruP L tx f g k).1 (cN ((ruP L tx f g k).2.1 0 0)) (cN ((ruP L tx f g k).2.1 0 1)) ((ruP L tx f g k).2.1 0 2), rRes (ruP L tx f g k).2.1, (ruP L tx f g k).2.2 + 1)
theorem ruP_a {L : Nat} {tx : Nat → Nat} {f g : SV} {k : Nat} (h1 : k < L) (h2 : tx k ≠ 59) : ruP L tx f g (k + 1) = ((ruP L tx f g k).1, rAccP (ruP L tx f g k).2.1 (tx k), (ruP L tx f g k).2.2) := by
  rw [ruP, if_pos ⟨h1, h2⟩]
theorem ruP_e {L : Nat} {tx : Nat → Nat} {f g : SV} {k c p : Nat} (h1 : L ≤ k ∨ tx k = 59) (hc : (ruP L tx f g k).2.1 0 0 = nI c) (hp : (ruP L tx f g k).2.1 0 1 = nI p) (ht : tOK c p) : ruP L tx f g (k + 1) = (exeT (ruP L tx f g k).1 c p ((ruP L tx f g k).2.1 0 2), rRes (ruP L tx f g k).2.1, (ruP L tx f g k).2.2 + 1) := by
  unfold tOK at ht
  rw [ruP, if_neg (by omega), hc, hp, cN_n (by omega), cN_n (by omega)]
/-- the command behind k signs is well read, and b says whether it may be done -/
def cmP (u : RU) (b : Bool) : Prop := ∃ c p, u.2.1 0 0 = nI c ∧ u.2.1 0 1 = nI p ∧ tOK c p ∧ calT u.1 c p = b
