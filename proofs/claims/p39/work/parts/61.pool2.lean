/-! the pool's run of a text -/
theorem rmR_ge {T : (Nat → Nat) × Int64} {m : Nat} (hT : ∀ i, i < 6 → isV (T.1 i)) : 19 ≤ rmR T m ∧ rmR T m ≤ 54 := by
  unfold rmR
  split
  · rename_i h; exact (isV_B (hT m h)).2
  · exact (isV_B (hT 0 (by decide))).2
theorem pRm {G : Nat → Nat → Int32} {f g : SV} {T : (Nat → Nat) × Int64} {m : Nat} (hr : 19 ≤ rmR T m) : rmG (patch G 18 1 g) f T m = patch (rmG G f T m) 18 1 g := by
  funext k j
  unfold rmG
  by_cases h1 : 18 ≤ k ∧ k < 18 + 1
  · rw [put_n (by omega), patch_out (r := rmR T m) (by omega)]
    unfold patch
    rw [if_pos h1, if_pos h1]
  · rw [patch_out (r := 18) (w := 1) (g := put (patch G (rmR T m) 7 f) 0 3 (nI (rmN m))) (by omega), put_at, put_at]
    split
    · rfl
    · by_cases h2 : rmR T m ≤ k ∧ k < rmR T m + 7
      · unfold patch; rw [if_pos h2, if_pos h2]
      · rw [patch_out (by omega), patch_out (by omega), patch_out (by omega)]
theorem rm_0 {G : Nat → Nat → Int32} {f : SV} {T : (Nat → Nat) × Int64} {m j : Nat} (hr : 19 ≤ rmR T m) (hj : j ≠ 3) : rmG G f T m 0 j = G 0 j := by
  unfold rmG
  rw [put_at, if_neg (by omega), patch_out (by omega)]
theorem rm_k {G : Nat → Nat → Int32} {f : SV} {T : (Nat → Nat) × Int64} {m k : Nat} (hr : 19 ≤ rmR T m) (h0 : k ≠ 0) (hk : k < 19) : rmG G f T m k = G k := by
  unfold rmG
  rw [put_n (by omega), patch_out (by omega)]
