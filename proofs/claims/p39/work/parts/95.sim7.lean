/-! ranks compare as class and deadline do -/
theorem rkN_n {c x : Nat} (hc : 1 ≤ c ∧ c ≤ 3) (h2 : c = 2 → x = 0) : rkN c (nI x) = nI (10000000 * c + x) := by
  have : c = 1 ∨ c = 2 ∨ c = 3 := by omega
  rcases this with rfl | rfl | rfl
  · unfold rkN; rw [if_pos rfl, nI_add]
  · unfold rkN; rw [if_neg (by decide), if_pos rfl, h2 rfl]
  · unfold rkN; rw [if_neg (by decide), if_neg (by decide), if_pos rfl, nI_add]
theorem rk_cmp {c l x y : Nat} (hc : 1 ≤ c ∧ c ≤ 3) (hl : 1 ≤ l ∧ l ≤ 3) (hx : x ≤ 2000000) (hy : y ≤ 2000000) (h2 : c = 2 → x = 0) (h3 : l = 2 → y = 0) : rkN l (nI y) ≤ rkN c (nI x) ↔ ¬ (c < l ∨ (c = l ∧ x < y)) := by
  rw [rkN_n hc h2, rkN_n hl h3, nI_leI (by omega) (by omega)]
  omega
theorem rk_top {c x : Nat} (hc : 1 ≤ c ∧ c ≤ 3) (hx : x ≤ 2000000) (h2 : c = 2 → x = 0) : ¬ nI 90000000 ≤ rkN c (nI x) := by
  rw [rkN_n hc h2, nI_leI (by omega) (by omega)]
  omega
