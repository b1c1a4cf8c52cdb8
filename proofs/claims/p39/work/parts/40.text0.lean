theorem ni_sub {a b : Nat} (h : b ≤ a) : nI a - nI b = nI (a - b) := by
  have h1 : nI (a - b) + nI b = nI a := by rw [nI_add]; congr 1; omega
  rw [← h1, Int32.add_sub_cancel]
theorem ni_sub' {x y : Int32} {a b : Nat} (hx : x = nI a) (hy : y = nI b) (h : b ≤ a) : x - y = nI (a - b) := by rw [hx, hy, ni_sub h]
theorem inB_n {a b c : Nat} (ha : a < 2147483648) (hb : b < 2147483648) (hc : c < 2147483648) : inB (nI a) (nI b) (nI c) = decide (b ≤ a ∧ a ≤ c) := by
  unfold inB
  by_cases h1 : a < b
  · rw [if_pos (ni_lt h1 hb)]; symm; rw [decide_eq_false_iff_not]; omega
  · rw [if_neg (ni_nlt (by omega) ha)]
    by_cases h2 : c < a
    · rw [if_pos (ni_lt h2 ha)]; symm; rw [decide_eq_false_iff_not]; omega
    · rw [if_neg (ni_nlt (by omega) hc)]; symm; rw [decide_eq_true_iff]; omega
theorem inB_t {a b c : Nat} (ha : a < 2147483648) (hb : b < 2147483648) (hc : c < 2147483648) : inB (nI a) (nI b) (nI c) = true ↔ b ≤ a ∧ a ≤ c := by
  rw [inB_n ha hb hc, decide_eq_true_iff]
theorem inB_f {a b c : Nat} (ha : a < 2147483648) (hb : b < 2147483648) (hc : c < 2147483648) : inB (nI a) (nI b) (nI c) = false ↔ ¬ (b ≤ a ∧ a ≤ c) := by
  rw [inB_n ha hb hc, decide_eq_false_iff_not]
def cN (x : Int32) : Nat := x.toInt.toNat
theorem cN_n {k : Nat} (hk : k < 2147483648) : cN (nI k) = k := by unfold cN; rw [nI_toInt hk]; omega
