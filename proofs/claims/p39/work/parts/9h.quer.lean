/-! the queries agree -/
/-! the worst pair -/
/-! a call of pass -/
theorem adv_iff {f : SV} {s : NV} {t k : Nat} (hS : Sim f s 0) (h0 : s 0 = nI t) (ht : t ≤ 1000000) (hk : k ≤ 600) : (cadvS f (nI k) = true ↔ t + k ≤ 1000000) ∧ (s 0 + nI k ≤ nI 1000000 ↔ t + k ≤ 1000000) ∧ (¬ nI 1000000 < s 0 + nI k ↔ t + k ≤ 1000000) := by
  have e8 : f 0 8 = nI t := hS.a.1.1.trans h0
  refine ⟨?_, ?_, ?_⟩
  · unfold cadvS
    rw [e8, pk_sub ht, Bool.not_eq_true', decide_eq_false_iff_not]
    rw [nI_ltI (by omega) (by omega)]
    omega
  · rw [h0, nI_add, nI_leI (by omega) (by omega)]
  · rw [h0, nI_add, nI_ltI (by omega) (by omega)]
    omega
