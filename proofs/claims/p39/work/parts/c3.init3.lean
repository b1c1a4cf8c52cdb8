/-! what holds at the start -/
theorem sM_v {j : Nat} (h2 : j ≠ 2) (h4 : j ≠ 4) (h : ¬ (8 ≤ j ∧ j < 32 ∧ j % 4 = 1)) : sM 6 j = 0 := by
  show (if j = 2 then nI 5 else if j = 4 then -1 else if 8 ≤ j ∧ j < 8 + 4 * 6 ∧ j % 4 = 1 then nI 1 else 0) = 0
  rw [if_neg h2, if_neg h4, if_neg (by omega)]
theorem sM_of {h w : Nat} (hh : h < 6) (hw : w < 4) : ofM (sM 6) 0 h w = if w = 1 then nI 1 else 0 := by
  unfold ofM
  by_cases e : w = 1
  · subst e
    rw [if_pos rfl]
    show (if 0 + 8 + 4 * h + 1 = 2 then nI 5 else if 0 + 8 + 4 * h + 1 = 4 then -1 else if 8 ≤ 0 + 8 + 4 * h + 1 ∧ 0 + 8 + 4 * h + 1 < 8 + 4 * 6 ∧ (0 + 8 + 4 * h + 1) % 4 = 1 then nI 1 else 0) = nI 1
    rw [if_neg (by omega), if_neg (by omega), if_pos (by omega)]
  · rw [if_neg e]
    exact sM_v (by omega) (by omega) (by omega)
theorem sM_rp {h p : Nat} : rpM (sM 6) 0 h p = 0 := by
  unfold rpM
  exact sM_v (by omega) (by omega) (by omega)
theorem sM_st {p : Nat} : sM 6 (0 + 32 + p) = 0 := sM_v (by omega) (by omega) (by omega)
theorem sM_th {p : Nat} : thM (sM 6) 0 p = false := by
  unfold thM; rw [sM_st]; rfl
theorem sM_fs {h p : Nat} : fsM (sM 6) 0 h p = false := by
  unfold fsM; rw [sM_th]; rfl
theorem vG_r {a : Nat} (h : a < 6) : view G0 1 (a + 1) = z0 := by
  have e : ∀ a, a < 6 → 1 + (a + 1) ≠ 76 ∧ kd (1 + (a + 1)) ≠ 1 ∧ 1 + (a + 1) ≠ 18 := by decide
  exact G0_z (e a h).1 (e a h).2.1 (e a h).2.2
theorem vG_0 : view G0 1 0 = gS := G0_1 (k := 1) (by decide)
theorem sim_0 : Sim (view G0 1) (sM 6) 0 := by
  have e1 : view G0 1 1 = z0 := vG_r (a := 0) (by decide)
  have e2 : view G0 1 2 = z0 := vG_r (a := 1) (by decide)
  have e3 : view G0 1 3 = z0 := vG_r (a := 2) (by decide)
  have e4 : view G0 1 4 = z0 := vG_r (a := 3) (by decide)
  have e5 : view G0 1 5 = z0 := vG_r (a := 4) (by decide)
  have e6 : view G0 1 6 = z0 := vG_r (a := 5) (by decide)
  refine ⟨⟨?_, ?_, ?_, ?_⟩, fun _ => ⟨?_, ?_⟩, fun h => absurd rfl h, fun h hh => ⟨?_, ?_, ?_⟩, fun h hh => ?_, fun p hp => ⟨?_, ?_⟩, fun h hh p hp => ⟨?_, ?_⟩⟩
  · rw [vG_0]; rfl
  · rw [vG_0]; rfl
  · rw [vG_0]; rfl
  · rw [vG_0]; rfl
  · rw [vG_0]; rfl
  · rw [vG_0]; rfl
  · rw [e1, sM_of hh (by decide)]; rfl
  · rw [e2, sM_of hh (by decide)]; rfl
  · rw [e3, sM_of hh (by decide)]; rfl
  · rw [vG_0]
    by_cases h6 : h < 6
    · rw [sM_of h6 (by decide), if_pos rfl, decide_eq_true h6, decide_eq_true rfl]
      have e : ∀ h, h < 6 → tb (gS 7) (nI h) = true := by decide +kernel
      exact e h h6
    · rw [decide_eq_false h6]
      have e : ∀ h, h < 32 → ¬ h < 6 → tb (gS 7) (nI h) = false := by decide +kernel
      exact e h hh h6
  · rw [vG_0, sM_th]
    exact tb_0 (Nat.lt_trans hp (by decide))
  · rw [e6]
    exact (sM_v (by omega) (by omega) (by omega)).symm
  · rw [e4, sM_fs, Bool.and_false]
    exact tb_0 hp
  · rw [e5, sM_rp]
    have e : decide (¬ (0 : Int32) ≤ 0) = false := by decide
    rw [e, Bool.and_false, Bool.and_false]
    exact tb_0 hp
theorem jj_0 : JJ (sM 6) 0 0 0 := by
  refine ⟨⟨0, Nat.le_refl _, sM_v (by decide) (by decide) (by decide), fun p hp => ⟨0, Nat.le_refl _, sM_st⟩, fun h hh p hp => ⟨0, Nat.le_refl _, sM_rp⟩⟩, fun h hh p hp a b => absurd (by rw [sM_rp]; decide) b, fun h => absurd rfl h, fun h hh => ⟨Or.inr ?_, fun _ p hp => by rw [sM_rp]; decide, fun e => ?_⟩, ⟨0, 5, by decide, sM_v (by decide) (by decide) (by decide), by decide, by decide, rfl, fun h hh e => ?_, fun h => absurd rfl h⟩⟩
  · rw [sM_of hh (by decide)]; rfl
  · rw [sM_of hh (by decide)] at e
    exact absurd e (by decide)
  · rw [sM_of hh (by decide)] at e
    exact absurd e (by decide)
theorem j6_0 : J6 (sM 6) 0 := by
  refine ⟨fun h hh e => ?_, fun _ => ?_⟩
  · have e1 := e.1
    rw [sM_of hh (by decide)] at e1
    exact absurd e1 (by decide)
  · have key : ∀ k, k ≤ 180 → chM (sM 6) 0 k = ((4, nI 0), sM 6) := by
      intro k
      induction k with
      | zero => intro _; rfl
      | succ k ih =>
        intro hk
        have h1 := ih (by omega)
        rw [chM_no, h1]
        rw [h1]
        have hc : clsM (sM 6) 0 (k / 6) (k % 6) = 0 := by
          refine Classical.byContradiction fun hn => ?_
          have h3 := (cls_spec (Nat.div_lt_of_lt_mul (by omega)) (Nat.mod_lt _ (by decide)) hn).2.1
          exact h3 (by rw [sM_rp]; decide)
        unfold btM
        rw [if_pos hc]
    rw [key 180 (Nat.le_refl _)]
