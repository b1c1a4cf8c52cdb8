/-! the class's and the model's answers agree: what a host holds, copies counted, room, the best host -/
theorem hdL_ct {s : NV} {b h : Nat} : ∀ k, hdL s b h k = fb_ct (fun p => decide (¬ rpM s b h p ≤ 0)) k := by
  intro k
  induction k with
  | zero => rfl
  | succ k ih =>
    rw [hdL, fb_ct_succ, ih]
    by_cases hr : rpM s b h k ≤ 0
    · rw [if_pos hr, decide_eq_false (fun e => e hr)]; rfl
    · rw [if_neg hr, decide_eq_true hr]; rfl
theorem sim_bits {f : SV} {s : NV} {b h p : Nat} (hS : Sim f s b) (hh : h < 6) (hp : p < 32) : tb (f 4 h ||| f 5 h) (nI p) = (decide (p < 30) && decide (¬ rpM s b h p ≤ 0)) := by
  obtain ⟨-, -, -, -, -, -, h7⟩ := hS
  rw [tb_orr hp, (h7 h hh p hp).1, (h7 h hh p hp).2]
  by_cases h30 : p < 30
  · rw [decide_eq_true h30]
    cases hf : fsM s b h p with
    | true => rw [decide_eq_true (fsM_pos hf)]; rfl
    | false => simp
  · rw [decide_eq_false h30]; rfl
theorem sim_hd {f : SV} {s : NV} {b h : Nat} (hS : Sim f s b) (hh : h < 6) : hdS f h = nI (hdM s b h) := by
  unfold hdS hdM
  rw [bcI_ct, hdL_ct]
  have e1 : fb_ct (bt (f 4 h ||| f 5 h)) 32 = fb_ct (fun p => decide (p < 30) && decide (¬ rpM s b h p ≤ 0)) 32 := fb_ct_cong fun p hp => by rw [← tb_bt hp, sim_bits hS hh hp]
  rw [e1, show (32 : Nat) = 30 + 1 + 1 from rfl, fb_ct_succ, fb_ct_succ]
  have e2 : fb_ct (fun p => decide (p < 30) && decide (¬ rpM s b h p ≤ 0)) 30 = fb_ct (fun p => decide (¬ rpM s b h p ≤ 0)) 30 := fb_ct_cong fun p hp => by rw [decide_eq_true hp, Bool.true_and]
  rw [e2]
  rfl
theorem onL_ct {x : Int32} : ∀ k, k ≤ 6 → onL x k = nI (fb_ct (bt x) k) := by
  intro k
  induction k with
  | zero => intro _; rfl
  | succ k ih =>
    intro hk
    rw [onL, ih (by omega), fb_ct_succ, ← nI_add]
    congr 1
    refine b_ext fun j hj => ?_
    rw [bt_get (by omega) hj]
    cases hb : bt x k with
    | true => rw [if_pos rfl, Bool.and_true, bt_nI (by decide)]; exact (by revert j; decide +kernel : ∀ j, j < 32 → decide (j = 0) = (1 : Nat).testBit j) j hj
    | false => rw [if_neg (by decide), Bool.and_false]; exact (b_0 j).symm
theorem cpM_bc {s : NV} {b p : Nat} : bcI (cpM s b p) = onM (cpM s b p) := by
  unfold onM
  rw [bcI_ct, onL_ct 6 (by decide)]
  congr 1
  have e1 : ∀ i, i < 32 → bt (cpM s b p) i = (decide (i < 6) && bt (cpM s b p) i) := fun i hi => by
    by_cases h6 : i < 6
    · rw [decide_eq_true h6, Bool.true_and]
    · rw [decide_eq_false h6, Bool.false_and]
      unfold cpM
      rw [cpML_bt 6 (by decide) i hi, decide_eq_false h6, Bool.false_and]
  rw [show (32 : Nat) = 6 + 26 from rfl, fb_ct_split]
  have e2 : fb_ct (fun k => bt (cpM s b p) (6 + k)) 26 = 0 := fb_ct_zero.mpr fun k hk => by
    rw [e1 (6 + k) (by omega), decide_eq_false (by omega), Bool.false_and]
  rw [e2, Nat.add_zero]
theorem sim_ex {f : SV} {s : NV} {b p : Nat} (hS : Sim f s b) (hp : p < 30) : exS f p = thM s b p := (hS.2.2.2.2.2.1 p hp).1
theorem sim_us {f : SV} {s : NV} {b h : Nat} (hS : Sim f s b) (hh : h < 6) : usS f h = nI (usM s b h) := by
  have h1 := sim_hd hS hh
  unfold hdS at h1
  unfold usS usM
  rw [h1]
  by_cases hp : s (b + 4) = -1
  · rw [(hS.2.1 hp).2, if_neg (fun e => ni_m1 (k := h) (by omega) e.symm), if_pos hp, nI_add]
  · rw [(hS.2.2.1 hp).2.1, if_neg hp]
    split <;> rw [nI_add]
theorem sim_op {f : SV} {s : NV} {b h : Nat} (hS : Sim f s b) (hh : h < 6) : opS f h = leM s b h := by
  unfold opS leM
  rw [(hS.2.2.2.1 h hh).1, hS.2.2.2.2.1 h (by omega), decide_eq_true hh, Bool.true_and]
theorem sim_rm {f : SV} {s : NV} {b h : Nat} (hS : Sim f s b) (hh : h < 6) : rmS f h = feM s b h := by
  unfold rmS feM
  rw [sim_op hS hh, sim_us hS hh, (hS.2.2.2.1 h hh).2.1]
theorem bh_nn {s : NV} {b p : Nat} : ∀ k, ¬ (bhM s b p k).2 < 0 := by
  intro k
  induction k with
  | zero => show ¬ nI 0 < 0; decide
  | succ k ih =>
    unfold bhM
    split
    · exact ih
    · rename_i h
      intro h1
      exact h (Int32.le_of_lt (Int32.lt_of_lt_of_le h1 (Int32.not_lt.mp ih)))
theorem sim_bh {f : SV} {s : NV} {b p : Nat} (hS : Sim f s b) (hp : p < 30) : ∀ k, k ≤ 6 → bhS f p k = bhM s b p k := by
  intro k
  induction k with
  | zero => intro _; rfl
  | succ k ih =>
    intro hk
    have hn := bh_nn (s := s) (b := b) (p := p) k
    rw [bhS, bhM, ih (by omega), sim_rm hS (by omega), sim_bits hS (by omega) (by omega), decide_eq_true hp, Bool.true_and]
    unfold rbM
    by_cases hr : rpM s b k p ≤ 0
    · rw [if_pos hr, decide_eq_false (fun e => e hr)]
      split <;> simp
    · rw [if_neg hr, decide_eq_true hr, if_pos (show nI 0 ≤ (bhM s b p k).2 from Int32.not_lt.mp hn)]
      split <;> simp
theorem sim_bo {f : SV} {s : NV} {b p : Nat} (hS : Sim f s b) (hp : p < 30) : bestO f p = boM s b p := by
  unfold bestO boM
  rw [sim_bh hS hp 6 (by decide)]
