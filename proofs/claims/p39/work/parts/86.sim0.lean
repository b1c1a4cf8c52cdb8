/-! a State of the class and a block of the model say the same -/
theorem bt_get {s : Int32} {i j : Nat} (hi : i < 32) (hj : j < 32) : bt ((s >>> (nI i &&& 31)) &&& nI 1) j = (decide (j = 0) && bt s i) := by
  rw [b_and, b_sshr i hi s hj]
  by_cases h0 : j = 0
  · subst h0
    have h1 : bt (nI 1) 0 = true := by decide +kernel
    rw [h1]
    simp [hi]
  · have h1 : bt (nI 1) j = false := by
      have : ∀ j, j < 32 → j ≠ 0 → bt (nI 1) j = false := by decide +kernel
      exact this j hj h0
    rw [h1]
    simp [h0]
theorem frS_bt {f : SV} {p : Nat} (hp : p < 32) : ∀ k, k ≤ 6 → ∀ i, i < 32 → bt (frS f p k) i = (decide (i < k) && bt (f 4 i) p) := by
  intro k
  induction k with
  | zero =>
    intro _ i hi
    have : bt (frS f p 0) i = false := by show bt (nI 0) i = false; exact b_0 i
    rw [this]; simp
  | succ k ih =>
    intro hk i hi
    rw [frS, b_or, ih (by omega) i hi, b_shl k (by omega) _ hi]
    by_cases h1 : i < k
    · have e1 : decide (k ≤ i) = false := decide_eq_false (by omega)
      have e2 : decide (i < k) = true := decide_eq_true h1
      have e3 : decide (i < k + 1) = true := decide_eq_true (by omega)
      rw [e1, e2, e3]; simp
    · have e2 : decide (i < k) = false := decide_eq_false h1
      have e1 : decide (k ≤ i) = true := decide_eq_true (by omega)
      rw [e1, e2, bt_get hp (by omega)]
      by_cases h2 : i = k
      · subst h2; simp
      · have e3 : decide (i < k + 1) = false := decide_eq_false (by omega)
        have e4 : decide (i - k = 0) = false := decide_eq_false (by omega)
        rw [e3, e4]; simp
theorem cpML_bt {s : NV} {b p : Nat} : ∀ k, k ≤ 6 → ∀ i, i < 32 → bt (cpML s b p k) i = (decide (i < k) && cpMb s b p i) := by
  intro k
  induction k with
  | zero =>
    intro _ i hi
    have : bt (cpML s b p 0) i = false := by show bt (nI 0) i = false; exact b_0 i
    rw [this]; simp
  | succ k ih =>
    intro hk i hi
    rw [cpML, b_or, ih (by omega) i hi]
    have e5 : bt (if cpMb s b p k then nI 1 <<< (nI k &&& 31) else nI 0) i = (decide (i = k) && cpMb s b p k) := by
      cases hb : cpMb s b p k with
      | true => rw [if_pos rfl, bt_one (by omega) hi]; simp
      | false => rw [if_neg (by decide)]; simp [show bt (nI 0) i = false from b_0 i]
    rw [e5]
    by_cases h2 : i = k
    · subst h2; simp
    · by_cases h1 : i < k
      · have e3 : decide (i < k + 1) = true := decide_eq_true (by omega)
        rw [e3, decide_eq_true h1, decide_eq_false h2]; simp
      · have e3 : decide (i < k + 1) = false := decide_eq_false (by omega)
        rw [e3, decide_eq_false h1, decide_eq_false h2]; simp
/-- the class's State f and the model's block at b -/
def Sim (f : SV) (s : NV) (b : Nat) : Prop :=
  (f 0 8 = s (b + 0) ∧ f 0 9 = s (b + 2) ∧ f 0 10 = s (b + 3) ∧ f 0 11 = s (b + 4)) ∧
  (s (b + 4) = -1 → f 0 12 = -1 ∧ f 0 13 = -1) ∧ (¬ s (b + 4) = -1 → f 0 12 = s (b + 5) ∧ f 0 13 = s (b + 6) ∧ f 0 14 = s (b + 7)) ∧
  (∀ h, h < 6 → f 1 h = ofM s b h 0 ∧ f 2 h = ofM s b h 2 ∧ f 3 h = ofM s b h 3) ∧
  (∀ h, h < 32 → tb (f 0 7) (nI h) = (decide (h < 6) && decide (ofM s b h 1 = nI 1))) ∧
  (∀ p, p < 30 → tb (f 0 6) (nI p) = thM s b p ∧ f 6 p = s (b + 62 + p)) ∧
  (∀ h, h < 6 → ∀ p, p < 32 → tb (f 4 h) (nI p) = (decide (p < 30) && fsM s b h p) ∧ tb (f 5 h) (nI p) = (decide (p < 30) && (!fsM s b h p && decide (¬ rpM s b h p ≤ 0))))
/-- a block's own invariants: connected hosts hold nothing stale; what is fresh is there -/
def BlkC (s : NV) (b : Nat) : Prop := ∀ h, h < 6 → ∀ p, p < 30 → ofM s b h 1 = nI 1 → ¬ rpM s b h p ≤ 0 → fsM s b h p = true
theorem fsM_pos {s : NV} {b h p : Nat} (hf : fsM s b h p = true) : ¬ rpM s b h p ≤ 0 := by
  simp only [fsM, thM, Bool.and_eq_true, decide_eq_true_eq] at hf
  rw [hf.2]; exact hf.1
theorem sim_cp {f : SV} {s : NV} {b p : Nat} (hS : Sim f s b) (hC : BlkC s b) (hp : p < 30) : cpS f p = cpM s b p := by
  obtain ⟨-, -, -, -, h5, -, h7⟩ := hS
  refine b_ext fun i hi => ?_
  unfold cpS cpM
  rw [b_and, frS_bt (by omega) 6 (by omega) i hi, cpML_bt 6 (by omega) i hi, ← tb_bt (s := f 0 7) hi, h5 i hi]
  by_cases h6 : i < 6
  · rw [← tb_bt (s := f 4 i) (by omega), (h7 i h6 p (by omega)).1, decide_eq_true h6, decide_eq_true hp]
    simp only [Bool.true_and]
    unfold cpMb
    by_cases hc : ofM s b i 1 = nI 1
    · rw [decide_eq_true hc]
      by_cases hr : rpM s b i p ≤ 0
      · have : fsM s b i p = false := by
          cases hf : fsM s b i p with
          | false => rfl
          | true => exact absurd hr (fsM_pos hf)
        rw [this, decide_eq_false (fun h => h hr)]; rfl
      · rw [hC i h6 p hp hc hr, decide_eq_true hr]
    · rw [decide_eq_false hc, Bool.and_false, Bool.false_and]
  · rw [decide_eq_false h6, Bool.false_and, Bool.false_and, Bool.false_and]
