/-! status, and what is allowed -/
theorem fsL_iff {s : NV} {b p : Nat} : ∀ k, fsL s b p k = true ↔ ∃ i, i < k ∧ fsM s b i p = true := by
  intro k
  induction k with
  | zero => exact ⟨fun e => (by cases e), fun ⟨i, hi, _⟩ => absurd hi (by omega)⟩
  | succ k ih =>
    rw [fsL, Bool.or_eq_true, ih]
    constructor
    · rintro (⟨i, h1, h2⟩ | h)
      · exact ⟨i, by omega, h2⟩
      · exact ⟨k, by omega, h⟩
    · rintro ⟨i, h1, h2⟩
      by_cases h3 : i < k
      · exact Or.inl ⟨i, h3, h2⟩
      · have : i = k := by omega
        subst this; exact Or.inr h2
theorem sim_fr {f : SV} {s : NV} {b p : Nat} (hS : Sim f s b) (hp : p < 30) : (frS f p 6 = 0) ↔ fsL s b p 6 = false := by
  obtain ⟨-, -, -, -, -, -, h7⟩ := hS
  have key : ∀ i, i < 6 → bt (frS f p 6) i = fsM s b i p := fun i hi => by
    rw [frS_bt (by omega) 6 (by decide) i (by omega), decide_eq_true hi, Bool.true_and, ← tb_bt (s := f 4 i) (by omega), (h7 i hi p (by omega)).1, decide_eq_true hp, Bool.true_and]
  constructor
  · intro e
    cases hf : fsL s b p 6 with
    | false => rfl
    | true =>
      obtain ⟨i, h1, h2⟩ := (fsL_iff 6).mp hf
      have := key i h1
      rw [e, b_0, h2] at this
      cases this
  · intro e
    refine b_ext fun i hi => ?_
    rw [b_0]
    by_cases h6 : i < 6
    · rw [key i h6]
      cases hf : fsM s b i p with
      | false => rfl
      | true =>
        rw [(fsL_iff 6).mpr ⟨i, h6, hf⟩] at e
        cases e
    · rw [frS_bt (by omega) 6 (by decide) i hi, decide_eq_false h6, Bool.false_and]
theorem onM_n {x : Int32} : ∃ c, c ≤ 6 ∧ onM x = nI c := ⟨fb_ct (bt x) 6, fb_ct_le _ _, onL_ct 6 (by decide)⟩
theorem sim_bc {f : SV} {s : NV} {b p : Nat} (hS : Sim f s b) (hC : BlkC s b) (hp : p < 30) : bcI (cpS f p) = onM (cpM s b p) := by
  rw [sim_cp hS hC hp, cpM_bc]
theorem sim_st {f : SV} {s : NV} {b p : Nat} (hS : Sim f s b) (hC : BlkC s b) (hp : p < 30) : stS f p = if thM s b p then stM s b p else -1 := by
  obtain ⟨c, hc, e⟩ := onM_n (x := cpM s b p)
  have h1 := sim_fr hS hp
  unfold stS stM
  rw [sim_ex hS hp, sim_bc hS hC hp, e]
  cases thM s b p with
  | false => rfl
  | true =>
    rw [if_pos rfl, if_pos rfl]
    by_cases h0 : nI c ≤ 0
    · rw [if_pos h0, if_pos h0]
      cases hf : fsL s b p 6 with
      | false => rw [if_pos (h1.mpr hf)]; rfl
      | true => rw [if_neg (fun e => by rw [h1.mp e] at hf; cases hf), if_pos rfl]
    · rw [if_neg h0, if_neg h0]
      rw [ni_le0 (by omega)] at h0
      by_cases h2 : c = 1
      · subst h2; rw [if_pos rfl, if_pos (by decide)]
      · rw [if_neg (ni_ne h2 (by omega) (by omega)), if_neg (ni_nle (by omega) (by omega))]
theorem sim_cadd {f : SV} {s : NV} (hS : Sim f s 0) {p : Nat} (hp : p < 30) : caddS f p = csM s p := by
  unfold caddS csM
  rw [sim_ex hS hp, sim_bo hS hp]
  cases boM s 0 p <;> rfl
theorem sim_re {f : SV} {s : NV} (hS : Sim f s 0) (hC : BlkC s 0) {p : Nat} (hp : p < 30) : reS f p = cwM s p := by
  unfold reS cwM
  rw [sim_ex hS hp, sim_cp hS hC hp]
  cases thM s 0 p with
  | false => rfl
  | true =>
    rw [if_pos rfl, Bool.true_and]
    by_cases h : cpM s 0 p = 0
    · rw [if_pos h, decide_eq_false (fun e => e h)]
    · rw [if_neg h, decide_eq_true h]
theorem sim_cbeg {f : SV} {s : NV} (hS : Sim f s 0) {h : Nat} (hh : h < 6) : cbegS f h = clB s h := by
  unfold cbegS clB
  rw [(hS.2.2.2.1 h hh).1, hS.2.2.2.2.1 h (by omega), decide_eq_true hh, Bool.true_and]
  by_cases h1 : ofM s 0 h 0 = 0 <;> by_cases h2 : ofM s 0 h 1 = nI 1 <;> simp [h1, h2]
theorem sim_opn {f : SV} {s : NV} (hS : Sim f s 0) {h : Nat} (hh : h < 6) : opS f h = crB s h := by
  unfold opS crB
  rw [(hS.2.2.2.1 h hh).1, hS.2.2.2.2.1 h (by omega), decide_eq_true hh, Bool.true_and]
  by_cases h1 : ofM s 0 h 0 = nI 1 <;> by_cases h2 : ofM s 0 h 1 = nI 1 <;> simp [h1, h2]
theorem sim_cdet {f : SV} {s : NV} (hS : Sim f s 0) {h : Nat} (hh : h < 6) : cdetS f h = cdB s h := by
  unfold cdetS cdB
  rw [(hS.2.2.2.1 h hh).1, hS.2.2.2.2.1 h (by omega), decide_eq_true hh, Bool.true_and]
  by_cases h1 : ofM s 0 h 0 = 0 <;> by_cases h2 : ofM s 0 h 1 = nI 1 <;> simp [h1, h2]
