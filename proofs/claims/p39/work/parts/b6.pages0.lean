/-! what a good State answers of its pages -/
def fhB (f : SV) (p : Nat) : Nat → Bool
  | 0 => false
  | h + 1 => fhB f p h || decide (rpV f h p = nI 1)
def hrB (f : SV) (p : Nat) : Nat → Bool
  | 0 => false
  | h + 1 => hrB f p h || (decide (¬ rmS f h ≤ 0) && decide (rpV f h p = 0))
def alN (f : SV) : Nat → Nat
  | 0 => 0
  | p + 1 => alN f p + (if stS f p = -1 then 0 else 1)
section
variable {f : SV} {s : NV} {B M h p k : Nat}
theorem fh_t (q : fhB f p h = true) : nI 1 = bi (fhB f p (h + 1)) := by rw [fhB, q]; rfl
theorem fh_1 (q : rpV f h p = nI 1) : nI 1 = bi (fhB f p (h + 1)) := by rw [fhB, decide_eq_true q, Bool.or_true]; rfl
theorem fh_0 (q : fhB f p h = false) (q2 : ¬ rpV f h p = nI 1) : nI 0 = bi (fhB f p (h + 1)) := by rw [fhB, q, decide_eq_false q2]; rfl
theorem hr_t (q : hrB f p h = true) : nI 1 = bi (hrB f p (h + 1)) := by rw [hrB, q]; rfl
theorem hr_1 (q : ¬ rmS f h ≤ 0) (q2 : rpV f h p = 0) : nI 1 = bi (hrB f p (h + 1)) := by rw [hrB, decide_eq_true q, decide_eq_true q2, Bool.and_true, Bool.or_true]; rfl
theorem hr_a (q : hrB f p h = false) (q2 : rmS f h ≤ 0) : nI 0 = bi (hrB f p (h + 1)) := by rw [hrB, q, decide_eq_false (fun z => z q2)]; rfl
theorem hr_b (q : hrB f p h = false) (q2 : ¬ rpV f h p = 0) : nI 0 = bi (hrB f p (h + 1)) := by rw [hrB, q, decide_eq_false q2, Bool.and_false]; rfl
theorem al_1 (q : ¬ stS f p = -1) : nI (alN f p) + nI 1 = nI (alN f (p + 1)) := by rw [alN, if_neg q, nI_add]
theorem al_0 (q : stS f p = -1) : nI (alN f p) + nI 0 = nI (alN f (p + 1)) := by rw [alN, if_pos q, nI_add]
theorem fh_iff : ∀ k, fhB f p k = true ↔ ∃ h, h < k ∧ tb (f 4 h) (nI p) = true := by
  intro k
  induction k with
  | zero => exact ⟨fun e => by (unfold fhB at e; cases e), fun ⟨h, hh, _⟩ => absurd hh (Nat.not_lt_zero h)⟩
  | succ k ih =>
    rw [fhB, Bool.or_eq_true, ih, decide_eq_true_iff, rp_1]
    constructor
    · rintro (⟨h, hh, e⟩ | e)
      · exact ⟨h, by omega, e⟩
      · exact ⟨k, by omega, e⟩
    · rintro ⟨h, hh, e⟩
      by_cases q : h = k
      · exact Or.inr (q ▸ e)
      · exact Or.inl ⟨h, by omega, e⟩
theorem hr_iff : ∀ k, hrB f p k = true → ∃ h, h < k ∧ ¬ rmS f h ≤ 0 ∧ rpV f h p = 0 := by
  intro k
  induction k with
  | zero => intro e; unfold hrB at e; cases e
  | succ k ih =>
    intro e
    rw [hrB, Bool.or_eq_true, Bool.and_eq_true, decide_eq_true_iff, decide_eq_true_iff] at e
    rcases e with e | e
    · obtain ⟨h, hh, e1⟩ := ih e
      exact ⟨h, by omega, e1⟩
    · exact ⟨k, by omega, e⟩
theorem fr_iff (hp : p < 30) : ¬ frS f p 6 = 0 ↔ fhB f p 6 = true := by
  rw [fh_iff]
  constructor
  · intro hn
    refine Classical.byContradiction fun q => hn ?_
    refine b_ext fun i hi => ?_
    rw [frS_bt (by omega) 6 (Nat.le_refl 6) i hi, b_0]
    by_cases h6 : i < 6
    · cases e : bt (f 4 i) p with
      | false => rw [Bool.and_false]
      | true => exact absurd ⟨i, h6, by rw [tb_bt (by omega)]; exact e⟩ q
    · rw [decide_eq_false h6, Bool.false_and]
  · rintro ⟨h, hh, e⟩ q
    have h1 := frS_bt (f := f) (p := p) (by omega) 6 (Nat.le_refl 6) h (by omega)
    rw [q, b_0, decide_eq_true hh, ← tb_bt (by omega), e] at h1
    cases h1
/-- the copies counted -/
theorem cp_cnt (hf : GoodS f B M) (hp : p < 30) : onM (cpS f p) = bcI (cpS f p) ∧ ∃ c, c ≤ 6 ∧ onM (cpS f p) = nI c ∧ (1 ≤ c ↔ ∃ h, h < 6 ∧ tb (cpS f p) (nI h) = true) := by
  obtain ⟨⟨s, hS, hJ, h6⟩, hX⟩ := hf
  have e1 := sim_cp hS hJ.2.1 hp
  rw [e1]
  refine ⟨cpM_bc.symm, fb_ct (bt (cpM s 0 p)) 6, fb_ct_le _ _, onL_ct 6 (by decide), ?_⟩
  have h1 : 1 ≤ fb_ct (bt (cpM s 0 p)) 6 ↔ 0 < fb_ct (bt (cpM s 0 p)) 6 := Iff.rfl
  rw [h1, fb_ct_pos]
  constructor
  · rintro ⟨h, hh, e⟩
    exact ⟨h, hh, by rw [tb_bt (by omega)]; exact e⟩
  · rintro ⟨h, hh, e⟩
    exact ⟨h, hh, by rw [← tb_bt (by omega)]; exact e⟩
/-- a page that is fresh anywhere is there -/
theorem good_ex (hf : GoodS f B M) (hp : p < 30) (hh : h < 6) (e : tb (f 4 h) (nI p) = true) : exS f p = true := by
  obtain ⟨⟨s, hS, hJ, h6⟩, hX⟩ := hf
  have h7 := (hS.2.2.2.2.2.2 h hh p (by omega)).1
  rw [e, decide_eq_true hp, Bool.true_and] at h7
  have h9 := (hS.2.2.2.2.2.1 p hp).1
  rw [fs_th h7.symm] at h9
  exact h9
theorem st_cases (hf : GoodS f B M) (hp : p < 30) : (stS f p = -1 ∧ onM (cpS f p) = nI 0) ∨ (stS f p = nI 2 ∧ (∃ c, 2 ≤ c ∧ c ≤ 6 ∧ onM (cpS f p) = nI c) ∧ fhB f p 6 = true) ∨ (stS f p = nI 1 ∧ onM (cpS f p) = nI 1 ∧ fhB f p 6 = true) ∨ (stS f p = nI 0 ∧ onM (cpS f p) = nI 0 ∧ fhB f p 6 = true) ∨ (stS f p = -2 ∧ onM (cpS f p) = nI 0 ∧ fhB f p 6 = false) := by
  obtain ⟨e1, c, c1, c2, c3⟩ := cp_cnt hf hp
  have hfh : 1 ≤ c → fhB f p 6 = true := fun q => by
    obtain ⟨h, hh, e⟩ := c3.mp q
    rw [cp_tb (by omega) hh, Bool.and_eq_true] at e
    exact (fh_iff 6).mpr ⟨h, hh, e.1⟩
  cases hx : exS f p with
  | false =>
    refine Or.inl ⟨st_none.mpr hx, ?_⟩
    have : c = 0 := by
      refine Nat.eq_zero_of_not_pos fun q => ?_
      obtain ⟨h, hh, e⟩ := (fh_iff 6).mp (hfh q)
      rw [good_ex hf hp hh e] at hx
      cases hx
    rw [c2, this]
  | true =>
    refine Or.inr ?_
    unfold stS
    rw [hx, if_pos rfl, ← e1, c2]
    by_cases h0 : c = 0
    · subst h0
      rw [if_pos (by decide)]
      by_cases hr : frS f p 6 = 0
      · rw [if_pos hr]
        refine Or.inr (Or.inr (Or.inr ⟨rfl, rfl, ?_⟩))
        cases q : fhB f p 6 with
        | false => rfl
        | true => exact absurd hr ((fr_iff hp).mpr q)
      · rw [if_neg hr]
        exact Or.inr (Or.inr (Or.inl ⟨rfl, rfl, (fr_iff hp).mp hr⟩))
    · rw [if_neg (fun q => h0 ((ni_le0 (by omega)).mp q))]
      by_cases h1 : c = 1
      · subst h1
        rw [if_pos rfl]
        exact Or.inr (Or.inl ⟨rfl, rfl, hfh (by omega)⟩)
      · rw [if_neg (ni_ne h1 (by omega) (by omega))]
        exact Or.inl ⟨rfl, ⟨c, by omega, c1, rfl⟩, hfh (by omega)⟩
theorem cnt_all (hf : GoodS f B M) : ∀ k, k ≤ 30 → cntS f (nI 2) k + cntS f (nI 1) k + cntS f (nI 0) k + cntS f (-2) k = alN f k := by
  intro k
  induction k with
  | zero => intro _; rfl
  | succ k ih =>
    intro hk
    have i := ih (by omega)
    rw [cntS, cntS, cntS, cntS, alN]
    rcases st_cases hf (p := k) (by omega) with ⟨e, -⟩ | ⟨e, -⟩ | ⟨e, -⟩ | ⟨e, -⟩ | ⟨e, -⟩ <;> rw [e]
    · rw [if_neg (by decide), if_neg (by decide), if_neg (by decide), if_neg (by decide), if_pos rfl]; exact i
    · rw [if_pos rfl, if_neg (by decide), if_neg (by decide), if_neg (by decide), if_neg (by decide)]; omega
    · rw [if_neg (by decide), if_pos rfl, if_neg (by decide), if_neg (by decide), if_neg (by decide)]; omega
    · rw [if_neg (by decide), if_neg (by decide), if_pos rfl, if_neg (by decide), if_neg (by decide)]; omega
    · rw [if_neg (by decide), if_neg (by decide), if_neg (by decide), if_pos rfl, if_neg (by decide)]; omega
theorem cnt_nI (hf : GoodS f B M) : nI (cntS f (nI 2) 30) + nI (cntS f (nI 1) 30) + nI (cntS f (nI 0) 30) + nI (cntS f (-2) 30) = nI (alN f 30) := by
  rw [nI_add, nI_add, nI_add, cnt_all hf 30 (Nat.le_refl 30)]
theorem ch_0 {b : Nat} : ∀ k, (chM s b k).1.1 = 4 → ∀ i, i < k → clsM s b (i / 6) (i % 6) = 0 := by
  intro k
  induction k with
  | zero => intro _ i hi; exact absurd hi (Nat.not_lt_zero i)
  | succ k ih =>
    intro e i hi
    have hb : btM (chM s b k).2 b k (chM s b k).1.1 (chM s b k).1.2 = false := by
      cases q : btM (chM s b k).2 b k (chM s b k).1.1 (chM s b k).1.2 with
      | false => rfl
      | true =>
        rw [chM_yes q] at e
        have := clsM_lt (s := (chM s b k).2) (b := b) (p := k / 6) (h := k % 6)
        have e2 : clsM (chM s b k).2 b (k / 6) (k % 6) = 4 := e
        omega
    have e4 : (chM s b k).1.1 = 4 := by rw [← chM_no hb]; exact e
    by_cases q : i = k
    · subst q
      rw [ch4 _ e4, e4] at hb
      have hl := clsM_lt (s := s) (b := b) (p := i / 6) (h := i % 6)
      unfold btM at hb
      by_cases h0 : clsM s b (i / 6) (i % 6) = 0
      · exact h0
      · rw [if_neg h0, if_pos (by omega)] at hb
        cases hb
    · exact ih e4 i (by omega)
/-- at rest, a page with one copy finds no room -/
theorem good_rest (hf : GoodS f B M) (hp : p < 30) (hn : f 0 11 = -1) (h1 : onM (cpS f p) = nI 1) : hrB f p 6 = false := by
  cases q : hrB f p 6 with
  | false => rfl
  | true =>
    exfalso
    obtain ⟨h, hh, r1, r2⟩ := hr_iff 6 q
    obtain ⟨-, c, c1, c2, c3⟩ := cp_cnt hf hp
    obtain ⟨⟨s, hS, hJ, h6⟩, hX⟩ := hf
    have ec : c = 1 := (nI_eq (by omega) (by decide)).mp (c2.symm.trans h1)
    obtain ⟨S, hs, es⟩ := c3.mp (by omega)
    have e4 : s (0 + 4) = -1 := hS.1.2.2.2.symm.trans hn
    have h0 := ch_0 180 (h6.2 e4) (6 * p + S) (by omega)
    rw [show (6 * p + S) / 6 = p by omega, show (6 * p + S) % 6 = S by omega] at h0
    have e1 := sim_cp hS hJ.2.1 hp
    rw [e1] at es h1
    have hb : ¬ ((cpM s 0 p >>> (nI S &&& 31)) &&& nI 1) = 0 := by
      rw [get_bi (by omega), es]; decide
    have hbo : (boM s 0 p).isNone = false := by
      cases hb2 : boM s 0 p with
      | some u => rfl
      | none =>
        exfalso
        have g := (bh_none (s := s) (b := 0) (p := p) 6 hb2).2 h hh
        rw [nI_0] at g
        unfold rbM at g
        rw [if_pos ((rp_m hS hh hp).mp r2), ← sim_rm hS hh] at g
        exact r1 g
    unfold clsM at h0
    rw [if_neg hb, hbo, if_neg (by decide), if_pos h1] at h0
    split at h0 <;> cases h0
end
