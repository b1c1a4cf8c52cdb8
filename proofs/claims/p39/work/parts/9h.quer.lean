/-! the queries agree -/
theorem po_bt {f : SV} {x : Int32} {p : Nat} : ∀ k, (bt (poS f x k).1 p = true ↔ ∃ h, h < k ∧ tb x (nI h) = true ∧ bt (f 4 h) p = true) ∧ (bt (poS f x k).2 p = true ↔ ∃ h, h < k ∧ tb x (nI h) = false ∧ bt (f 4 h) p = true) := by
  intro k
  induction k with
  | zero =>
    have e1 : bt (poS f x 0).1 p = false := b_0 p
    have e2 : bt (poS f x 0).2 p = false := b_0 p
    rw [e1, e2]
    exact ⟨⟨fun e => (by cases e), fun ⟨h, hh, _⟩ => absurd hh (Nat.not_lt_zero h)⟩, ⟨fun e => (by cases e), fun ⟨h, hh, _⟩ => absurd hh (Nat.not_lt_zero h)⟩⟩
  | succ k ih =>
    obtain ⟨i1, i2⟩ := ih
    rw [poS]
    cases hx : tb x (nI k) with
    | true =>
      rw [if_pos rfl]
      show (bt ((poS f x k).1 ||| f 4 k) p = true ↔ _) ∧ (bt (poS f x k).2 p = true ↔ _)
      rw [b_or, Bool.or_eq_true, i1, i2]
      refine ⟨⟨?_, ?_⟩, ⟨?_, ?_⟩⟩
      · rintro (⟨h, h1, h2⟩ | h)
        · exact ⟨h, by omega, h2⟩
        · exact ⟨k, by omega, hx, h⟩
      · rintro ⟨h, h1, h2, h3⟩
        by_cases e : h = k
        · subst e; exact Or.inr h3
        · exact Or.inl ⟨h, by omega, h2, h3⟩
      · rintro ⟨h, h1, h2⟩
        exact ⟨h, by omega, h2⟩
      · rintro ⟨h, h1, h2, h3⟩
        by_cases e : h = k
        · subst e; rw [hx] at h2; cases h2
        · exact ⟨h, by omega, h2, h3⟩
    | false =>
      rw [if_neg Bool.false_ne_true]
      show (bt (poS f x k).1 p = true ↔ _) ∧ (bt ((poS f x k).2 ||| f 4 k) p = true ↔ _)
      rw [b_or, Bool.or_eq_true, i1, i2]
      refine ⟨⟨?_, ?_⟩, ⟨?_, ?_⟩⟩
      · rintro ⟨h, h1, h2⟩
        exact ⟨h, by omega, h2⟩
      · rintro ⟨h, h1, h2, h3⟩
        by_cases e : h = k
        · subst e; rw [hx] at h2; cases h2
        · exact ⟨h, by omega, h2, h3⟩
      · rintro (⟨h, h1, h2⟩ | h)
        · exact ⟨h, by omega, h2⟩
        · exact ⟨k, by omega, hx, h⟩
      · rintro ⟨h, h1, h2, h3⟩
        by_cases e : h = k
        · subst e; exact Or.inr h3
        · exact Or.inl ⟨h, by omega, h2, h3⟩
theorem lsI_bt {s : NV} {p : Nat} : ∀ k, k ≤ 6 → ∀ i, i < 32 → bt (lsI s p k) i = (decide (i < k) && fsM s 0 i p) := by
  intro k
  induction k with
  | zero => intro _ i hi; exact b_0 i
  | succ k ih =>
    intro hk i hi
    rw [lsI, b_or, ih (by omega) i hi]
    have e5 : bt (if fsM s 0 k p then nI 1 <<< (nI k &&& 31) else nI 0) i = (decide (i = k) && fsM s 0 k p) := by
      cases hb : fsM s 0 k p with
      | true => rw [if_pos rfl, bt_one (by omega) hi, Bool.and_true]
      | false => rw [if_neg (by decide), Bool.and_false]; exact b_0 i
    rw [e5]
    by_cases h2 : i = k
    · subst h2
      rw [decide_eq_false (Nat.lt_irrefl i), Bool.false_and, Bool.false_or, decide_eq_true rfl, decide_eq_true (Nat.lt_succ_self i)]
    · rw [decide_eq_false h2, Bool.false_and, Bool.or_false]
      by_cases h1 : i < k
      · rw [decide_eq_true h1, decide_eq_true (show i < k + 1 by omega)]
      · rw [decide_eq_false h1, decide_eq_false (show ¬ i < k + 1 by omega)]
theorem lsB_iff {s : NV} {p : Nat} {x : Int32} : lsB s p x = 1 ↔ (∃ h, h < 6 ∧ fsM s 0 h p = true) ∧ ∀ h, h < 6 → fsM s 0 h p = true → bt x h = true := by
  have key := lsI_bt (s := s) (p := p) 6 (Nat.le_refl 6)
  unfold lsB
  by_cases h0 : lsI s p 6 = 0
  · rw [if_pos h0]
    constructor
    · intro e; cases e
    · rintro ⟨⟨h, h1, h2⟩, -⟩
      have := key h (by omega)
      rw [h0, decide_eq_true h1, h2] at this
      have e0 : bt 0 h = false := b_0 h
      rw [e0] at this; cases this
  · rw [if_neg h0]
    by_cases h1 : lsI s p 6 &&& x = lsI s p 6
    · rw [if_pos h1]
      refine ⟨fun _ => ⟨?_, fun h hh hf => ?_⟩, fun _ => rfl⟩
      · refine Classical.byContradiction fun hn => h0 (b_ext fun i hi => ?_)
        rw [key i hi, b_0]
        by_cases h6 : i < 6
        · cases hf : fsM s 0 i p with
          | true => exact absurd ⟨i, h6, hf⟩ hn
          | false => rw [Bool.and_false]
        · rw [decide_eq_false h6, Bool.false_and]
      · have h2 : bt (lsI s p 6 &&& x) h = bt (lsI s p 6) h := by rw [h1]
        rw [b_and, key h (by omega), decide_eq_true hh, hf, Bool.true_and, Bool.true_and] at h2
        exact h2
    · rw [if_neg h1]
      refine ⟨fun e => (by cases e), fun ⟨_, h3⟩ => ?_⟩
      exfalso
      apply h1
      refine b_ext fun i hi => ?_
      rw [b_and, key i hi]
      by_cases h6 : i < 6
      · rw [decide_eq_true h6, Bool.true_and]
        cases hf : fsM s 0 i p with
        | true => rw [h3 i h6 hf]; rfl
        | false => rfl
      · rw [decide_eq_false h6, Bool.false_and, Bool.false_and]
theorem lsL_ct {s : NV} {x : Int32} : ∀ k, lsL s x k = fb_ct (fun p => decide (lsB s p x = 1)) k := by
  intro k
  induction k with
  | zero => rfl
  | succ k ih =>
    rw [lsL, fb_ct_succ, ih]
    have : lsB s k x = 0 ∨ lsB s k x = 1 := by
      unfold lsB
      (repeat' split) <;> omega
    rcases this with e | e
    · rw [e]; rfl
    · rw [e]; rfl
theorem sim_only {f : SV} {s : NV} {x : Int32} (hS : Sim f s 0) : onlyS f x = nI (lbM s x) := by
  have hbit : ∀ p, p < 32 → bt ((poS f x 6).1 &&& ((poS f x 6).2 ^^^ (-1))) p = (decide (p < 30) && decide (lsB s p x = 1)) := fun p hp => by
    have h4 : ∀ h, h < 6 → bt (f 4 h) p = (decide (p < 30) && fsM s 0 h p) := fun h hh => by
      rw [← tb_bt hp]; exact (hS.q h hh p hp).1
    obtain ⟨p1, p2⟩ := po_bt (f := f) (x := x) (p := p) 6
    apply b_iff
    rw [b_and, b_not hp, Bool.and_eq_true, Bool.not_eq_true', p1, Bool.and_eq_true, decide_eq_true_eq, decide_eq_true_eq, lsB_iff]
    constructor
    · rintro ⟨⟨h, h1, h2, h3⟩, hn⟩
      rw [h4 h h1, Bool.and_eq_true, decide_eq_true_eq] at h3
      refine ⟨h3.1, ⟨h, h1, h3.2⟩, fun k hk hf => ?_⟩
      cases hx : tb x (nI k) with
      | true => rw [← tb_bt (by omega)]; exact hx
      | false =>
        have : bt (poS f x 6).2 p = true := p2.mpr ⟨k, hk, hx, by rw [h4 k hk, hf, decide_eq_true h3.1]; rfl⟩
        rw [this] at hn; cases hn
    · rintro ⟨h30, ⟨h, h1, h2⟩, h3⟩
      refine ⟨⟨h, h1, ?_, ?_⟩, ?_⟩
      · rw [tb_bt (by omega)]; exact h3 h h1 h2
      · rw [h4 h h1, h2, decide_eq_true h30]; rfl
      · cases hb : bt (poS f x 6).2 p with
        | false => rfl
        | true =>
          obtain ⟨k, k1, k2, k3⟩ := p2.mp hb
          rw [h4 k k1, Bool.and_eq_true] at k3
          have := h3 k k1 k3.2
          rw [tb_bt (by omega), this] at k2; cases k2
  have e1 : fb_ct (bt ((poS f x 6).1 &&& ((poS f x 6).2 ^^^ (-1)))) 32 = fb_ct (fun p => decide (p < 30) && decide (lsB s p x = 1)) 32 := fb_ct_cong fun p hp => hbit p hp
  have e2 : fb_ct (fun k => decide (30 + k < 30) && decide (lsB s (30 + k) x = 1)) 2 = 0 := fb_ct_zero.mpr fun k hk => by
    rw [decide_eq_false (by omega), Bool.false_and]
  have e3 : fb_ct (fun p => decide (p < 30) && decide (lsB s p x = 1)) 30 = fb_ct (fun p => decide (lsB s p x = 1)) 30 := fb_ct_cong fun p hp => by rw [decide_eq_true hp, Bool.true_and]
  rw [show (32 : Nat) = 30 + 2 from rfl, fb_ct_split (fun p => decide (p < 30) && decide (lsB s p x = 1)), e2, e3, Nat.add_zero] at e1
  unfold onlyS lbM
  rw [bcI_ct, show (32 : Nat) = 30 + 2 from rfl, e1, lsL_ct, Nat.add_zero]
/-! the worst pair -/
def WpR (s : NV) (w : Int32 × Int32) (k : Nat) : Prop := k ≤ 35 ∧ w = (nI k, nI (lbM s (prM (k / 6) (k % 6))))
theorem wp_step {f : SV} {s : NV} {a j k : Nat} {w : Int32 × Int32} (hS : Sim f s 0) (ha : a < 6) (hj : j < 6) (h : WpR s w k) :
    WpR s (if onlyS f (mkP a j) ≤ w.2 then w else (nI (6 * a + j), onlyS f (mkP a j))) (if lbM s (prM a j) ≤ lbM s (prM (k / 6) (k % 6)) then k else 6 * a + j) := by
  have e : onlyS f (mkP a j) = nI (lbM s (prM a j)) := sim_only hS
  obtain ⟨h1, h2⟩ := h
  have l1 := lbM_le (s := s) (x := prM a j)
  have l2 := lbM_le (s := s) (x := prM (k / 6) (k % 6))
  rw [e, h2]
  have hi : nI (lbM s (prM a j)) ≤ nI (lbM s (prM (k / 6) (k % 6))) ↔ lbM s (prM a j) ≤ lbM s (prM (k / 6) (k % 6)) := nI_leI (by omega) (by omega)
  by_cases q : lbM s (prM a j) ≤ lbM s (prM (k / 6) (k % 6))
  · rw [if_pos (hi.mpr q), if_pos q]; exact ⟨h1, rfl⟩
  · rw [if_neg (fun z => q (hi.mp z)), if_neg q]
    refine ⟨by omega, ?_⟩
    rw [show (6 * a + j) / 6 = a by omega, show (6 * a + j) % 6 = j by omega]
theorem wp_in {f : SV} {s : NV} {a k : Nat} {w : Int32 × Int32} (hS : Sim f s 0) (ha : a < 6) (h : WpR s w k) : ∀ j, j ≤ 6 → WpR s (wqI f a w j) (wpI s a k j) := by
  intro j
  induction j with
  | zero => intro _; exact h
  | succ j ih =>
    intro hj
    by_cases q : a < j
    · rw [wqI_s q, wpI, if_pos q]
      exact wp_step hS ha (by omega) (ih (by omega))
    · rw [wqI, if_pos (by omega), wpI_lo (j + 1) (by omega)]
      exact h
theorem wp_first {f : SV} {s : NV} (hS : Sim f s 0) : ∀ j, 2 ≤ j → j ≤ 6 → WpR s (wqI f 0 (-1, -1) j) (wpI s 0 1 j) := by
  intro j
  induction j with
  | zero => intro h; omega
  | succ j ih =>
    intro h1 h2
    by_cases e : j = 1
    · subst e
      have e9 : onlyS f (mkP 0 1) = nI (lbM s (prM 0 1)) := sim_only hS
      have l1 := lbM_le (s := s) (x := prM 0 1)
      have hneg : ¬ onlyS f (mkP 0 1) ≤ (-1 : Int32) := by
        intro z
        rw [e9] at z
        have z2 : (nI (lbM s (prM 0 1))).toInt ≤ (-1 : Int32).toInt := Int32.le_iff_toInt_le.mp z
        rw [nI_toInt (by omega)] at z2
        have z3 : (-1 : Int32).toInt = -1 := rfl
        omega
      have a1 : wqI f 0 (-1, -1) 2 = (nI 1, nI (lbM s (prM 0 1))) := by
        rw [wqI_s (by decide), wqI_lo, if_neg (show ¬ onlyS f (mkP 0 1) ≤ ((-1 : Int32), (-1 : Int32)).2 from hneg), e9]
      have a2 : wpI s 0 1 2 = 1 := by
        rw [wpI, if_pos (show 0 < 1 by decide), wpI_lo 1 (by decide)]
        split <;> rfl
      show WpR s (wqI f 0 (-1, -1) 2) (wpI s 0 1 2)
      rw [a1, a2]
      exact ⟨by decide, rfl⟩
    · have h0 : 0 < j := by omega
      rw [wqI_s h0, wpI, if_pos h0]
      exact wp_step (a := 0) (j := j) hS (by decide) (by omega) (ih (by omega) (by omega))
theorem sim_wp {f : SV} {s : NV} (hS : Sim f s 0) : (wqL f 6).1 = nI (wpL s 6) := by
  have key : ∀ a, a + 1 ≤ 6 → WpR s (wqL f (a + 1)) (wpL s (a + 1)) := by
    intro a
    induction a with
    | zero => intro _; exact wp_first hS 6 (by decide) (Nat.le_refl 6)
    | succ a ih => intro ha; exact wp_in hS (by omega) (ih (by omega)) 6 (Nat.le_refl 6)
  rw [(key 5 (by decide)).2]
/-! a call of pass -/
theorem adv_iff {f : SV} {s : NV} {t k : Nat} (hS : Sim f s 0) (h0 : s 0 = nI t) (ht : t ≤ 1000000) (hk : k ≤ 600) : (cadvS f (nI k) = true ↔ t + k ≤ 1000000) ∧ (s 0 + nI k ≤ nI 1000000 ↔ t + k ≤ 1000000) ∧ (¬ nI 1000000 < s 0 + nI k ↔ t + k ≤ 1000000) := by
  have e8 : f 0 8 = nI t := hS.a.1.1.trans h0
  refine ⟨?_, ?_, ?_⟩
  · unfold cadvS
    rw [e8, pk_sub ht, Bool.not_eq_true', decide_eq_false_iff_not]
    rw [nI_ltI (by omega) (by omega)]
    omega
  · rw [h0, nI_add, nI_leI (by omega) (by omega)]
  · rw [h0, nI_add, nI_ltI (by omega) (by omega)]
    omega
