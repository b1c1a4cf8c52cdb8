/-! two sayings of a State more: no host holds more than 20; a transfer's source holds its page afresh, its target holds nothing of it -/
def ctH (f : SV) (h : Nat) : Nat := fb_ct (bt (f 4 h ||| f 5 h)) 32
def HdS (f : SV) : Prop := ∀ h, h < 6 → ctH f h ≤ 20
def TrP (f : SV) (p S U : Nat) : Prop := tb (f 4 S) (nI p) = true ∧ tb (f 4 U ||| f 5 U) (nI p) = false
def TrI (f : SV) : Prop := ¬ f 0 11 = -1 → ∃ p S U, p < 30 ∧ S < 6 ∧ U < 6 ∧ f 0 11 = nI p ∧ f 0 12 = nI S ∧ f 0 13 = nI U ∧ TrP f p S U
def XtS (f : SV) : Prop := HdS f ∧ TrI f
section
variable {f f' g : SV} {s s' : NV} {B M : Nat}
theorem ctH_hd {h : Nat} : hdS f h = nI (ctH f h) := bcI_ct _
theorem ctH_m (hS : Sim f s 0) {h : Nat} (hh : h < 6) : ctH f h = hdM s 0 h := by
  have e := (ctH_hd (f := f) (h := h)).symm.trans (sim_hd hS hh)
  have h1 : ctH f h ≤ 32 := fb_ct_le _ _
  have h2 := hdM_le (s := s) (b := 0) (h := h)
  exact (nI_eq (by omega) (by omega)).mp e
theorem ctH_len (hS : Sim f s 0) (j4 : J4 s 0) {h : Nat} (hh : h < 6) (e : f 1 h = nI 1) : ctH f h ≤ 20 := by
  rw [ctH_m hS hh]
  obtain ⟨c, c1, c2, c3⟩ := (j4 h hh).2.2 ((hS.2.2.2.1 h hh).1.symm.trans e)
  unfold usM at c3
  omega
theorem hd_of (hS : Sim f s 0) (j4 : J4 s 0) (h : ∀ h, h < 6 → f 1 h = nI 1 ∨ ctH f h ≤ 20) : HdS f := fun k hk => (h k hk).elim (fun e => ctH_len hS j4 hk e) id
theorem ct_sub {x y : Int32} (h : ∀ i, i < 32 → bt x i = true → bt y i = true) : fb_ct (bt x) 32 ≤ fb_ct (bt y) 32 := fb_ct_sub h
theorem ctH_cong {h : Nat} (e4 : f' 4 h = f 4 h) (e5 : f' 5 h = f 5 h) : ctH f' h = ctH f h := by unfold ctH; rw [e4, e5]
/-! settling -/
theorem rlS_row {r : Nat} (hr : r ≠ 1) : ∀ k, rlS f k r = f r := by
  intro k
  induction k with
  | zero => rfl
  | succ k ih =>
    rw [rlS]
    (repeat' split) <;> first | exact ih | (rw [put_n hr]; exact ih)
theorem rlS_len {h : Nat} (e : f 1 h = nI 1) : ∀ k, rlS f k 1 h = nI 1 := by
  intro k
  induction k with
  | zero => exact e
  | succ k ih =>
    rw [rlS]
    split
    · rename_i h2
      split
      · split
        · rw [put_at]
          by_cases q : h = k
          · subst q
            rw [ih] at h2
            exact absurd h2 (by decide)
          · rw [if_neg (fun z => q z.2)]; exact ih
        · exact ih
      · exact ih
    · exact ih
theorem setT_row {p h r : Nat} (hr : r ≠ 0) : setT f p h r = f r := by
  unfold setT
  rw [put_n hr, put_n hr, put_n hr, put_n hr]
theorem seS1_c : seS1 f = f ∨ ∃ p h, (chL f 30).2 = some (p, h) ∧ seS1 f = setT f p h := by
  unfold seS1
  split
  · cases hc : (chL f 30).2 with
    | none => exact Or.inl rfl
    | some q => exact Or.inr ⟨q.1, q.2, rfl, rfl⟩
  · exact Or.inl rfl
theorem seS1_row {r : Nat} (hr : r ≠ 0) : seS1 f r = f r := by
  rcases seS1_c (f := f) with e | ⟨p, h, -, e⟩
  · rw [e]
  · rw [e]; exact setT_row hr
theorem seS_row {r : Nat} (h0 : r ≠ 0) (h1 : r ≠ 1) : seS f r = f r := by
  unfold seS
  rw [seS1_row h0, rlS_row h1]
theorem seS_len {h : Nat} (e : f 1 h = nI 1) : seS f 1 h = nI 1 := by
  unfold seS
  rw [seS1_row (by decide)]
  exact rlS_len e 6
theorem setT_0 {p h j : Nat} (hj : j < 11 ∨ 14 < j) : setT f p h 0 j = f 0 j := by
  unfold setT
  rw [put_at, if_neg (by omega), put_at, if_neg (by omega), put_at, if_neg (by omega), put_at, if_neg (by omega)]
theorem seS_0 {j : Nat} (hj : j < 11 ∨ 14 < j) : seS f 0 j = f 0 j := by
  have e : rlS f 6 0 j = f 0 j := by rw [rlS_row (by decide)]
  unfold seS
  rcases seS1_c (f := rlS f 6) with e1 | ⟨p, h, -, e1⟩
  · rw [e1]; exact e
  · rw [e1, setT_0 hj]; exact e
theorem bhS_no {p h : Nat} : ∀ k, (bhS f p k).1 = some h → tb (f 4 h ||| f 5 h) (nI p) = false ∧ ¬ rmS f h ≤ nI 0 := by
  intro k
  have nn : ∀ k, nI 0 ≤ (bhS f p k).2 := by
    intro k
    induction k with
    | zero => exact Int32.le_refl _
    | succ k ih =>
      rw [bhS]
      split
      · exact ih
      · split
        · exact ih
        · rename_i h1 h2
          exact Int32.le_trans ih (Int32.le_of_lt (Int32.not_le.mp h1))
  induction k with
  | zero => intro e; cases e
  | succ k ih =>
    intro e
    rw [bhS] at e
    split at e
    · exact ih e
    · rename_i h1
      split at e
      · exact ih e
      · rename_i h2
        have ek := Option.some.inj e
        rw [← ek]
        refine ⟨?_, fun q => h1 (Int32.le_trans q (nn k))⟩
        cases hb : tb (f 4 k ||| f 5 k) (nI p) with
        | false => rfl
        | true => exact absurd hb h2
theorem best_no {p h : Nat} (e : bestO f p = some h) : tb (f 4 h ||| f 5 h) (nI p) = false ∧ f 1 h = nI 1 ∧ tb (f 0 7) (nI h) = true := by
  obtain ⟨h1, h2⟩ := bhS_no 6 e
  refine ⟨h1, ?_⟩
  unfold rmS at h2
  cases ho : opS f h with
  | false => rw [ho, if_neg (by decide)] at h2; exact absurd (Int32.le_refl _) h2
  | true =>
    unfold opS at ho
    simp only [Bool.and_eq_true, decide_eq_true_eq] at ho
    exact ho
def ChG (f : SV) (a : Int32 × Option (Nat × Nat)) : Prop := a.1 ≤ nI 90000000 ∧ ∀ p h, a.2 = some (p, h) → tb (cpS f p) (nI h) = true ∧ (bestO f p).isSome = true
theorem chI_g {p : Nat} {a : Int32 × Option (Nat × Nat)} (ha : ChG f a) : ∀ h, ChG f (chI f p a h) := by
  intro h
  induction h with
  | zero => exact ha
  | succ h ih =>
    rw [chI]
    split
    · exact ih
    · rename_i h1
      split
      · rename_i h2
        have hlt := Int32.not_le.mp h1
        refine ⟨Int32.le_trans (Int32.le_of_lt hlt) ih.1, fun p' h' e => ?_⟩
        cases e
        refine ⟨?_, h2⟩
        cases hb : tb (cpS f p) (nI h) with
        | true => rfl
        | false =>
          exfalso
          apply h1
          unfold rkS
          rw [hb, if_neg (by decide)]
          exact ih.1
      · exact ih
theorem chL_g : ∀ p, ChG f (chL f p) := by
  intro p
  induction p with
  | zero => exact ⟨Int32.le_refl _, fun p h e => by cases e⟩
  | succ p ih => exact chI_g ih 6
theorem cp_tb {p h : Nat} (hp : p < 32) (hh : h < 6) : tb (cpS f p) (nI h) = (tb (f 4 h) (nI p) && tb (f 0 7) (nI h)) := by
  unfold cpS
  rw [tb_and (by omega), tb_bt (s := frS f p 6) (by omega), frS_bt hp 6 (Nat.le_refl 6) h (by omega), decide_eq_true hh, Bool.true_and, ← tb_bt hp]
theorem tr_se (h : TrI f) : TrI (seS f) := by
  have h1 : TrI (rlS f 6) := by
    intro hn
    rw [rlS_row (by decide)] at hn
    obtain ⟨p, S, U, a1, a2, a3, a4, a5, a6, a7, a8⟩ := h hn
    exact ⟨p, S, U, a1, a2, a3, by rw [rlS_row (by decide)]; exact a4, by rw [rlS_row (by decide)]; exact a5, by rw [rlS_row (by decide)]; exact a6, by rw [rlS_row (by decide)]; exact a7, by rw [rlS_row (by decide), rlS_row (by decide)]; exact a8⟩
  unfold seS
  generalize rlS f 6 = f1 at h1
  rcases seS1_c (f := f1) with e | ⟨p, hh, e, es⟩
  · rw [e]; exact h1
  · rw [es]
    · have hg := (chL_g (f := f1) 30).2 p hh e
      have hl := chL_in 30 e
      intro _
      cases hb : bestO f1 p with
      | none => rw [hb] at hg; exact absurd hg.2 (by decide)
      | some U =>
        have hc := hg.1
        rw [cp_tb (by omega) hl.2] at hc
        refine ⟨p, hh, U, hl.1, hl.2, bestO_lt hb, ?_, ?_, ?_, ?_, ?_⟩
        · unfold setT
          rw [put_at, if_neg (by decide), put_at, if_neg (by decide), put_at, if_pos ⟨rfl, rfl⟩]
        · unfold setT
          rw [put_at, if_neg (by decide), put_at, if_pos ⟨rfl, rfl⟩]
        · unfold setT
          rw [put_at, if_neg (by decide), put_at, if_neg (by decide), put_at, if_neg (by decide), put_at, if_pos ⟨rfl, rfl⟩, hb]
          rfl
        · rw [setT_row (by decide)]
          cases q : tb (f1 4 hh) (nI p) with
          | true => rfl
          | false => rw [q] at hc; cases hc
        · rw [setT_row (by decide), setT_row (by decide)]
          exact (best_no hb).1
/-- rows 0 (its transfer), 4, 5 as before -/
theorem TrI.cong (h : TrI f) (e1 : f' 0 11 = f 0 11) (e2 : f' 0 12 = f 0 12) (e3 : f' 0 13 = f 0 13) (e4 : f' 4 = f 4) (e5 : f' 5 = f 5) : TrI f' := by
  intro hn
  rw [e1] at hn
  obtain ⟨p, S, U, a1, a2, a3, a4, a5, a6, a7, a8⟩ := h hn
  exact ⟨p, S, U, a1, a2, a3, e1.trans a4, e2.trans a5, e3.trans a6, by rw [e4]; exact a7, by rw [e4, e5]; exact a8⟩
theorem TrI.no (e : f 0 11 = -1) : TrI f := fun hn => absurd e hn
theorem TrI.ca : TrI (caS f) := TrI.no (by rw [caS_at, if_pos (by omega)])
/-- a transfer's ends are connected, in a State that agrees with a good block -/
theorem tr_conn (hS : Sim f s 0) (j3 : J3 s 0) (hn : ¬ f 0 11 = -1) {S U : Nat} (hs : S < 6) (hu : U < 6) (e1 : f 0 12 = nI S) (e2 : f 0 13 = nI U) : tb (f 0 7) (nI S) = true ∧ tb (f 0 7) (nI U) = true ∧ f 1 U = nI 1 ∧ S ≠ U := by
  have e4 : f 0 11 = s (0 + 4) := hS.1.2.2.2
  rw [e4] at hn
  obtain ⟨p, S', U', a1, a2, a3, a4, a5, a6, a7, a8, a9, b1, b2⟩ := j3 hn
  obtain ⟨c1, c2, -⟩ := hS.2.2.1 hn
  have g1 : S' = S := (nI_eq (by omega) (by omega)).mp (a6.symm.trans (c1.symm.trans e1))
  have g2 : U' = U := (nI_eq (by omega) (by omega)).mp (a7.symm.trans (c2.symm.trans e2))
  subst g1; subst g2
  have hc := hS.2.2.2.2.1
  refine ⟨?_, ?_, ?_, a4⟩
  · rw [hc S' (by omega), decide_eq_true hs, decide_eq_true a9]; rfl
  · rw [hc U' (by omega), decide_eq_true hu, decide_eq_true b1]; rfl
  · exact (hS.2.2.2.1 U' hu).1.trans b2
/-! the operations -/
theorem plS_o {p r : Nat} (hr : r ≠ 4) : plS f p r = f r := by
  cases hb : bestO f p with
  | none => rw [plS_n hb]
  | some u => rw [plS_s hb]; exact put_n hr
theorem plS_q {p q h : Nat} (hp : p < 32) (hq : q < 32) (hn : q ≠ p) : tb (plS f p 4 h) (nI q) = tb (f 4 h) (nI q) := by
  cases hb : bestO f p with
  | none => rw [plS_n hb]
  | some u =>
    rw [plS_s hb, put_at]
    split
    · rename_i e
      obtain ⟨-, rfl⟩ := e
      rw [bitP_or hp hq, decide_eq_false hn, Bool.or_false]
    · rfl
theorem plS_ct {p h : Nat} : plS f p 1 h = nI 1 ∨ ctH (plS f p) h = ctH f h := by
  by_cases e : f 1 h = nI 1
  · exact Or.inl (by rw [plS_o (by decide)]; exact e)
  · refine Or.inr (ctH_cong ?_ (by rw [plS_o (by decide)]))
    cases hu : bestO f p with
    | none => rw [plS_n hu]
    | some u =>
      rw [plS_s hu, put_at, if_neg]
      rintro ⟨-, rfl⟩
      exact e (best_no hu).2.1
theorem TrI.pl {p : Nat} (h : TrI f) (hp : p < 30) (hne : ∀ q, f 0 11 = nI q → q < 30 → q ≠ p) : TrI (plS f p) := by
  intro hn
  rw [plS_o (by decide)] at hn
  obtain ⟨q, S, U, a1, a2, a3, a4, a5, a6, a7, a8⟩ := h hn
  have hq := hne q a4 a1
  refine ⟨q, S, U, a1, a2, a3, by rw [plS_o (by decide)]; exact a4, by rw [plS_o (by decide)]; exact a5, by rw [plS_o (by decide)]; exact a6, by rw [plS_q (by omega) (by omega) hq]; exact a7, ?_⟩
  rw [tb_orr (by omega)] at a8 ⊢
  rw [plS_q (by omega) (by omega) hq, plS_o (by decide)]
  exact a8
theorem xt_store (hX : XtS f) {p : Nat} {v : Int32} (hp : p < 30) (hS : Sim f s 0) (he : exS f p = false) (hS' : Sim (seS (adG f p v)) s' 0) (j4 : J4 s' 0) : XtS (seS (adG f p v)) := by
  obtain ⟨hH, hT⟩ := hX
  have hne : ∀ q, f 0 11 = nI q → q < 30 → q ≠ p := by
    intro q e hq e2
    subst e2
    have hn : ¬ f 0 11 = -1 := by rw [e]; exact ni_m1 (by omega)
    obtain ⟨q2, S, U, a1, a2, a3, a4, a5, a6, a7, a8⟩ := hT hn
    have g1 : q = q2 := (nI_eq (by omega) (by omega)).mp (e.symm.trans a4)
    subst g1
    have h7 := (hS.2.2.2.2.2.2 S a2 q (by omega)).1
    rw [a7, decide_eq_true hq, Bool.true_and] at h7
    have h8 := fs_th h7.symm
    have h9 := (hS.2.2.2.2.2.1 q hq).1
    rw [h8] at h9
    unfold exS at he
    rw [he] at h9
    cases h9
  refine ⟨hd_of hS' j4 fun h hh => ?_, tr_se ?_⟩
  · have e0 : ctH (seS (adG f p v)) h = ctH (adG f p v) h := ctH_cong (by rw [seS_row (by decide) (by decide)]) (by rw [seS_row (by decide) (by decide)])
    have e1 : ctH (put (put f 0 6 (f 0 6 ||| bitP p)) 6 p v) h = ctH f h := ctH_cong (by rw [put_n (by decide), put_n (by decide)]) (by rw [put_n (by decide), put_n (by decide)])
    rw [e0]
    unfold adG
    generalize put (put f 0 6 (f 0 6 ||| bitP p)) 6 p v = f1 at e1
    rcases plS_ct (f := plS f1 p) (p := p) (h := h) with q | q
    · exact Or.inl (seS_len q)
    · rcases plS_ct (f := f1) (p := p) (h := h) with q2 | q2
      · exact Or.inl (seS_len (by rw [plS_o (by decide)]; exact q2))
      · exact Or.inr (by rw [q, q2, e1]; exact hH h hh)
  · unfold adG
    refine TrI.pl (TrI.pl (f := put (put f 0 6 (f 0 6 ||| bitP p)) 6 p v) (hT.cong ?_ ?_ ?_ ?_ ?_) hp ?_) hp ?_
    · rw [put_n (by decide), put_at, if_neg (by decide)]
    · rw [put_n (by decide), put_at, if_neg (by decide)]
    · rw [put_n (by decide), put_at, if_neg (by decide)]
    · rw [put_n (by decide), put_n (by decide)]
    · rw [put_n (by decide), put_n (by decide)]
    · rw [put_n (by decide), put_at, if_neg (by decide)]; exact hne
    · rw [plS_o (by decide), put_n (by decide), put_at, if_neg (by decide)]; exact hne
theorem od_ct {p h : Nat} (hp : p < 32) : ctH (odS f p 6) h = ctH f h := by
  unfold ctH
  congr 1
  funext i
  by_cases hi : i < 32
  · rw [odS_at, odS_at]
    simp only [reduceIte, Nat.reduceEqDiff, false_and]
    split
    · rw [← tb_bt hi, ← tb_bt hi, tb_orr hi, tb_orr hi, bitP_off hp hi, tb_orr hi, tb_and hi, bitP_is hp hi]
      cases tb (f 4 h) (nI i) <;> cases tb (f 5 h) (nI i) <;> by_cases q : i = p <;> simp [q]
    · rfl
  · rw [b_big (by omega), b_big (by omega)]
theorem TrI.od (h : TrI f) {p : Nat} (hp : p < 30) (hc : ∀ S U, S < 6 → U < 6 → ¬ f 0 11 = -1 → f 0 12 = nI S → f 0 13 = nI U → tb (f 0 7) (nI S) = true ∧ tb (f 0 7) (nI U) = true) : TrI (odS f p 6) := by
  have e0 : odS f p 6 0 = f 0 := by funext j; exact odS_o (by decide) (by decide)
  intro hn
  rw [e0] at hn
  obtain ⟨q, S, U, a1, a2, a3, a4, a5, a6, a7, a8⟩ := h hn
  obtain ⟨c1, c2⟩ := hc S U a2 a3 hn a5 a6
  refine ⟨q, S, U, a1, a2, a3, by rw [e0]; exact a4, by rw [e0]; exact a5, by rw [e0]; exact a6, ?_, ?_⟩
  · rw [odS_at, if_neg (fun z => absurd z.1 (by decide)), if_neg (by rw [c1]; simp)]; exact a7
  · rw [odS_at (r := 4), odS_at (r := 5), if_neg (fun z => absurd z.1 (by decide)), if_neg (by rw [c2]; simp), if_neg (by rw [c2]; simp), if_neg (fun z => absurd z.1 (by decide))]; exact a8
theorem xt_write (hX : XtS f) {p : Nat} {v : Int32} (hp : p < 30) (hS : Sim f s 0) (j3 : J3 s 0) (hS' : Sim (owG f p v) s' 0) (j4 : J4 s' 0) : XtS (owG f p v) := by
  obtain ⟨hH, hT⟩ := hX
  refine ⟨fun h hh => ?_, tr_se ?_⟩
  · unfold owG
    rw [ctH_cong (f := odS (put f 6 p v) p 6) (by rw [seS_row (by decide) (by decide)]) (by rw [seS_row (by decide) (by decide)]), od_ct (by omega), ctH_cong (f := f) (by rw [put_n (by decide)]) (by rw [put_n (by decide)])]
    exact hH h hh
  · refine TrI.od (f := put f 6 p v) (hT.cong ?_ ?_ ?_ ?_ ?_) hp ?_
    · rw [put_n (by decide)]
    · rw [put_n (by decide)]
    · rw [put_n (by decide)]
    · rw [put_n (by decide)]
    · rw [put_n (by decide)]
    · rw [put_n (by decide)]
      intro S U hs hu hn e1 e2
      have := tr_conn hS j3 hn hs hu e1 e2
      exact ⟨this.1, this.2.1⟩
theorem drL_ct {p h : Nat} : ctH (drL f p 6) h ≤ ctH f h := by
  refine ct_sub fun i hi hb => ?_
  rw [b_or] at hb ⊢
  have e5 : drL f p 6 5 h = f 5 h := by rw [drL_at, if_neg (fun z => absurd z.1 (by decide))]
  rw [e5, drL_at] at hb
  split at hb
  · rw [b_and] at hb
    cases h4 : bt (f 4 h) i with
    | true => rfl
    | false =>
      rw [h4, Bool.false_and] at hb
      rw [Bool.false_or] at hb ⊢
      exact hb
  · exact hb
theorem xt_remove (hX : XtS f) {p : Nat} (hp : p < 30) (hS : Sim f s 0) (j3 : J3 s 0) : XtS (drG f p) := by
  obtain ⟨hH, hT⟩ := hX
  have hod : TrI (odS f p 6) := hT.od hp fun S U hs hu hn e1 e2 => by
    have := tr_conn hS j3 hn hs hu e1 e2
    exact ⟨this.1, this.2.1⟩
  have hc : ∀ h, ctH (odS f p 6) h = ctH f h := fun h => od_ct (by omega)
  unfold drG
  generalize odS f p 6 = f1 at hod hc
  have r1 : ∀ r, r ≠ 0 → drG1 (drL f1 p 6) p r = drL f1 p 6 r := fun r hr => put_n hr
  have r0 : ∀ j, j ≠ 6 → drG1 (drL f1 p 6) p 0 j = f1 0 j := fun j hj => by
    unfold drG1
    rw [put_at, if_neg (fun z => hj z.2), drL_at, if_neg (fun z => absurd z.1 (by decide))]
  have r2 : ∀ r, r ≠ 0 → drG2 (drG1 (drL f1 p 6) p) p r = drL f1 p 6 r := fun r hr => by
    unfold drG2
    split
    · rw [caS_row (by omega)]; exact r1 r hr
    · exact r1 r hr
  refine ⟨fun h hh => ?_, tr_se ?_⟩
  · rw [ctH_cong (f := drL f1 p 6) (by rw [seS_row (by decide) (by decide), r2 4 (by decide)]) (by rw [seS_row (by decide) (by decide), r2 5 (by decide)])]
    exact Nat.le_trans drL_ct (by rw [hc]; exact hH h hh)
  · unfold drG2
    split
    · exact TrI.ca
    · rename_i hne
      rw [r0 11 (by decide)] at hne
      intro hn
      rw [r0 11 (by decide)] at hn
      obtain ⟨q, S, U, a1, a2, a3, a4, a5, a6, a7, a8⟩ := hod hn
      have hqp : q ≠ p := fun e => hne (by rw [a4, e])
      have hb : ∀ h, tb (drL f1 p 6 4 h) (nI q) = tb (f1 4 h) (nI q) := fun h => by
        rw [drL_at]
        split
        · rw [bitP_off (by omega) (by omega), decide_eq_true hqp, Bool.and_true]
        · rfl
      have h5 : drL f1 p 6 5 = f1 5 := by funext j; rw [drL_at, if_neg (fun z => absurd z.1 (by decide))]
      refine ⟨q, S, U, a1, a2, a3, by rw [r0 11 (by decide)]; exact a4, by rw [r0 12 (by decide)]; exact a5, by rw [r0 13 (by decide)]; exact a6, ?_, ?_⟩
      · rw [r1 4 (by decide), hb]; exact a7
      · rw [r1 4 (by decide), r1 5 (by decide), tb_orr (by omega), hb, h5, ← tb_orr (by omega)]; exact a8
theorem xt_lend (hX : XtS f) {h : Nat} {c : Int32} : XtS (seS (beG f h c)) := by
  obtain ⟨hH, hT⟩ := hX
  have r : ∀ r, r ≠ 1 → r ≠ 2 → beG f h c r = f r := fun r h1 h2 => by unfold beG; rw [put_n h2, put_n h1]
  refine ⟨fun k hk => ?_, tr_se (hT.cong ?_ ?_ ?_ ?_ ?_)⟩
  · rw [ctH_cong (f := f) (by rw [seS_row (by decide) (by decide), r 4 (by decide) (by decide)]) (by rw [seS_row (by decide) (by decide), r 5 (by decide) (by decide)])]
    exact hH k hk
  · rw [r 0 (by decide) (by decide)]
  · rw [r 0 (by decide) (by decide)]
  · rw [r 0 (by decide) (by decide)]
  · rw [r 4 (by decide) (by decide)]
  · rw [r 5 (by decide) (by decide)]
theorem xt_recall (hX : XtS f) {h : Nat} {x : Int32} : XtS (cbG f h x) := by
  obtain ⟨hH, hT⟩ := hX
  have r : ∀ r, r ≠ 1 → r ≠ 3 → cbG1 f h x r = f r := fun r h1 h2 => by unfold cbG1; rw [put_n h2, put_n h1]
  have r2 : ∀ r, r ≠ 0 → r ≠ 1 → r ≠ 3 → (if cbG1 f h x 0 13 = nI h then caS (cbG1 f h x) else cbG1 f h x) r = f r := fun k h0 h1 h2 => by
    split
    · rw [caS_row (by omega), r k h1 h2]
    · exact r k h1 h2
  unfold cbG
  refine ⟨fun k hk => ?_, tr_se ?_⟩
  · rw [ctH_cong (f := f) (by rw [seS_row (by decide) (by decide), r2 4 (by decide) (by decide) (by decide)]) (by rw [seS_row (by decide) (by decide), r2 5 (by decide) (by decide) (by decide)])]
    exact hH k hk
  · split
    · exact TrI.ca
    · exact hT.cong (by rw [r 0 (by decide) (by decide)]) (by rw [r 0 (by decide) (by decide)]) (by rw [r 0 (by decide) (by decide)]) (by rw [r 4 (by decide) (by decide)]) (by rw [r 5 (by decide) (by decide)])
theorem ctS_row {h r : Nat} (hr : 1 ≤ r) : ctS f h r = f r := by
  unfold ctS
  (repeat' split) <;> first | rfl | exact caS_row hr
theorem ctS_0 {h j : Nat} (hj : j ≠ 11 ∧ j ≠ 12 ∧ j ≠ 13) : ctS f h 0 j = f 0 j := by
  unfold ctS
  (repeat' split) <;> first | rfl | (rw [caS_at, if_neg (by omega)])
theorem TrI.ct (h : TrI f) {k : Nat} : TrI (ctS f k) := by
  unfold ctS
  split
  · exact TrI.ca
  · split
    · exact TrI.ca
    · exact h
theorem xt_disc (hX : XtS f) {h : Nat} : XtS (deG f h) := by
  obtain ⟨hH, hT⟩ := hX
  unfold deG
  refine ⟨fun k hk => ?_, tr_se (TrI.ct (hT.cong ?_ ?_ ?_ ?_ ?_))⟩
  · rw [ctH_cong (f := f) (by rw [seS_row (by decide) (by decide), ctS_row (by decide), put_n (by decide)]) (by rw [seS_row (by decide) (by decide), ctS_row (by decide), put_n (by decide)])]
    exact hH k hk
  · rw [put_at, if_neg (by decide)]
  · rw [put_at, if_neg (by decide)]
  · rw [put_at, if_neg (by decide)]
  · rw [put_n (by decide)]
  · rw [put_n (by decide)]
/-- host h alone changes, and the transfer goes where it is one of its ends -/
theorem TrI.host {h : Nat} (hT : TrI f) (e0 : ∀ j, j = 11 ∨ j = 12 ∨ j = 13 → f' 0 j = f 0 j) (e4 : ∀ k, k ≠ h → f' 4 k = f 4 k ∧ f' 5 k = f 5 k) : TrI (ctS f' h) := by
  unfold ctS
  split
  · exact TrI.ca
  · split
    · exact TrI.ca
    · rename_i h1 h2
      intro hn
      rw [e0 11 (by omega)] at hn
      obtain ⟨q, S, U, a1, a2, a3, a4, a5, a6, a7, a8⟩ := hT hn
      rw [e0 12 (by omega)] at h1
      rw [e0 13 (by omega)] at h2
      have n1 : S ≠ h := fun e => h1 (by rw [a5, e])
      have n2 : U ≠ h := fun e => h2 (by rw [a6, e])
      refine ⟨q, S, U, a1, a2, a3, by rw [e0 11 (by omega)]; exact a4, by rw [e0 12 (by omega)]; exact a5, by rw [e0 13 (by omega)]; exact a6, ?_, ?_⟩
      · rw [(e4 S n1).1]; exact a7
      · rw [(e4 U n2).1, (e4 U n2).2]; exact a8
theorem bt_nI0 (i : Nat) : bt (nI 0) i = false := b_0 i
theorem lvS_ct {h k : Nat} : ctH (lvS f h) k ≤ ctH f k := by
  refine ct_sub fun i hi hb => ?_
  rw [lvS_at, lvS_at] at hb
  split at hb
  · rename_i e
    rw [if_pos (by omega), b_or, bt_nI0] at hb
    cases hb
  · rename_i e
    rw [if_neg (by omega)] at hb
    exact hb
theorem xt_crash (hX : XtS f) {h : Nat} : XtS (brG f h) := by
  obtain ⟨hH, hT⟩ := hX
  have r : ∀ r, r ≠ 0 → brG1 f h r = lvS f h r := fun r hr => by unfold brG1; exact put_n hr
  unfold brG
  refine ⟨fun k hk => ?_, tr_se (TrI.host hT (fun j hj => ?_) (fun k hk => ⟨?_, ?_⟩))⟩
  · rw [ctH_cong (f := lvS f h) (by rw [seS_row (by decide) (by decide), ctS_row (by decide), r 4 (by decide)]) (by rw [seS_row (by decide) (by decide), ctS_row (by decide), r 5 (by decide)])]
    exact Nat.le_trans lvS_ct (hH k hk)
  · unfold brG1
    rw [put_at, if_neg (by omega), lvS_at, if_neg (by omega)]
  · rw [r 4 (by decide), lvS_at, if_neg (fun z => hk z.2)]
  · rw [r 5 (by decide), lvS_at, if_neg (fun z => hk z.2)]
theorem xt_recon (hX : XtS f) {h : Nat} (hS : Sim f s 0) (j3 : J3 s 0) (hd : tb (f 0 7) (nI h) = false) : XtS (atG f h) := by
  obtain ⟨hH, hT⟩ := hX
  have a4 : ∀ k, (put (put (put f 0 7 (f 0 7 ||| bitP h)) 4 h (f 4 h &&& (suS f h ^^^ (-1)))) 5 h (nI 0)) 4 k = if k = h then f 4 h &&& (suS f h ^^^ (-1)) else f 4 k := fun k => by
    rw [put_n (by decide), put_at]
    by_cases q : k = h
    · rw [if_pos ⟨rfl, q⟩, if_pos q]
    · rw [if_neg (fun z => q z.2), if_neg q, put_n (by decide)]
  have a5 : ∀ k, (put (put (put f 0 7 (f 0 7 ||| bitP h)) 4 h (f 4 h &&& (suS f h ^^^ (-1)))) 5 h (nI 0)) 5 k = if k = h then nI 0 else f 5 k := fun k => by
    rw [put_at]
    by_cases q : k = h
    · rw [if_pos ⟨rfl, q⟩, if_pos q]
    · rw [if_neg (fun z => q z.2), if_neg q, put_n (by decide), put_n (by decide)]
  have a0 : ∀ j, j ≠ 7 → (put (put (put f 0 7 (f 0 7 ||| bitP h)) 4 h (f 4 h &&& (suS f h ^^^ (-1)))) 5 h (nI 0)) 0 j = f 0 j := fun j hj => by
    rw [put_n (by decide), put_n (by decide), put_at, if_neg (fun z => hj z.2)]
  unfold atG
  generalize put (put (put f 0 7 (f 0 7 ||| bitP h)) 4 h (f 4 h &&& (suS f h ^^^ (-1)))) 5 h (nI 0) = f1 at a4 a5 a0
  refine ⟨fun k hk => ?_, tr_se ?_⟩
  · rw [ctH_cong (f := f1) (by rw [seS_row (by decide) (by decide)]) (by rw [seS_row (by decide) (by decide)])]
    refine Nat.le_trans (ct_sub fun i hi hb => ?_) (hH k hk)
    rw [a4, a5] at hb
    by_cases q : k = h
    · rw [if_pos q, if_pos q, b_or, bt_nI0, Bool.or_false, b_and] at hb
      rw [b_or, q]
      cases h4 : bt (f 4 h) i with
      | true => rfl
      | false => rw [h4, Bool.false_and] at hb; cases hb
    · rw [if_neg q, if_neg q] at hb; exact hb
  · intro hn
    rw [a0 11 (by decide)] at hn
    obtain ⟨q, S, U, b1, b2, b3, b4, b5, b6, b7, b8⟩ := hT hn
    obtain ⟨c1, c2, -⟩ := tr_conn hS j3 hn b2 b3 b5 b6
    have n1 : S ≠ h := fun e => by rw [e, hd] at c1; cases c1
    have n2 : U ≠ h := fun e => by rw [e, hd] at c2; cases c2
    refine ⟨q, S, U, b1, b2, b3, by rw [a0 11 (by decide)]; exact b4, by rw [a0 12 (by decide)]; exact b5, by rw [a0 13 (by decide)]; exact b6, ?_, ?_⟩
    · rw [a4, if_neg n1]; exact b7
    · rw [a4, a5, if_neg n2, if_neg n2]; exact b8
theorem xt_stt (hX : XtS f) {x : Int32} : XtS (put f 0 9 x) := by
  obtain ⟨hH, hT⟩ := hX
  refine ⟨fun k hk => ?_, hT.cong ?_ ?_ ?_ ?_ ?_⟩
  · rw [ctH_cong (f := f) (by rw [put_n (by decide)]) (by rw [put_n (by decide)])]
    exact hH k hk
  · rw [put_at, if_neg (by decide)]
  · rw [put_at, if_neg (by decide)]
  · rw [put_at, if_neg (by decide)]
  · rw [put_n (by decide)]
  · rw [put_n (by decide)]
end
