/-! a second passes: the completion, the deadlines -/
theorem co2_at {s : NV} {b i : Nat} : co2 s b i = if i = b + 3 then s (b + 3) + nI 1 else if i = b + 4 then -1 else s i := by
  unfold co2
  rw [upd_n (show ¬ b + 3 = b + 4 by omega)]
  rfl
theorem lr_co2 {s : NV} {b h p : Nat} {x : Int32} : co2 (lrM s b h p x) b = lrM (co2 s b) b h p x := by
  funext i
  unfold lrM
  rw [co2_at]
  by_cases e : i = b + 92 + 30 * h + p
  · rw [upd_e e, if_neg (by omega), if_neg (by omega), upd_e e]
  · rw [upd_n e, upd_n e, upd_n (by omega), co2_at]
theorem lr_lr {s : NV} {b h k p q : Nat} {x y : Int32} (hn : h ≠ k) (hp : p < 30) (hq : q < 30) : lrM (lrM s b h p x) b k q y = lrM (lrM s b k q y) b h p x := by
  funext i
  unfold lrM upd
  by_cases e1 : i = b + 92 + 30 * k + q
  · rw [if_pos e1, if_neg (by omega), if_pos e1]
  · rw [if_neg e1, if_neg e1]
theorem co2_c {s : NV} {b B : Nat} (hJ : JC s b B) : JC (co2 s b) b B := by
  refine hJ.top (fun j h1 _ => ?_) ?_ (Or.inl ?_)
  · rw [co2_at, if_neg (by omega), if_neg (by omega)]
  · rw [co2_at, if_neg (by omega), if_neg (by omega)]
  · rw [co2_at, if_neg (by omega), if_pos rfl]
theorem coG1_at {f : SV} {j : Nat} : coG1 f 0 j = if j = 10 then f 0 10 + nI 1 else caS f 0 j := by
  unfold coG1
  rw [put_at, show caS f 0 10 = f 0 10 by rw [caS_at, if_neg (by decide)]]
  by_cases e : j = 10
  · rw [if_pos ⟨rfl, e⟩, if_pos e]
  · rw [if_neg (fun z => e z.2), if_neg e]
theorem coG1_row {f : SV} {k : Nat} (hk : 1 ≤ k) : coG1 f k = f k := by
  unfold coG1
  rw [put_n (by omega), caS_row hk]
theorem sim_co2 {f : SV} {s : NV} {b : Nat} (hS : Sim f s b) : Sim (coG1 f) (co2 s b) b := by
  have a := hS.a
  refine Sim.top hS ?_ (fun k h1 _ => coG1_row h1) (by rw [coG1_at, if_neg (by decide), caS_at, if_neg (by decide)]) (by rw [coG1_at, if_neg (by decide), caS_at, if_neg (by decide)]) (fun j h1 _ => by rw [co2_at, if_neg (by omega), if_neg (by omega)])
  unfold SA at a ⊢
  rw [coG1_at, coG1_at, coG1_at, coG1_at, coG1_at, coG1_at, coG1_at, if_neg (show ¬ 8 = 10 by decide), if_neg (show ¬ 9 = 10 by decide), if_pos rfl, if_neg (show ¬ 11 = 10 by decide), if_neg (show ¬ 12 = 10 by decide), if_neg (show ¬ 13 = 10 by decide), if_neg (show ¬ 14 = 10 by decide)]
  rw [caS_at, caS_at, caS_at, caS_at, caS_at, caS_at, if_neg (by decide), if_neg (by decide), if_pos (by decide), if_pos (by decide), if_pos (by decide), if_neg (by decide)]
  rw [co2_at, co2_at, co2_at, co2_at, co2_at, co2_at, co2_at, if_neg (by omega), if_neg (by omega), if_neg (by omega), if_neg (by omega), if_pos rfl, if_neg (by omega), if_pos rfl]
  exact ⟨⟨a.1.1, a.1.2.1, by rw [a.1.2.2.1], rfl⟩, fun _ => ⟨rfl, rfl⟩, fun h => absurd rfl h⟩
theorem isR_nI {p n : Nat} (hp : p < n) (hn : n ≤ 1000) : isR (nI p) n = true := isR_t hp hn
theorem ixN_n {p : Nat} (hp : p < 1000) : ixN (nI p) = p := nI_clamp (by omega)
/-- a completion, both sides -/
theorem co_all {f : SV} {s : NV} {b B : Nat} (hS : Sim f s b) (hJ : JC s b B) (h4 : ¬ s (b + 4) = -1) : Sim (coG f) (coM s b) b ∧ JC (coM s b) b B := by
  obtain ⟨P, S, U, g1, g2, g3, g4, g5, g6, g7, g8, g9, g10, g11⟩ := hJ.2.2.1 h4
  obtain ⟨a12, a13, -⟩ := hS.a.2.2 h4
  have a11 := hS.a.1.2.2.2
  have eG : coG f = coG2 (coG1 f) P S U := by
    unfold coG
    rw [a11, a12, a13, g5, g6, g7, isR_nI g1 (by decide), isR_nI g2 (by decide), isR_nI g3 (by decide), if_pos rfl, if_pos rfl, if_pos rfl, ixN_n (by omega), ixN_n (by omega), ixN_n (by omega)]
  have eM : coM s b = co2 (co1 s b P S U) b := by
    unfold coM
    rw [g5, g6, g7, ixN_n (by omega), ixN_n (by omega), ixN_n (by omega)]
  have S1 := sim_co2 hS
  have K1 := co2_c hJ
  have o2 : ∀ j, 5 ≤ j → co2 s b (b + j) = s (b + j) := fun j hj => by rw [co2_at, if_neg (by omega), if_neg (by omega)]
  have Q1 : Eqc (co2 s b) s b 8 272 := fun j hj _ => o2 j (by omega)
  have hof : ∀ k w, k < 6 → w < 4 → ofM (co2 s b) b k w = ofM s b k w := fun k w hk hw => Eqc.of (Q1.part (by decide) (by decide)) hk hw
  have est : co2 s b (b + 32 + P) = s (b + 32 + P) := by
    have := o2 (32 + P) (by omega)
    rw [← Nat.add_assoc] at this
    exact this
  have eth : thM (co2 s b) b P = true := by rw [Eqc.th (Q1.part (by decide) (by decide)) g1]; exact g8
  have ecp : cpM (co2 s b) b P = cpM s b P := by
    have hcp : ∀ k, k ≤ 6 → cpML (co2 s b) b P k = cpML s b P k := by
      intro k
      induction k with
      | zero => intro _; rfl
      | succ k ih => intro hk; rw [cpML, cpML, ih (by omega), cpMb, cpMb, hof k 1 (by omega) (by decide), Eqc.rp (Q1.part (by decide) (by decide)) (by omega) g1]
    exact hcp 6 (Nat.le_refl 6)
  have hroom : ∃ c, c ≤ 20 ∧ ofM (co2 s b) b U 2 = nI c ∧ usM (co2 s b) b U < c := by
    obtain ⟨c, c1, c2, c3⟩ := (hJ.2.2.2 U g3).2.2 g11
    refine ⟨c, c1, by rw [hof U 2 g3 (by decide)]; exact c2, ?_⟩
    unfold usM at c3 ⊢
    have e4 : co2 s b (b + 4) = -1 := by rw [co2_at, if_neg (by omega), if_pos rfl]
    rw [Eqc.hd (Q1.part (by decide) (by decide)) g3, e4, if_pos rfl]
    rw [if_neg h4, g7, if_pos rfl] at c3
    omega
  have cU : ofM (co2 s b) b U 1 = nI 1 := by rw [hof U 1 g3 (by decide)]; exact g10
  have cS : ofM (co2 s b) b S 1 = nI 1 := by rw [hof S 1 g2 (by decide)]; exact g9
  have mU : ofM (co2 s b) b U 0 = nI 1 := by rw [hof U 0 g3 (by decide)]; exact g11
  have KU : JC (lrM (co2 s b) b U P (s (b + 32 + P))) b B := K1.lr g3 g1 (Or.inr ⟨est.symm, eth, mU, hroom⟩)
  rw [eG, eM]
  unfold coG2 co1
  rw [coG1_row (by decide : 1 ≤ 1), (hS.h S g2).1, sim_bc S1 K1.2.1 g1, ecp]
  by_cases hm : ofM s b S 0 = nI 2
  · rw [if_pos hm, if_pos hm, lr_co2, lr_co2]
    refine ⟨?_, KU.lr g2 g1 (Or.inl rfl)⟩
    rw [lr_lr (Ne.symm g4) g1 g1]
    have n1 : tb (coG1 f 5 S) (nI P) = false := S1.ns K1.2.1 g2 g1 cS
    have S2 := sim_lr0 S1 g2 g1 n1
    have K2 : JC (lrM (co2 s b) b S P (nI 0)) b B := K1.lr g2 g1 (Or.inl rfl)
    have n2 : tb (put (coG1 f) 4 S (coG1 f 4 S &&& (bitP P ^^^ (-1))) 5 U) (nI P) = false := S2.ns K2.2.1 g3 g1 (by rw [lr_of g2 g1 g3 (by decide)]; exact cU)
    exact sim_lrF S2 g3 g1 (by rw [lr_th g1]; exact eth) n2 (by rw [lr_st g1]; exact est.symm)
  · rw [if_neg hm, if_neg hm]
    by_cases ho : onM (cpM s b P) = nI 1
    · rw [if_pos ho, if_pos ho, lr_co2]
      exact ⟨sim_lrF S1 g3 g1 eth (S1.ns K1.2.1 g3 g1 cU) est.symm, KU⟩
    · rw [if_neg ho, if_neg ho]
      exact ⟨S1, K1⟩
/-- the block but for its replicas and what stands ahead of the hosts' numbers -/
theorem co_o {s : NV} {b B : Nat} (hJ : JC s b B) (h4 : ¬ s (b + 4) = -1) : (∀ j, j < 92 → j ≠ 3 → j ≠ 4 → coM s b (b + j) = s (b + j)) ∧ coM s b (b + 4) = -1 ∧ coM s b (b + 3) = s (b + 3) + nI 1 ∧ (∀ i, (i < b ∨ b + 272 ≤ i) → coM s b i = s i) := by
  obtain ⟨P, S, U, g1, g2, g3, g4, g5, g6, g7, -⟩ := hJ.2.2.1 h4
  have eM : coM s b = co2 (co1 s b P S U) b := by
    unfold coM
    rw [g5, g6, g7, ixN_n (by omega), ixN_n (by omega), ixN_n (by omega)]
  have o1 : ∀ i, (i < b + 92 ∨ b + 272 ≤ i) → co1 s b P S U i = s i := fun i hi => by
    unfold co1
    split
    · unfold lrM
      rw [upd_n (by omega), upd_n (by omega)]
    · split
      · unfold lrM
        rw [upd_n (by omega)]
      · rfl
  rw [eM]
  refine ⟨fun j h1 h2 h3 => ?_, ?_, ?_, fun i hi => ?_⟩
  · rw [co2_at, if_neg (by omega), if_neg (by omega), o1 _ (by omega)]
  · rw [co2_at, if_neg (by omega), if_pos rfl]
  · rw [co2_at, if_pos rfl, o1 _ (by omega)]
  · rw [co2_at, if_neg (by omega), if_neg (by omega), o1 _ (by omega)]
/-- one deadline looked at, on the model's side -/
theorem exM_s {s : NV} {b k : Nat} : exM s b (k + 1) = if ofM (exM s b k) b k 0 = nI 2 then (if ofM (exM s b k) b k 3 = exM s b k (b + 0) then caM (lvM (exM s b k) b k) b k true else exM s b k) else exM s b k := rfl
/-- the deadlines, both sides: what is left of the recalled hosts has a later deadline -/
theorem ex_all {f : SV} {s : NV} {b B t T : Nat} (hS : Sim f s b) (hJ : JC s b B) (ht : t ≤ 1000600) (h0 : s (b + 0) = nI t) (hd : ∀ h, h < 6 → ofM s b h 0 = nI 2 → ∃ d, t ≤ d ∧ d ≤ T ∧ ofM s b h 3 = nI d) (hT : T ≤ 2000000) : ∀ k, k ≤ 6 → Sim (exL f k) (exM s b k) b ∧ JC (exM s b k) b B ∧ (∀ j, j < 8 → j ≠ 4 → exM s b k (b + j) = s (b + j)) ∧ (exM s b k (b + 4) = -1 ∨ exM s b k (b + 4) = s (b + 4)) ∧ (∀ h, h < 6 → ofM (exM s b k) b h 0 = nI 2 → ∃ d, t ≤ d ∧ (h < k → t < d) ∧ d ≤ T ∧ ofM (exM s b k) b h 3 = nI d) ∧ (∀ i, (i < b ∨ b + 272 ≤ i) → exM s b k i = s i) := by
  intro k
  induction k with
  | zero => intro _; exact ⟨hS, hJ, fun _ _ _ => rfl, Or.inr rfl, fun h hh e => by obtain ⟨d, d1, d2, d3⟩ := hd h hh e; exact ⟨d, d1, fun z => absurd z (Nat.not_lt_zero h), d2, d3⟩, fun _ _ => rfl⟩
  | succ k ih =>
    intro hk
    obtain ⟨i1, i2, i3, i4, i5, i6⟩ := ih (by omega)
    have hk6 : k < 6 := by omega
    have m1 := (i1.h k hk6).1
    have m3 := (i1.h k hk6).2.2
    have m8 : exL f k 0 8 = exM s b k (b + 0) := i1.a.1.1
    rw [exM_s, exL, m1, m3, m8]
    have e0 : exM s b k (b + 0) = nI t := (i3 0 (by decide) (by decide)).trans h0
    have pass : ∀ X : SV, (¬ (ofM (exM s b k) b k 0 = nI 2 ∧ ofM (exM s b k) b k 3 = exM s b k (b + 0))) → Sim X (exM s b k) b → Sim X (exM s b k) b ∧ JC (exM s b k) b B ∧ (∀ j, j < 8 → j ≠ 4 → exM s b k (b + j) = s (b + j)) ∧ (exM s b k (b + 4) = -1 ∨ exM s b k (b + 4) = s (b + 4)) ∧ (∀ h, h < 6 → ofM (exM s b k) b h 0 = nI 2 → ∃ d, t ≤ d ∧ (h < k + 1 → t < d) ∧ d ≤ T ∧ ofM (exM s b k) b h 3 = nI d) ∧ (∀ i, (i < b ∨ b + 272 ≤ i) → exM s b k i = s i) := fun X hn hX => by
      refine ⟨hX, i2, i3, i4, fun h hh e => ?_, i6⟩
      obtain ⟨d, d1, d2, d3, d4⟩ := i5 h hh e
      refine ⟨d, d1, fun hl => ?_, d3, d4⟩
      rcases Nat.lt_or_ge h k with q | q
      · exact d2 q
      · have ek : h = k := by omega
        subst ek
        refine Classical.byContradiction fun hx => hn ⟨e, ?_⟩
        rw [d4, e0, show d = t by omega]
    by_cases q1 : ofM (exM s b k) b k 0 = nI 2
    · rw [if_pos q1, if_pos q1]
      by_cases q2 : ofM (exM s b k) b k 3 = exM s b k (b + 0)
      · rw [if_pos q2, if_pos q2]
        refine ⟨sim_ctS hk6 (sim_lq i1 hk6), lq_J hk6 i2 (Or.inl rfl), fun j hj h4 => ?_, ?_, fun h hh e => ?_, fun i hi => ?_⟩
        · rw [ca_o (by omega), lq_o (by omega) hk6]; exact i3 j hj h4
        · rcases caM_s (s := lvM (exM s b k) b k) (b := b) (h := k) (src := true) with e | e
          · left; rw [e]; exact upd_e rfl
          · rw [e, lq_o (by omega) hk6]; exact i4
        · have e8 : ∀ w, w < 4 → ofM (caM (lvM (exM s b k) b k) b k true) b h w = ofM (lvM (exM s b k) b k) b h w := fun w hw => by
            unfold ofM; exact ca_o (by omega)
          rw [e8 0 (by decide), lq_of hk6 hh (by decide)] at e
          by_cases eh : h = k
          · rw [if_pos ⟨eh, rfl⟩] at e; exact absurd e (by decide)
          · rw [if_neg (fun z => eh z.1)] at e
            obtain ⟨d, d1, d2, d3, d4⟩ := i5 h hh e
            exact ⟨d, d1, fun hl => d2 (by omega), d3, by rw [e8 3 (by decide), lq_of hk6 hh (by decide), if_neg (by omega)]; exact d4⟩
        · rw [ca_o (by omega), lq_at, if_neg (by omega), if_neg (by omega)]; exact i6 i hi
      · rw [if_neg q2, if_neg q2]; exact pass _ (fun z => q2 z.2) i1
    · rw [if_neg q1, if_neg q1]; exact pass _ (fun z => q1 z.1) i1
/-! cells outside the block stay -/
def Frm (s' s : NV) (b : Nat) : Prop := ∀ i, (i < b ∨ b + 272 ≤ i) → s' i = s i
theorem Frm.tr {s s' s'' : NV} {b : Nat} (h : Frm s'' s' b) (g : Frm s' s b) : Frm s'' s b := fun i hi => (h i hi).trans (g i hi)
theorem rs_fr {s : NV} {b : Nat} : ∀ k, k ≤ 6 → Frm (rsM s b k) s b := by
  intro k
  induction k with
  | zero => intro _ _ _; rfl
  | succ k ih =>
    intro hk i hi
    rw [rs_la]
    unfold laM
    rw [upd_n (by omega)]
    exact ih (by omega) i hi
theorem ch_fr {s : NV} {b : Nat} : ∀ k, Frm (chM s b k).2 s b := by
  intro k
  induction k with
  | zero => intro _ _; rfl
  | succ k ih =>
    intro i hi
    rw [chM]
    split
    · show upd (upd _ _ _) _ _ i = _
      rw [upd_n (by omega), upd_n (by omega)]
      exact ih i hi
    · exact ih i hi
theorem cg_fr {s : NV} {b : Nat} : Frm (cgM s b) s b := fun i hi => by
  unfold cgM
  split
  · unfold cg3 cg2
    rw [upd_n (by omega), upd_n (by omega), upd_n (by omega)]
    exact ch_fr 180 i hi
  · exact ch_fr 180 i hi
theorem se_fr {s : NV} {b : Nat} : Frm (seM s b) s b := fun i hi => by
  unfold seM
  split
  · rw [cg_fr i hi]; exact rs_fr 6 (Nat.le_refl 6) i hi
  · exact rs_fr 6 (Nat.le_refl 6) i hi
/-- settling touches neither the time, the number of completions, nor the transfer time, nor the counter, nor what is behind the hosts -/
theorem se_o {s : NV} {b j : Nat} (hj : j < 4 ∨ 32 ≤ j) (hj2 : j < 272) : seM s b (b + j) = s (b + j) := by
  have e1 : ∀ k, k ≤ 6 → rsM s b k (b + j) = s (b + j) := by
    intro k
    induction k with
    | zero => intro _; rfl
    | succ k ih =>
      intro hk
      rw [rs_la]
      unfold laM
      rw [upd_n (by omega)]
      exact ih (by omega)
  have e2 : ∀ s9 : NV, ∀ k, (chM s9 b k).2 (b + j) = s9 (b + j) := by
    intro s9 k
    induction k with
    | zero => rfl
    | succ k ih =>
      rw [chM]
      split
      · show upd (upd _ _ _) _ _ (b + j) = _
        rw [upd_n (by omega), upd_n (by omega)]
        exact ih
      · exact ih
  unfold seM
  split
  · unfold cgM
    split
    · unfold cg3 cg2
      rw [upd_n (by omega), upd_n (by omega), upd_n (by omega), e2, e1 6 (Nat.le_refl 6)]
    · rw [e2, e1 6 (Nat.le_refl 6)]
  · exact e1 6 (Nat.le_refl 6)
/-- the time set on both sides -/
theorem sim_now {f : SV} {s : NV} {b : Nat} {v : Int32} (hS : Sim f s b) : Sim (put f 0 8 v) (upd s (b + 0) v) b := by
  have a := hS.a
  refine Sim.top hS ?_ (fun k h1 _ => put_n (by omega)) (put_o (by omega)) (put_o (by omega)) (fun j h1 _ => upd_n (by omega))
  unfold SA at a ⊢
  rw [put_e rfl rfl, put_o (by omega), put_o (by omega), put_o (by omega), put_o (by omega), put_o (by omega), put_o (by omega), upd_e rfl, upd_n (by omega), upd_n (by omega), upd_n (by omega), upd_n (by omega), upd_n (by omega), upd_n (by omega)]
  exact ⟨⟨rfl, a.1.2.1, a.1.2.2.1, a.1.2.2.2⟩, a.2⟩
/-- a moment when something may happen, both sides -/
theorem mo_all {f : SV} {s : NV} {b B M t : Nat} (hM : M ≤ 1000600) (hS : Sim f s b) (hJ : JC s b B) (ht : t ≤ M) (h0 : s (b + 0) = nI t)
    (hl : ∃ l, 1 ≤ l ∧ l ≤ 60 ∧ s (b + 2) = nI l) (hd : ∀ h, h < 6 → ofM s b h 0 = nI 2 → ∃ d, t ≤ d ∧ d ≤ t + 600 ∧ ofM s b h 3 = nI d) (hu : ¬ s (b + 4) = -1 → ∃ u, t ≤ u ∧ u ≤ t + 60 ∧ s (b + 7) = nI u) :
    Sim (seS (exL (evG2 f) 6)) (seM (exM (evM s b) b 6) b) b ∧ JJ (seM (exM (evM s b) b 6) b) b B M ∧ J6 (seM (exM (evM s b) b 6) b) b ∧ seM (exM (evM s b) b 6) b (b + 0) = nI t ∧ (∃ e, e ≤ 1 ∧ seM (exM (evM s b) b 6) b (b + 3) = s (b + 3) + nI e) ∧ Frm (seM (exM (evM s b) b 6) b) s b := by
  obtain ⟨l, l1, l2, l3⟩ := hl
  obtain ⟨E1, E2, E3, E4, E5, E6, E7⟩ : Sim (evG2 f) (evM s b) b ∧ JC (evM s b) b B ∧ (∀ j, j < 32 → j ≠ 3 → j ≠ 4 → evM s b (b + j) = s (b + j)) ∧ (¬ evM s b (b + 4) = -1 → ∃ u, t < u ∧ u ≤ t + 60 ∧ evM s b (b + 7) = nI u) ∧ (∀ h w, h < 6 → w < 4 → ofM (evM s b) b h w = ofM s b h w) ∧ (∃ e, e ≤ 1 ∧ evM s b (b + 3) = s (b + 3) + nI e) ∧ Frm (evM s b) s b := by
    have z0 : ∀ x : Int32, x = x + nI 0 := fun x => (Int32.add_zero x).symm
    unfold evG2 evM
    rw [hS.a.1.2.2.2]
    by_cases h4 : s (b + 4) = -1
    · rw [if_pos h4, if_pos h4]
      exact ⟨hS, hJ, fun _ _ _ _ => rfl, fun hn => absurd h4 hn, fun _ _ _ _ => rfl, ⟨0, by omega, z0 _⟩, fun _ _ => rfl⟩
    · rw [if_neg h4, if_neg h4, (hS.a.2.2 h4).2.2, hS.a.1.1]
      obtain ⟨u, u1, u2, u3⟩ := hu h4
      by_cases hd9 : s (b + 7) = s (b + 0)
      · rw [if_pos hd9, if_pos hd9]
        obtain ⟨p1, p2, p3, p4⟩ := co_o hJ h4
        obtain ⟨r1, r2⟩ := co_all hS hJ h4
        refine ⟨r1, r2, fun j hj a1 a2 => p1 j (by omega) a1 a2, fun hn => absurd p2 hn, fun h w hh hw => ?_, ⟨1, by omega, p3⟩, p4⟩
        unfold ofM
        have := p1 (8 + 4 * h + w) (by omega) (by omega) (by omega)
        rw [← Nat.add_assoc, ← Nat.add_assoc] at this
        exact this
      · rw [if_neg hd9, if_neg hd9]
        refine ⟨hS, hJ, fun _ _ _ _ => rfl, fun _ => ⟨u, ?_, u2, u3⟩, fun _ _ _ _ => rfl, ⟨0, by omega, z0 _⟩, fun _ _ => rfl⟩
        rw [u3, h0] at hd9
        have : u ≠ t := fun e => hd9 (by rw [e])
        omega
  have h0' : evM s b (b + 0) = nI t := (E3 0 (by decide) (by decide) (by decide)).trans h0
  obtain ⟨X1, X2, X3, X4, X5, X6⟩ := ex_all (T := t + 600) E1 E2 (by omega) h0' (fun h hh e => by
    rw [E5 h 0 hh (by decide)] at e
    obtain ⟨d, d1, d2, d3⟩ := hd h hh e
    exact ⟨d, d1, d2, by rw [E5 h 3 hh (by decide)]; exact d3⟩) (by omega) 6 (Nat.le_refl 6)
  have hJJ : JJ (exM (evM s b) b 6) b B M := by
    refine JJ.mk X2 ⟨t, l, ht, (X3 0 (by decide) (by decide)).trans h0', l1, l2, ?_, fun h hh e => ?_, fun hn => ?_⟩
    · rw [X3 2 (by decide) (by decide), E3 2 (by decide) (by decide) (by decide)]; exact l3
    · obtain ⟨d, d1, d2, d3, d4⟩ := X5 h hh e
      exact ⟨d, d2 hh, d3, d4⟩
    · rcases X4 with e | e
      · exact absurd e hn
      · rw [e] at hn
        rw [X3 7 (by decide) (by decide)]
        exact E4 hn
  obtain ⟨Y1, Y2, Y3⟩ := se_all hM X1 hJJ
  refine ⟨Y1, Y2, Y3, ?_, ?_, ?_⟩
  · rw [se_o (by omega) (by decide)]; exact (X3 0 (by decide) (by decide)).trans h0'
  · rw [se_o (by omega) (by decide), X3 3 (by decide) (by decide)]; exact E6
  · exact se_fr.tr (Frm.tr X6 E7)
