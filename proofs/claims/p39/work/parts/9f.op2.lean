/-! write, remove, reconnect -/
theorem dnn {P : Prop} [Decidable (¬ P)] (h : P) : decide (¬ P) = false := decide_eq_false (fun z => z h)
theorem bitP_is {p q : Nat} (hp : p < 32) (hq : q < 32) : tb (bitP p) (nI q) = decide (q = p) := by
  rw [tb_bt hq]; exact bt_one hp hq
theorem cpMb_iff {s : NV} {b p h : Nat} : cpMb s b p h = true ↔ ofM s b h 1 = nI 1 ∧ ¬ rpM s b h p ≤ 0 := by
  unfold cpMb
  rw [Bool.and_eq_true, decide_eq_true_eq, decide_eq_true_eq]
/-- the copies' bits, connected or not -/
theorem bc_y {s : NV} {p k : Nat} (hk : k < 6) (hc : ofM s 0 k 1 = nI 1) : btC (cpM s 0 p) k = decide (¬ rpM s 0 k p ≤ 0) := by
  rw [btC_bt (by omega), cpM_at hk]
  unfold cpMb
  rw [decide_eq_true hc, Bool.true_and]
theorem bc_n {s : NV} {p k : Nat} (hk : k < 6) (hc : ¬ ofM s 0 k 1 = nI 1) : btC (cpM s 0 p) k = false := by
  rw [btC_bt (by omega), cpM_at hk]
  unfold cpMb
  rw [decide_eq_false hc, Bool.false_and]
theorem fs_c {s : NV} {b k p : Nat} (hC : BlkC s b) (hk : k < 6) (hp : p < 30) (hc : ofM s b k 1 = nI 1) : fsM s b k p = decide (¬ rpM s b k p ≤ 0) := by
  by_cases hr : rpM s b k p ≤ 0
  · rw [decide_eq_false (fun z => z hr)]
    cases hf : fsM s b k p with
    | false => rfl
    | true => exact absurd hr (fsM_pos hf)
  · rw [decide_eq_true hr]; exact hC k hk p hp hc hr
/-- the rows of what is held behind 'out of date', for the page itself and for the others -/
theorem od_q {f g : SV} {s : NV} {p k q : Nat} (hS : Sim f s 0) (hC : BlkC s 0) (hp : p < 30) (hk : k < 6) (hq : q < 32) (g7 : g 0 7 = f 0 7) (g4 : g 4 k = f 4 k) (g5 : g 5 k = f 5 k) :
    tb (odS g p 6 4 k) (nI q) = (if q = p then (decide (ofM s 0 k 1 = nI 1) && decide (¬ rpM s 0 k p ≤ 0)) else (decide (q < 30) && fsM s 0 k q)) ∧
    tb (odS g p 6 5 k) (nI q) = (if q = p then (decide (¬ ofM s 0 k 1 = nI 1) && decide (¬ rpM s 0 k p ≤ 0)) else (decide (q < 30) && (!fsM s 0 k q && decide (¬ rpM s 0 k q ≤ 0)))) := by
  have hq0 := hS.q k hk q hq
  have hc := hS.c k (by omega)
  rw [decide_eq_true hk, Bool.true_and] at hc
  by_cases e1 : ofM s 0 k 1 = nI 1
  · rw [decide_eq_true e1] at hc
    have x4 : odS g p 6 4 k = f 4 k := by
      rw [odS_at, g7, hc, if_neg (fun z => absurd z.1 (by decide)), if_neg (fun z => Bool.noConfusion z.2.2), g4]
    have x5 : odS g p 6 5 k = f 5 k := by
      rw [odS_at, g7, hc, if_neg (fun z => Bool.noConfusion z.2.2), if_neg (fun z => absurd z.1 (by decide)), g5]
    rw [x4, x5, decide_eq_true e1, Bool.true_and, dnn e1, Bool.false_and]
    by_cases e : q = p
    · subst e
      rw [if_pos rfl, if_pos rfl]
      rw [decide_eq_true hp, Bool.true_and, Bool.true_and, fs_c hC hk hp e1] at hq0
      refine ⟨hq0.1, hq0.2.trans ?_⟩
      cases decide (¬ rpM s 0 k q ≤ 0) <;> rfl
    · rw [if_neg e, if_neg e]; exact hq0
  · rw [decide_eq_false e1] at hc
    have x4 : odS g p 6 4 k = f 4 k &&& (bitP p ^^^ (-1)) := by
      rw [odS_at, g7, hc, if_neg (fun z => absurd z.1 (by decide)), if_pos ⟨rfl, hk, rfl⟩, g4]
    have x5 : odS g p 6 5 k = f 5 k ||| (f 4 k &&& bitP p) := by
      rw [odS_at, g7, hc, if_pos ⟨rfl, hk, rfl⟩, g4, g5]
    rw [x4, x5, decide_eq_false e1, Bool.false_and, decide_eq_true e1, Bool.true_and, bitP_off (by omega) hq, tb_orr hq, tb_and hq, bitP_is (by omega) hq, hq0.1, hq0.2]
    by_cases e : q = p
    · subst e
      rw [if_pos rfl, if_pos rfl, decide_eq_true hp, show decide (q ≠ q) = false from dnn rfl, decide_eq_true rfl, Bool.and_false, Bool.and_true, Bool.true_and, Bool.true_and]
      refine ⟨rfl, ?_⟩
      cases hf : fsM s 0 k q with
      | false => cases decide (¬ rpM s 0 k q ≤ 0) <;> rfl
      | true => rw [decide_eq_true (fsM_pos hf)]; rfl
    · rw [if_neg e, if_neg e, decide_eq_true e, decide_eq_false e, Bool.and_true, Bool.and_false, Bool.or_false]
      exact ⟨rfl, rfl⟩
theorem odS_o {f : SV} {p r j : Nat} (h4 : r ≠ 4) (h5 : r ≠ 5) : odS f p 6 r j = f r j := by
  rw [odS_at, if_neg (fun z => h5 z.1), if_neg (fun z => h4 z.1)]
/-! write -/
theorem wr_sim {f : SV} {s s2 : NV} {p c : Nat} {v : Int32} (hS : Sim f s 0) (hC : BlkC s 0) (ht : thM s 0 p = true) (hp : p < 30) (hrp : ∀ k q, k < 6 → q < 30 → rpM s2 0 k q = if q = p ∧ btC (cpM s 0 p) k = true then nI (c + 1) else rpM s 0 k q) (hth : ∀ q, q < 30 → thM s2 0 q = if q = p then true else thM s 0 q) (hof : ∀ k w, k < 6 → w < 4 → ofM s2 0 k w = ofM s 0 k w) (hz : ∀ j, j < 8 → j ≠ 1 → s2 (0 + j) = s (0 + j)) (hfs : ∀ k q, k < 6 → q < 30 → fsM s2 0 k q = if q = p then btC (cpM s 0 p) k else fsM s 0 k q) (hv : ∀ q, q < 30 → s2 (0 + 62 + q) = if q = p then v else s (0 + 62 + q)) : Sim (odS (put f 6 p v) p 6) s2 0 := by
  refine Sim.mk ?_ (fun k hk => ?_) (fun k hk => ?_) (fun q hq => ?_) (fun k hk q hq => ?_)
  · have a := hS.a
    unfold SA at a ⊢
    rw [hz 0 (by decide) (by decide), hz 2 (by decide) (by decide), hz 3 (by decide) (by decide), hz 4 (by decide) (by decide), hz 5 (by decide) (by decide), hz 6 (by decide) (by decide), hz 7 (by decide) (by decide)]
    rw [odS_o (by decide) (by decide), odS_o (by decide) (by decide), odS_o (by decide) (by decide), odS_o (by decide) (by decide), odS_o (by decide) (by decide), odS_o (by decide) (by decide), odS_o (by decide) (by decide)]
    rw [put_o (by omega), put_o (by omega), put_o (by omega), put_o (by omega), put_o (by omega), put_o (by omega), put_o (by omega)]
    exact a
  · rw [odS_o (by decide) (by decide), odS_o (by decide) (by decide), odS_o (by decide) (by decide), put_o (by omega), put_o (by omega), put_o (by omega), hof k 0 hk (by decide), hof k 2 hk (by decide), hof k 3 hk (by decide)]
    exact hS.h k hk
  · rw [odS_o (by decide) (by decide), put_o (by omega)]
    have := hS.c k hk
    by_cases h6 : k < 6
    · rw [hof k 1 h6 (by decide)]; exact this
    · rw [decide_eq_false h6, Bool.false_and] at this ⊢; exact this
  · rw [odS_o (by decide) (by decide), odS_o (by decide) (by decide), put_o (by omega), hth q hq, hv q hq]
    by_cases e : q = p
    · rw [if_pos e, if_pos e, put_e rfl e, e, (hS.p p hp).1, ht]; exact ⟨rfl, rfl⟩
    · rw [if_neg e, if_neg e, put_o (by omega)]; exact hS.p q hq
  · obtain ⟨o4, o5⟩ := od_q (g := put f 6 p v) hS hC hp hk hq (put_o (by omega)) (put_o (by omega)) (put_o (by omega))
    rw [o4, o5]
    by_cases h30 : q < 30
    · rw [decide_eq_true h30, hfs k q hk h30, hrp k q hk h30, Bool.true_and, Bool.true_and]
      by_cases e : q = p
      · rw [if_pos e, if_pos e, if_pos e, e]
        by_cases e1 : ofM s 0 k 1 = nI 1
        · rw [bc_y hk e1, decide_eq_true e1, dnn e1, Bool.true_and, Bool.false_and]
          refine ⟨rfl, ?_⟩
          by_cases hr : rpM s 0 k p ≤ 0
          · rw [dnn hr, if_neg (fun z => Bool.noConfusion z.2), dnn hr]; rfl
          · rw [decide_eq_true hr]; rfl
        · rw [bc_n hk e1, decide_eq_false e1, decide_eq_true e1, Bool.true_and, Bool.false_and, if_neg (fun z => Bool.noConfusion z.2)]
          exact ⟨rfl, rfl⟩
      · rw [if_neg e, if_neg e, if_neg e, if_neg (fun z => e z.1)]; exact ⟨rfl, rfl⟩
    · rw [if_neg (by omega), if_neg (by omega), decide_eq_false h30]; simp only [Bool.false_and, and_self]
theorem wr_J {s s2 : NV} {p c B : Nat} (hB : c ≤ B) (hB2 : c < 1000000) (hC : BlkC s 0) (j3 : J3 s 0) (j4 : J4 s 0) (c3 : ∀ p, p < 30 → ∃ x, x ≤ c ∧ s (0 + 32 + p) = nI x) (c4 : ∀ h, h < 6 → ∀ p, p < 30 → ∃ x, x ≤ c ∧ rpM s 0 h p = nI x) (e1 : s2 (0 + 1) = nI (c + 1)) (hp : p < 30) (hrp : ∀ k q, k < 6 → q < 30 → rpM s2 0 k q = if q = p ∧ btC (cpM s 0 p) k = true then nI (c + 1) else rpM s 0 k q) (hth : ∀ q, q < 30 → thM s2 0 q = if q = p then true else thM s 0 q) (hof : ∀ k w, k < 6 → w < 4 → ofM s2 0 k w = ofM s 0 k w) (hz : ∀ j, j < 8 → j ≠ 1 → s2 (0 + j) = s (0 + j)) (hfs : ∀ k q, k < 6 → q < 30 → fsM s2 0 k q = if q = p then btC (cpM s 0 p) k else fsM s 0 k q) (hst : ∀ q, q < 30 → s2 (0 + 32 + q) = if q = p then nI (c + 1) else s (0 + 32 + q)) : JC s2 0 (B + 1) := by
  refine ⟨⟨c + 1, by omega, ?_, fun q hq => ?_, fun k hk q hq => ?_⟩, fun k hk q hq a1 a2 => ?_, ?_, fun k hk => ⟨?_, ?_, ?_⟩⟩
  · exact e1
  · rw [hst q hq]
    split
    · exact ⟨c + 1, Nat.le_refl _, rfl⟩
    · obtain ⟨x, x1, x2⟩ := c3 q hq
      exact ⟨x, by omega, x2⟩
  · rw [hrp k q hk hq]
    split
    · exact ⟨c + 1, Nat.le_refl _, rfl⟩
    · obtain ⟨x, x1, x2⟩ := c4 k hk q hq
      exact ⟨x, by omega, x2⟩
  · rw [hof k 1 hk (by decide)] at a1
    rw [hrp k q hk hq] at a2
    rw [hfs k q hk hq]
    by_cases e : q = p
    · rw [if_pos e, bc_y hk a1]
      rw [bc_y hk a1] at a2
      by_cases hr : rpM s 0 k p ≤ 0
      · rw [dnn hr, if_neg (fun z => Bool.noConfusion z.2), e] at a2
        exact absurd hr a2
      · exact decide_eq_true hr
    · rw [if_neg e]
      rw [if_neg (fun z => e z.1)] at a2
      exact hC k hk q hq a1 a2
  · unfold J3
    rw [hz 4 (by decide) (by decide), hz 5 (by decide) (by decide), hz 6 (by decide) (by decide)]
    intro h4
    obtain ⟨q, S, U, g1, g2, g3, g4, g5, g6, g7, g8, g9, g10, g11⟩ := j3 h4
    refine ⟨q, S, U, g1, g2, g3, g4, g5, g6, g7, ?_, by rw [hof S 1 g2 (by decide)]; exact g9, by rw [hof U 1 g3 (by decide)]; exact g10, by rw [hof U 0 g3 (by decide)]; exact g11⟩
    rw [hth q g1]
    split
    · rfl
    · exact g8
  · rw [hof k 1 hk (by decide)]; exact (j4 k hk).1
  · rw [hof k 0 hk (by decide)]
    intro e q hq
    rw [hrp k q hk hq, if_neg]
    · exact (j4 k hk).2.1 e q hq
    · rintro ⟨z1, z2⟩
      rw [btC_bt (by omega), cpM_at hk, cpMb_iff] at z2
      exact z2.2 ((j4 k hk).2.1 e p hp)
  · rw [hof k 0 hk (by decide), hof k 2 hk (by decide)]
    intro e
    obtain ⟨x, x1, x2, x3⟩ := (j4 k hk).2.2 e
    refine ⟨x, x1, x2, ?_⟩
    have eu : usM s2 0 k = usM s 0 k := by
      unfold usM hdM
      rw [hdL_ct, hdL_ct, hz 4 (by decide) (by decide), hz 6 (by decide) (by decide)]
      have : fb_ct (fun q => decide (¬ rpM s2 0 k q ≤ 0)) 30 = fb_ct (fun q => decide (¬ rpM s 0 k q ≤ 0)) 30 := fb_ct_cong fun q hq => by
        rw [hrp k q hk hq]
        by_cases z : q = p ∧ btC (cpM s 0 p) k = true
        · have z2 := z.2
          rw [btC_bt (by omega), cpM_at hk, cpMb_iff] at z2
          rw [if_pos z, z.1, decide_eq_true z2.2, decide_eq_true (nI_nle (by omega) (by omega))]
        · rw [if_neg z]
      rw [this]
    rw [eu]; exact x3
theorem op_write {f : SV} {s : NV} {p B M : Nat} {v : Int32} (hM : M ≤ 1000600) (hB : B < 1000000) (hS : Sim f s 0) (hJ : JJ s 0 B M) (hp : p < 30) (hc9 : cwM s p = true) :
    OpA (owG f p v) (wrM s p v) s (B + 1) M ∧ bcI (cpS (owG f p v) p) = onM (cpM (st1 s p v) 0 p) := by
  have ht : thM s 0 p = true := by
    unfold cwM at hc9
    cases hq : thM s 0 p with
    | true => rfl
    | false => rw [hq] at hc9; cases hc9
  obtain ⟨⟨c, c1, c2, c3, c4⟩, hC, j3, j4⟩ := hJ.c
  have c2' : s 1 = nI c := c2
  have ecp : cpM (st1 s p v) 0 p = cpM s 0 p := cp_cong fun h hh => by
    unfold cpMb
    rw [st1_of hp hh (by decide), st1_rp hp]
  obtain ⟨w1, w2⟩ := wrL_at (s := st1 s p v) (c := cpM (st1 s p v) 0 p) hp 6 (Nat.le_refl 6)
  obtain ⟨r1, r2⟩ := pg_rp hp rfl w2
  have e1 : st1 s p v 1 = nI (c + 1) := by
    have := st1_1 (s := s) (v := v) hp
    simp only [Nat.zero_add] at this
    rw [this, c2', nI_add]
  rw [e1] at r1
  have eW : wrM s p v = seM (wrL (st1 s p v) p (cpM (st1 s p v) 0 p) 6) 0 := rfl
  generalize hs2 : wrL (st1 s p v) p (cpM (st1 s p v) 0 p) 6 = s2 at r1 r2 eW
  rw [ecp] at r1
  have hrp : ∀ k q, k < 6 → q < 30 → rpM s2 0 k q = if q = p ∧ btC (cpM s 0 p) k = true then nI (c + 1) else rpM s 0 k q := fun k q hk hq => by
    rw [r1 k q hk hq, st1_rp hp]
  have hst : ∀ q, q < 30 → s2 (0 + 32 + q) = if q = p then nI (c + 1) else s (0 + 32 + q) := fun q hq => by
    rw [r2 _ (by omega), st1_st hp hq, c2', nI_add]
  have hth : ∀ q, q < 30 → thM s2 0 q = if q = p then true else thM s 0 q := fun q hq => by
    rw [← st1_th (v := v) c2' (by omega) hp hq]
    unfold thM
    rw [r2 _ (by omega)]
  have hof : ∀ k w, k < 6 → w < 4 → ofM s2 0 k w = ofM s 0 k w := fun k w hk hw => by
    rw [← st1_of (s := s) (v := v) hp hk hw]
    unfold ofM
    exact r2 _ (by omega)
  have hz : ∀ j, j < 8 → j ≠ 1 → s2 (0 + j) = s (0 + j) := fun j hj h1 => by
    rw [r2 _ (by omega), st1_o hp h1 (by omega) (by omega)]
  have hfs : ∀ k q, k < 6 → q < 30 → fsM s2 0 k q = if q = p then btC (cpM s 0 p) k else fsM s 0 k q := fun k q hk hq => by
    unfold fsM
    rw [hth q hq, hrp k q hk hq, hst q hq]
    by_cases e : q = p
    · rw [if_pos e, if_pos e, if_pos e]
      cases hb : btC (cpM s 0 p) k with
      | true => rw [if_pos ⟨e, rfl⟩, decide_eq_true rfl]; rfl
      | false =>
        rw [if_neg (fun z => Bool.noConfusion z.2)]
        obtain ⟨x, x1, x2⟩ := c4 k hk q hq
        rw [x2, decide_eq_false (ni_ne (by omega) (by omega) (by omega))]; rfl
    · rw [if_neg e, if_neg e, if_neg e, if_neg (fun z => e z.1)]
  have S2 : Sim (odS (put f 6 p v) p 6) s2 0 := wr_sim hS hC ht hp hrp hth hof hz hfs (fun q hq => by rw [r2 _ (by omega), st1_v hp hq])
  have K2 : JC s2 0 (B + 1) := wr_J c1 (by omega) hC j3 j4 c3 c4 ((r2 _ (by omega)).trans e1) hp hrp hth hof hz hfs hst
  have hA : OpA (owG f p v) (wrM s p v) s (B + 1) M := by
    rw [eW]
    unfold owG
    refine OpA.se hM S2 (JJ.mk K2 (hJ.t.cg (hz 0 (by decide) (by decide)) (hz 2 (by decide) (by decide)) (Or.inl (hz 4 (by decide) (by decide))) (hz 7 (by decide) (by decide)) fun k hk => ⟨hof k 0 hk (by decide), hof k 3 hk (by decide)⟩)) (fun i hi => ?_)
    rw [r2 i (by omega), st1_at hp, if_neg (by omega), if_neg (by omega), if_neg (by omega)]
  refine ⟨hA, ?_⟩
  rw [sim_bc hA.1 hA.2.1.2.1 hp, eW, se_cp hp, ecp]
  congr 1
  refine cp_cong fun k hk => ?_
  unfold cpMb
  rw [hof k 1 hk (by decide), hrp k p hk hp]
  by_cases e1 : ofM s 0 k 1 = nI 1
  · rw [bc_y hk e1, decide_eq_true e1, Bool.true_and, Bool.true_and]
    by_cases hr : rpM s 0 k p ≤ 0
    · rw [dnn hr, if_neg (fun z => Bool.noConfusion z.2), dnn hr]
    · rw [decide_eq_true hr, if_pos ⟨rfl, rfl⟩, decide_eq_true (nI_nle (by omega) (by omega))]
  · rw [decide_eq_false e1, Bool.false_and, Bool.false_and]
/-! remove -/
theorem drL_at {f : SV} {p r j : Nat} : ∀ k, drL f p k r j = if r = 4 ∧ j < k then f 4 j &&& (bitP p ^^^ (-1)) else f r j := by
  intro k
  induction k generalizing r j with
  | zero => show f r j = _; rw [if_neg (by omega)]
  | succ k ih =>
    have h4 : drL f p k 4 k = f 4 k := by rw [ih, if_neg (by omega)]
    rw [drL, h4]
    by_cases e : r = 4 ∧ j = k
    · rw [put_e e.1 e.2, if_pos (by omega), e.2]
    · rw [put_o e, ih]
      by_cases e2 : r = 4 ∧ j < k
      · rw [if_pos e2, if_pos (by omega)]
      · rw [if_neg e2, if_neg (by omega)]
theorem op_remove {f : SV} {s : NV} {p B M : Nat} (hM : M ≤ 1000600) (hS : Sim f s 0) (hJ : JJ s 0 B M) (hp : p < 30) (ht : thM s 0 p = true) :
    OpA (drG f p) (rvM s p) s B M ∧ bcI (cpS f p) = onM (cpM s 0 p) := by
  obtain ⟨⟨c, c1, c2, c3, c4⟩, hC, j3, j4⟩ := hJ.c
  refine ⟨?_, sim_bc hS hC hp⟩
  have w2 := rvL_at (s := s) (c := cpM s 0 p) hp 6 (Nat.le_refl 6)
  obtain ⟨r1, r2⟩ := pg_rp hp rfl w2
  have eV : rv1 s p = upd (rvL s p (cpM s 0 p) 6) (32 + p) (nI 0) := rfl
  generalize hs2 : rv1 s p = s2 at eV
  have hrp : ∀ k q, k < 6 → q < 30 → rpM s2 0 k q = if q = p ∧ btC (cpM s 0 p) k = true then nI 0 else rpM s 0 k q := fun k q hk hq => by
    rw [← r1 k q hk hq, eV]
    unfold rpM
    exact upd_n (by omega)
  have hst : ∀ q, q < 30 → s2 (0 + 32 + q) = if q = p then nI 0 else s (0 + 32 + q) := fun q hq => by
    rw [eV]
    by_cases e : q = p
    · rw [if_pos e, upd_e (by omega)]
    · rw [if_neg e, upd_n (by omega), r2 _ (by omega)]
  have ho : ∀ j, j < 92 ∨ 272 ≤ j → j ≠ 32 + p → s2 j = s j := fun j hj hn => by
    rw [eV, upd_n hn, r2 j hj]
  have hth : ∀ q, q < 30 → thM s2 0 q = if q = p then false else thM s 0 q := fun q hq => by
    unfold thM
    rw [hst q hq]
    by_cases e : q = p
    · rw [if_pos e, if_pos e]; decide
    · rw [if_neg e, if_neg e]
  have hof : ∀ k w, k < 6 → w < 4 → ofM s2 0 k w = ofM s 0 k w := fun k w hk hw => by
    unfold ofM
    exact ho _ (by omega) (by omega)
  have hz : ∀ j, j < 8 → s2 (0 + j) = s (0 + j) := fun j hj => ho _ (by omega) (by omega)
  have hfs : ∀ k q, k < 6 → q < 30 → fsM s2 0 k q = if q = p then false else fsM s 0 k q := fun k q hk hq => by
    unfold fsM
    rw [hth q hq, hrp k q hk hq, hst q hq]
    by_cases e : q = p
    · rw [if_pos e, if_pos e, if_pos e]; rfl
    · rw [if_neg e, if_neg e, if_neg e, if_neg (fun z => e z.1)]
  have f1o : ∀ r j, r ≠ 4 → r ≠ 5 → ¬ (r = 0 ∧ j = 6) → drG1 (drL (odS f p 6) p 6) p r j = f r j := fun r j h4 h5 h06 => by
    unfold drG1
    rw [put_o h06, drL_at, if_neg (fun z => h4 z.1), odS_o h4 h5]
  have S2 : Sim (drG1 (drL (odS f p 6) p 6) p) s2 0 := by
    refine Sim.mk ?_ (fun k hk => ?_) (fun k hk => ?_) (fun q hq => ?_) (fun k hk q hq => ?_)
    · have a := hS.a
      unfold SA at a ⊢
      rw [hz 0 (by decide), hz 2 (by decide), hz 3 (by decide), hz 4 (by decide), hz 5 (by decide), hz 6 (by decide), hz 7 (by decide)]
      rw [f1o 0 8 (by decide) (by decide) (by decide), f1o 0 9 (by decide) (by decide) (by decide), f1o 0 10 (by decide) (by decide) (by decide), f1o 0 11 (by decide) (by decide) (by decide), f1o 0 12 (by decide) (by decide) (by decide), f1o 0 13 (by decide) (by decide) (by decide), f1o 0 14 (by decide) (by decide) (by decide)]
      exact a
    · rw [f1o 1 k (by decide) (by decide) (by omega), f1o 2 k (by decide) (by decide) (by omega), f1o 3 k (by decide) (by decide) (by omega), hof k 0 hk (by decide), hof k 2 hk (by decide), hof k 3 hk (by decide)]
      exact hS.h k hk
    · rw [f1o 0 7 (by decide) (by decide) (by decide)]
      have := hS.c k hk
      by_cases h6 : k < 6
      · rw [hof k 1 h6 (by decide)]; exact this
      · rw [decide_eq_false h6, Bool.false_and] at this ⊢; exact this
    · have e06 : drG1 (drL (odS f p 6) p 6) p 0 6 = f 0 6 &&& (bitP p ^^^ (-1)) := by
        unfold drG1
        rw [put_e rfl rfl, drL_at, if_neg (by omega), odS_o (by decide) (by decide)]
      rw [e06, f1o 6 q (by decide) (by decide) (by omega), bitP_off (by omega) (by omega), (hS.p q hq).1, (hS.p q hq).2, hth q hq, ho (0 + 62 + q) (by omega) (by omega)]
      refine ⟨?_, rfl⟩
      by_cases e : q = p
      · rw [if_pos e, dnn e, Bool.and_false]
      · rw [if_neg e, decide_eq_true e, Bool.and_true]
    · obtain ⟨o4, o5⟩ := od_q (g := f) hS hC hp hk hq rfl rfl rfl
      have e4 : drG1 (drL (odS f p 6) p 6) p 4 k = odS f p 6 4 k &&& (bitP p ^^^ (-1)) := by
        unfold drG1
        rw [put_o (by omega), drL_at, if_pos ⟨rfl, hk⟩]
      have e5 : drG1 (drL (odS f p 6) p 6) p 5 k = odS f p 6 5 k := by
        unfold drG1
        rw [put_o (by omega), drL_at, if_neg (by omega)]
      rw [e4, e5, bitP_off (by omega) hq, o4, o5]
      by_cases h30 : q < 30
      · rw [decide_eq_true h30, hfs k q hk h30, hrp k q hk h30, Bool.true_and, Bool.true_and]
        by_cases e : q = p
        · rw [if_pos e, if_pos e, if_pos e, dnn e, Bool.and_false, e]
          refine ⟨rfl, ?_⟩
          by_cases e1 : ofM s 0 k 1 = nI 1
          · rw [bc_y hk e1, dnn e1, Bool.false_and]
            by_cases hr : rpM s 0 k p ≤ 0
            · rw [dnn hr, if_neg (fun z => Bool.noConfusion z.2), dnn hr]; rfl
            · rw [decide_eq_true hr, if_pos ⟨rfl, rfl⟩, show decide (¬ nI 0 ≤ 0) = false from by decide]; rfl
          · rw [bc_n hk e1, decide_eq_true e1, Bool.true_and, if_neg (fun z => Bool.noConfusion z.2)]; rfl
        · rw [if_neg e, if_neg e, if_neg e, if_neg (fun z => e z.1), decide_eq_true e, Bool.and_true]; exact ⟨rfl, rfl⟩
      · rw [if_neg (by omega), if_neg (by omega), decide_eq_false h30]; simp only [Bool.false_and, and_self]
  have e4 : s2 4 = s 4 := ho 4 (by omega) (by omega)
  have f11 : drG1 (drL (odS f p 6) p 6) p 0 11 = s 4 := (f1o 0 11 (by decide) (by decide) (by decide)).trans hS.a.1.2.2.2
  have S3 : Sim (drG2 (drG1 (drL (odS f p 6) p 6) p) p) (rv2 s2 p) 0 := by
    unfold drG2 rv2
    rw [f11, e4]
    by_cases q : s 4 = nI p
    · rw [if_pos q, if_pos q]; exact sim_caS S2
    · rw [if_neg q, if_neg q, upd_self e4]; exact S2
  have h4 : rv2 s2 p 4 = if s 4 = nI p then -1 else s 4 := by
    unfold rv2
    rw [upd_e rfl, e4]
  have h3o : ∀ j, j ≠ 4 → rv2 s2 p j = s2 j := fun j hj => by unfold rv2; exact upd_n hj
  have hof3 : ∀ k w, k < 6 → w < 4 → ofM (rv2 s2 p) 0 k w = ofM s 0 k w := fun k w hk hw => by
    rw [← hof k w hk hw]
    unfold ofM
    exact h3o _ (by omega)
  have hrp3 : ∀ k q, rpM (rv2 s2 p) 0 k q = rpM s2 0 k q := fun k q => by
    unfold rpM
    exact h3o _ (by omega)
  have hst3 : ∀ q, rv2 s2 p (0 + 32 + q) = s2 (0 + 32 + q) := fun q => h3o _ (by omega)
  have hth3 : ∀ q, thM (rv2 s2 p) 0 q = thM s2 0 q := fun q => by unfold thM; rw [hst3]
  have hfs3 : ∀ k q, fsM (rv2 s2 p) 0 k q = fsM s2 0 k q := fun k q => by unfold fsM; rw [hth3, hrp3, hst3]
  have hz3 : ∀ j, j < 8 → j ≠ 4 → rv2 s2 p (0 + j) = s (0 + j) := fun j hj hn => by rw [h3o _ (by omega), hz j hj]
  have K3 : JC (rv2 s2 p) 0 B := by
    refine ⟨⟨c, c1, ?_, fun q hq => ?_, fun k hk q hq => ?_⟩, fun k hk q hq a1 a2 => ?_, fun hn => ?_, fun k hk => ⟨?_, ?_, ?_⟩⟩
    · rw [hz3 1 (by decide) (by decide)]; exact c2
    · rw [hst3, hst q hq]
      split
      · exact ⟨0, Nat.zero_le _, rfl⟩
      · exact c3 q hq
    · rw [hrp3, hrp k q hk hq]
      split
      · exact ⟨0, Nat.zero_le _, rfl⟩
      · exact c4 k hk q hq
    · rw [hof3 k 1 hk (by decide)] at a1
      rw [hrp3, hrp k q hk hq] at a2
      rw [hfs3, hfs k q hk hq]
      by_cases e : q = p
      · exfalso
        rw [bc_y hk a1] at a2
        by_cases hr : rpM s 0 k p ≤ 0
        · rw [dnn hr, if_neg (fun z => Bool.noConfusion z.2), e] at a2
          exact a2 hr
        · rw [decide_eq_true hr, if_pos ⟨e, rfl⟩] at a2
          exact a2 (by decide)
      · rw [if_neg e]
        rw [if_neg (fun z => e z.1)] at a2
        exact hC k hk q hq a1 a2
    · have hn' : ¬ rv2 s2 p 4 = -1 := hn
      rw [h4] at hn'
      by_cases q : s 4 = nI p
      · rw [if_pos q] at hn'; exact absurd rfl hn'
      · rw [if_neg q] at hn'
        obtain ⟨p9, S, U, g1, g2, g3, g4, g5, g6, g7, g8, g9, g10, g11⟩ := j3 hn'
        have np : p9 ≠ p := fun e => q (by rw [← e]; exact g5)
        refine ⟨p9, S, U, g1, g2, g3, g4, ?_, (hz3 5 (by decide) (by decide)).trans g6, (hz3 6 (by decide) (by decide)).trans g7, by rw [hth3, hth p9 g1, if_neg np]; exact g8, by rw [hof3 S 1 g2 (by decide)]; exact g9, by rw [hof3 U 1 g3 (by decide)]; exact g10, by rw [hof3 U 0 g3 (by decide)]; exact g11⟩
        show rv2 s2 p 4 = nI p9
        rw [h4, if_neg q]; exact g5
    · rw [hof3 k 1 hk (by decide)]; exact (j4 k hk).1
    · rw [hof3 k 0 hk (by decide)]
      intro e q hq
      rw [hrp3, hrp k q hk hq]
      split
      · decide
      · exact (j4 k hk).2.1 e q hq
    · rw [hof3 k 0 hk (by decide), hof3 k 2 hk (by decide)]
      intro e
      obtain ⟨x, x1, x2, x3⟩ := (j4 k hk).2.2 e
      refine ⟨x, x1, x2, Nat.le_trans ?_ x3⟩
      have hd : hdM (rv2 s2 p) 0 k ≤ hdM s 0 k := by
        unfold hdM
        rw [hdL_ct, hdL_ct]
        refine fb_ct_sub fun q hq hd => ?_
        have hd' := of_decide_eq_true hd
        rw [hrp3, hrp k q hk hq] at hd'
        by_cases z : q = p ∧ btC (cpM s 0 p) k = true
        · rw [if_pos z] at hd'; exact absurd (by decide) hd'
        · rw [if_neg z] at hd'; exact decide_eq_true hd'
      have h6 : rv2 s2 p (0 + 6) = s (0 + 6) := hz3 6 (by decide) (by decide)
      have h4' : rv2 s2 p (0 + 4) = if s 4 = nI p then -1 else s 4 := h4
      unfold usM
      rw [h6, h4']
      by_cases q : s 4 = nI p
      · rw [if_pos q, if_pos rfl]; omega
      · rw [if_neg q]
        exact Nat.add_le_add hd (Nat.le_refl _)
  have eR : rvM s p = seM (rv2 s2 p) 0 := by rw [← hs2]; rfl
  rw [eR]
  unfold drG
  refine OpA.se hM S3 (JJ.mk K3 (hJ.t.cg (hz3 0 (by decide) (by decide)) (hz3 2 (by decide) (by decide)) ?_ (hz3 7 (by decide) (by decide)) fun k hk => ⟨hof3 k 0 hk (by decide), hof3 k 3 hk (by decide)⟩)) (fun i hi => ?_)
  · show rv2 s2 p 4 = s 4 ∨ rv2 s2 p 4 = -1
    rw [h4]
    split
    · exact Or.inr rfl
    · exact Or.inl rfl
  · rw [h3o i (by omega), ho i (by omega) (by omega)]
