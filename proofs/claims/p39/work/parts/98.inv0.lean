/-! two blocks that agree where the choice looks; the blocks' invariants -/
def Cg2 (s : NV) (b : Nat) (s' : NV) (b' : Nat) : Prop := ∀ j, j < 272 → (j ≥ 8 ∨ j = 4 ∨ j = 6) → s (b + j) = s' (b' + j)
section
variable {s s' : NV} {b b' : Nat}
theorem Cg2.of (h : Cg2 s b s' b') {k w : Nat} (hk : k < 6) (hw : w < 4) : ofM s b k w = ofM s' b' k w := by
  unfold ofM
  have := h (8 + 4 * k + w) (by omega) (Or.inl (by omega))
  rw [← Nat.add_assoc, ← Nat.add_assoc, ← Nat.add_assoc, ← Nat.add_assoc] at this
  exact this
theorem Cg2.rp (h : Cg2 s b s' b') {k p : Nat} (hk : k < 6) (hp : p < 30) : rpM s b k p = rpM s' b' k p := by
  unfold rpM
  have := h (92 + 30 * k + p) (by omega) (Or.inl (by omega))
  rw [← Nat.add_assoc, ← Nat.add_assoc, ← Nat.add_assoc, ← Nat.add_assoc] at this
  exact this
theorem Cg2.stp (h : Cg2 s b s' b') {p : Nat} (hp : p < 30) : s (b + 32 + p) = s' (b' + 32 + p) := by
  have := h (32 + p) (by omega) (Or.inl (by omega))
  rw [← Nat.add_assoc, ← Nat.add_assoc] at this
  exact this
theorem Cg2.th (h : Cg2 s b s' b') {p : Nat} (hp : p < 30) : thM s b p = thM s' b' p := by
  unfold thM; rw [h.stp hp]
theorem Cg2.fs (h : Cg2 s b s' b') {k p : Nat} (hk : k < 6) (hp : p < 30) : fsM s b k p = fsM s' b' k p := by
  unfold fsM; rw [h.th hp, h.rp hk hp, h.stp hp]
theorem Cg2.cpL (h : Cg2 s b s' b') {p : Nat} (hp : p < 30) : ∀ k, k ≤ 6 → cpML s b p k = cpML s' b' p k := by
  intro k
  induction k with
  | zero => intro _; rfl
  | succ k ih => intro hk; rw [cpML, cpML, ih (by omega), cpMb, cpMb, h.of (by omega) (by decide), h.rp (by omega) hp]
theorem Cg2.cp (h : Cg2 s b s' b') {p : Nat} (hp : p < 30) : cpM s b p = cpM s' b' p := h.cpL hp 6 (Nat.le_refl 6)
theorem Cg2.hdl (h : Cg2 s b s' b') {k : Nat} (hk : k < 6) : ∀ p, p ≤ 30 → hdL s b k p = hdL s' b' k p := by
  intro p
  induction p with
  | zero => intro _; rfl
  | succ p ih => intro hp; rw [hdL, hdL, ih (by omega), h.rp hk (by omega)]
theorem Cg2.hd (h : Cg2 s b s' b') {k : Nat} (hk : k < 6) : hdM s b k = hdM s' b' k := h.hdl hk 30 (Nat.le_refl 30)
theorem Cg2.us (h : Cg2 s b s' b') {k : Nat} (hk : k < 6) : usM s b k = usM s' b' k := by
  unfold usM
  rw [h.hd hk, h 4 (by omega) (by omega), h 6 (by omega) (by omega)]
theorem Cg2.fe (h : Cg2 s b s' b') {k : Nat} (hk : k < 6) : feM s b k = feM s' b' k := by
  unfold feM leM
  rw [h.us hk, h.of hk (by decide), h.of hk (by decide), h.of hk (by decide)]
theorem Cg2.bh (h : Cg2 s b s' b') {p : Nat} (hp : p < 30) : ∀ k, k ≤ 6 → bhM s b p k = bhM s' b' p k := by
  intro k
  induction k with
  | zero => intro _; rfl
  | succ k ih => intro hk; rw [bhM, bhM, ih (by omega), rbM, rbM, h.rp (by omega) hp, h.fe (by omega)]
theorem Cg2.bo (h : Cg2 s b s' b') {p : Nat} (hp : p < 30) : boM s b p = boM s' b' p := by
  unfold boM; rw [h.bh hp 6 (Nat.le_refl 6)]
theorem Cg2.cls (h : Cg2 s b s' b') {p k : Nat} (hp : p < 30) (hk : k < 6) : clsM s b p k = clsM s' b' p k := by
  unfold clsM
  rw [h.cp hp, h.bo hp, h.of hk (by decide)]
theorem Cg.two (h : Cg s s' b) : Cg2 s b s' b := fun j _ hj => h j hj
theorem Cg2.sy (h : Cg2 s b s' b') : Cg2 s' b' s b := fun j a c => (h j a c).symm
theorem Cg2.tr {s'' : NV} {b'' : Nat} (h : Cg2 s b s' b') (g : Cg2 s' b' s'' b'') : Cg2 s b s'' b'' := fun j a c => (h j a c).trans (g j a c)
theorem Cg2.ch (h : Cg2 s b s' b') : ∀ k, k ≤ 180 → (chM s b k).1 = (chM s' b' k).1 := by
  intro k
  induction k with
  | zero => intro _; rfl
  | succ k ih =>
    intro hk
    have g : Cg2 (chM s b k).2 b (chM s' b' k).2 b' := ((chM_cg (s := s) (b := b) k).two.tr h).tr (chM_cg (s := s') (b := b') k).two.sy
    have e1 : clsM (chM s b k).2 b (k / 6) (k % 6) = clsM (chM s' b' k).2 b' (k / 6) (k % 6) := g.cls (by omega) (by omega)
    have e2 : dlM (chM s b k).2 b k = dlM (chM s' b' k).2 b' k := by
      unfold dlM; rw [e1, g.of (by omega) (by decide)]
    rw [chM, chM]
    unfold btM
    rw [ih (by omega), e1, e2]
    (repeat' split) <;> first | rfl | (exact ih (by omega)) | contradiction
theorem ch4 : ∀ k, (chM s b k).1.1 = 4 → (chM s b k).2 = s := by
  intro k
  induction k with
  | zero => intro _; rfl
  | succ k ih =>
    intro h
    rw [chM] at h ⊢
    split at h
    · have := clsM_lt (s := (chM s b k).2) (b := b) (p := k / 6) (h := k % 6)
      have h2 : clsM (chM s b k).2 b (k / 6) (k % 6) = 4 := h
      omega
    · rename_i h3
      rw [if_neg h3]
      exact ih h
end
def J1 (s : NV) (b B : Nat) : Prop := ∃ c, c ≤ B ∧ s (b + 1) = nI c ∧ (∀ p, p < 30 → ∃ x, x ≤ c ∧ s (b + 32 + p) = nI x) ∧ (∀ h, h < 6 → ∀ p, p < 30 → ∃ x, x ≤ c ∧ rpM s b h p = nI x)
def J3 (s : NV) (b : Nat) : Prop := ¬ s (b + 4) = -1 → ∃ p S U, p < 30 ∧ S < 6 ∧ U < 6 ∧ S ≠ U ∧ s (b + 4) = nI p ∧ s (b + 5) = nI S ∧ s (b + 6) = nI U ∧ thM s b p = true ∧ ofM s b S 1 = nI 1 ∧ ofM s b U 1 = nI 1 ∧ ofM s b U 0 = nI 1
def J4 (s : NV) (b : Nat) : Prop := ∀ h, h < 6 → (ofM s b h 1 = 0 ∨ ofM s b h 1 = nI 1) ∧ (ofM s b h 0 = 0 → ∀ p, p < 30 → rpM s b h p ≤ 0) ∧ (ofM s b h 0 = nI 1 → ∃ c, c ≤ 20 ∧ ofM s b h 2 = nI c ∧ usM s b h ≤ c)
def J5 (s : NV) (b M : Nat) : Prop := ∃ t l, t ≤ M ∧ s (b + 0) = nI t ∧ 1 ≤ l ∧ l ≤ 60 ∧ s (b + 2) = nI l ∧ (∀ h, h < 6 → ofM s b h 0 = nI 2 → ∃ d, t < d ∧ d ≤ t + 600 ∧ ofM s b h 3 = nI d) ∧ (¬ s (b + 4) = -1 → ∃ u, t < u ∧ u ≤ t + 60 ∧ s (b + 7) = nI u)
/-- the pool is settled -/
def J6 (s : NV) (b : Nat) : Prop := (∀ h, h < 6 → ¬ (ofM s b h 0 = nI 2 ∧ ofM s b h 1 = nI 1 ∧ hdM s b h = 0)) ∧ (s (b + 4) = -1 → (chM s b 180).1.1 = 4)
def JJ (s : NV) (b B M : Nat) : Prop := J1 s b B ∧ BlkC s b ∧ J3 s b ∧ J4 s b ∧ J5 s b M
theorem J5.dl {s : NV} {b M : Nat} (h : J5 s b M) (hM : M ≤ 1000600) : DlM s b := by
  obtain ⟨t, l, h1, -, -, -, -, h2, -⟩ := h
  intro k hk e
  obtain ⟨d, d1, d2, d3⟩ := h2 k hk e
  exact ⟨d, by omega, d3⟩
theorem hd_z {s : NV} {b h : Nat} (e : hdM s b h = 0) {p : Nat} (hp : p < 30) : rpM s b h p ≤ 0 := by
  unfold hdM at e
  rw [hdL_ct] at e
  exact Classical.not_not.mp (of_decide_eq_false (fb_ct_zero.mp e p hp))
theorem hd_0 {s : NV} {b h : Nat} (e : ∀ p, p < 30 → rpM s b h p ≤ 0) : hdM s b h = 0 := by
  unfold hdM
  rw [hdL_ct]
  exact fb_ct_zero.mpr fun p hp => decide_eq_false fun q => q (e p hp)
theorem bo_pos {s : NV} {b p h : Nat} : ∀ k, (bhM s b p k).1 = some h → ¬ rbM s b p h ≤ 0 := by
  intro k
  induction k with
  | zero => intro e; cases e
  | succ k ih =>
    intro e
    rw [bhM] at e
    split at e
    · exact ih e
    · rename_i hn
      have h2 := bh_nn (s := s) (b := b) (p := p) k
      have ek : k = h := Option.some.inj e
      rw [ek] at hn h2
      intro h1
      exact hn (Int32.le_trans h1 (Int32.not_lt.mp h2))
theorem bo_spec {s : NV} {b p h : Nat} (e : boM s b p = some h) : h < 6 ∧ rpM s b h p ≤ 0 ∧ leM s b h = true ∧ ¬ feM s b h ≤ 0 := by
  have h1 := bo_pos 6 e
  unfold rbM at h1
  by_cases hr : rpM s b h p ≤ 0
  · rw [if_pos hr] at h1
    refine ⟨boM_lt e, hr, ?_, h1⟩
    cases hl : leM s b h with
    | true => rfl
    | false =>
      exfalso
      apply h1
      unfold feM
      rw [hl, if_neg Bool.false_ne_true]
      decide
  · rw [if_neg hr] at h1
    exact absurd (by decide : nI 0 ≤ 0) h1
theorem le_spec {s : NV} {b h : Nat} (e : leM s b h = true) : ofM s b h 0 = nI 1 ∧ ofM s b h 1 = nI 1 := by
  unfold leM at e
  simp only [Bool.and_eq_true, decide_eq_true_eq] at e
  exact e
/-- a best host has room for one more -/
theorem bo_room {s : NV} {b p h : Nat} (hJ : J4 s b) (e : boM s b p = some h) : ∃ c, c ≤ 20 ∧ ofM s b h 2 = nI c ∧ usM s b h < c := by
  obtain ⟨h1, -, h2, h3⟩ := bo_spec e
  obtain ⟨c, c1, c2, c3⟩ := (hJ h h1).2.2 (le_spec h2).1
  refine ⟨c, c1, c2, ?_⟩
  refine Classical.byContradiction fun hn => h3 ?_
  unfold feM
  rw [h2, if_pos rfl, c2, pk_sub c3, show c - usM s b h = 0 by omega]
  decide
/-- a candidate's host holds a copy, and there is a best host -/
theorem cls_spec {s : NV} {b p h : Nat} (hp : p < 30) (hh : h < 6) (e : ¬ clsM s b p h = 0) : ofM s b h 1 = nI 1 ∧ ¬ rpM s b h p ≤ 0 ∧ ∃ u, boM s b p = some u := by
  unfold clsM at e
  by_cases h0 : ((cpM s b p >>> (nI h &&& 31)) &&& nI 1) = 0
  · rw [if_pos h0] at e; exact absurd rfl e
  · rw [if_neg h0] at e
    have hb : bt (cpM s b p) h = true := by
      rw [← tb_bt (by omega)]
      unfold tb
      exact decide_eq_true h0
    unfold cpM at hb
    rw [cpML_bt 6 (Nat.le_refl 6) h (by omega), decide_eq_true hh, Bool.true_and] at hb
    unfold cpMb at hb
    simp only [Bool.and_eq_true, decide_eq_true_eq] at hb
    refine ⟨hb.1, hb.2, ?_⟩
    cases hq : boM s b p with
    | none => rw [hq] at e; exact absurd rfl e
    | some u => exact ⟨u, rfl⟩
theorem fs_th {s : NV} {b h p : Nat} (e : fsM s b h p = true) : thM s b p = true := by
  unfold fsM at e
  simp only [Bool.and_eq_true] at e
  exact e.1
/-! the release of a host keeps them -/
theorem rel_J {s : NV} {b B M k : Nat} (hk : k < 6) (hJ : JJ s b B M) : JJ (laM s b k 0 (if ofM s b k 0 = nI 2 then (if ofM s b k 1 = nI 1 then (if nI (hdM s b k) = 0 then nI 0 else ofM s b k 0) else ofM s b k 0) else ofM s b k 0)) b B M := by
  by_cases h1 : ofM s b k 0 = nI 2
  · rw [if_pos h1]
    by_cases h2 : ofM s b k 1 = nI 1
    · rw [if_pos h2]
      by_cases h3 : nI (hdM s b k) = 0
      · rw [if_pos h3]
        have hz : hdM s b k = 0 := by
          have := hdM_le (s := s) (b := b) (h := k)
          exact (nI_eq (by omega) (by decide)).mp h3
        obtain ⟨⟨c, c1, c2, c3, c4⟩, hC, j3, j4, ⟨t, l, t1, t2, t3, t4, t5, t6, t7⟩⟩ := hJ
        have oo : ∀ j, j < 8 ∨ 32 ≤ j → laM s b k 0 (nI 0) (b + j) = s (b + j) := fun j hj => upd_n (by omega)
        refine ⟨⟨c, c1, ?_, fun p hp => ?_, fun h hh p hp => ?_⟩, blk_mode hC hk, ?_, ?_, ⟨t, l, t1, ?_, t3, t4, ?_, ?_, ?_⟩⟩
        · rw [oo 1 (by omega)]; exact c2
        · have := oo (32 + p) (by omega)
          rw [← Nat.add_assoc] at this
          rw [this]; exact c3 p hp
        · rw [rpM_la hk (by decide)]; exact c4 h hh p hp
        · unfold J3
          rw [oo 4 (by omega), oo 5 (by omega), oo 6 (by omega)]
          intro h4
          obtain ⟨p, S, U, g1, g2, g3, g4, g5, g6, g7, g8, g9, g10, g11⟩ := j3 h4
          refine ⟨p, S, U, g1, g2, g3, g4, g5, g6, g7, ?_, ?_, ?_, ?_⟩
          · rw [thM_la hk (by decide)]; exact g8
          · rw [ofM_la (by decide) (by decide), if_neg (by omega)]; exact g9
          · rw [ofM_la (by decide) (by decide), if_neg (by omega)]; exact g10
          · rw [ofM_la (by decide) (by decide)]
            by_cases e : U = k
            · subst e
              rw [h1] at g11
              exact absurd g11 (by decide)
            · rw [if_neg (fun q => e q.1)]; exact g11
        · intro h hh
          obtain ⟨a1, a2, a3⟩ := j4 h hh
          refine ⟨?_, ?_, ?_⟩
          · rw [ofM_la (by decide) (by decide), if_neg (by omega)]; exact a1
          · intro _ p hp
            rw [rpM_la hk (by decide)]
            by_cases e : h = k
            · subst e; exact hd_z hz hp
            · rename_i e0
              rw [ofM_la (by decide) (by decide), if_neg (fun q => e q.1)] at e0
              exact a2 e0 p hp
          · intro e0
            by_cases e : h = k
            · subst e
              rw [ofM_la (by decide) (by decide), if_pos ⟨rfl, rfl⟩] at e0
              exact absurd e0 (by decide)
            · rw [ofM_la (by decide) (by decide), if_neg (fun q => e q.1)] at e0
              obtain ⟨x, x1, x2, x3⟩ := a3 e0
              refine ⟨x, x1, ?_, ?_⟩
              · rw [ofM_la (by decide) (by decide), if_neg (by omega)]; exact x2
              · unfold usM
                rw [hdM_la hk (by decide), oo 4 (by omega), oo 6 (by omega)]
                exact x3
        · rw [oo 0 (by omega)]; exact t2
        · rw [oo 2 (by omega)]; exact t5
        · intro h hh e0
          by_cases e : h = k
          · subst e
            rw [ofM_la (by decide) (by decide), if_pos ⟨rfl, rfl⟩] at e0
            exact absurd e0 (by decide)
          · rw [ofM_la (by decide) (by decide), if_neg (fun q => e q.1)] at e0
            obtain ⟨d, d1, d2, d3⟩ := t6 h hh e0
            exact ⟨d, d1, d2, by rw [ofM_la (by decide) (by decide), if_neg (by omega)]; exact d3⟩
        · rw [oo 4 (by omega), oo 7 (by omega)]; exact t7
      · rw [if_neg h3, laM_self]; exact hJ
    · rw [if_neg h2, laM_self]; exact hJ
  · rw [if_neg h1, laM_self]; exact hJ
theorem rs_J {s : NV} {b B M : Nat} (hJ : JJ s b B M) : ∀ k, k ≤ 6 → JJ (rsM s b k) b B M := by
  intro k
  induction k with
  | zero => intro _; exact hJ
  | succ k ih =>
    intro hk
    rw [rs_la]
    exact rel_J (by omega) (ih (by omega))
/-- behind the release no host is left that could go -/
theorem rs_in {s : NV} {b : Nat} : ∀ k, k ≤ 6 → (∀ h, h < 6 → hdM (rsM s b k) b h = hdM s b h ∧ ofM (rsM s b k) b h 1 = ofM s b h 1 ∧ (k ≤ h → ofM (rsM s b k) b h 0 = ofM s b h 0)) ∧ ∀ h, h < k → ¬ (ofM (rsM s b k) b h 0 = nI 2 ∧ ofM (rsM s b k) b h 1 = nI 1 ∧ hdM (rsM s b k) b h = 0) := by
  intro k
  induction k with
  | zero => intro _; exact ⟨fun h _ => ⟨rfl, rfl, fun _ => rfl⟩, fun h hh => absurd hh (Nat.not_lt_zero h)⟩
  | succ k ih =>
    intro hk
    obtain ⟨i1, i2⟩ := ih (by omega)
    rw [rs_la]
    refine ⟨fun h hh => ⟨?_, ?_, fun hl => ?_⟩, fun h hh => ?_⟩
    · rw [hdM_la (by omega) (by decide)]; exact (i1 h hh).1
    · rw [ofM_la (by decide) (by decide), if_neg (by omega)]; exact (i1 h hh).2.1
    · rw [ofM_la (by decide) (by decide), if_neg (by omega)]; exact (i1 h hh).2.2 (by omega)
    · rw [hdM_la (by omega) (by decide), ofM_la (by decide) (by decide), ofM_la (by decide) (by decide), if_neg (show ¬ (h = k ∧ 1 = 0) by omega)]
      by_cases e : h = k
      · subst e
        rw [if_pos ⟨rfl, rfl⟩]
        intro ⟨q1, q2, q3⟩
        rw [q2, q3, if_pos rfl, if_pos (show nI 0 = 0 from rfl)] at q1
        by_cases e2 : ofM (rsM s b h) b h 0 = nI 2
        · rw [if_pos e2] at q1; exact absurd q1 (by decide)
        · rw [if_neg e2] at q1; exact e2 q1
      · rw [if_neg (fun q => e q.1)]
        exact i2 h (by omega)
theorem tr4_at {s : NV} {b P H : Nat} {U due : Int32} {i : Nat} : trM4 s b P H U due i = if i = b + 7 then due else if i = b + 4 then nI P else if i = b + 6 then U else if i = b + 5 then nI H else s i := rfl
/-- a chosen transfer keeps them -/
theorem tr_J {s : NV} {b B M P H : Nat} (hP : P < 30) (hH : H < 6) (hJ : JJ s b B M) (h4 : s (b + 4) = -1) (hc : ¬ clsM s b P H = 0) : JJ (trM4 s b P H (oN (boM s b P)) (s (b + 0) + s (b + 2))) b B M := by
  obtain ⟨g1, g2, U, gU⟩ := cls_spec hP hH hc
  obtain ⟨⟨c, c1, c2, c3, c4⟩, hC, j3, j4, ⟨t, l, t1, t2, t3, t4, t5, t6, t7⟩⟩ := hJ
  obtain ⟨u1, u2, u3, -⟩ := bo_spec gU
  have hroom := bo_room j4 gU
  rw [gU, t2, t5, nI_add]
  show JJ (trM4 s b P H (nI U) (nI (t + l))) b B M
  generalize hs' : trM4 s b P H (nI U) (nI (t + l)) = s'
  have oo : ∀ j, j < 4 ∨ 8 ≤ j → s' (b + j) = s (b + j) := fun j hj => by
    rw [← hs', tr4_at, if_neg (by omega), if_neg (by omega), if_neg (by omega), if_neg (by omega)]
  have e4 : s' (b + 4) = nI P := by rw [← hs', tr4_at, if_neg (by omega), if_pos rfl]
  have e5 : s' (b + 5) = nI H := by rw [← hs', tr4_at, if_neg (by omega), if_neg (by omega), if_neg (by omega), if_pos rfl]
  have e6 : s' (b + 6) = nI U := by rw [← hs', tr4_at, if_neg (by omega), if_neg (by omega), if_pos rfl]
  have e7 : s' (b + 7) = nI (t + l) := by rw [← hs', tr4_at, if_pos rfl]
  have q1 : Eqc s' s b 8 272 := fun j h1 _ => oo j (Or.inr h1)
  have hof : ∀ k w, k < 6 → w < 4 → ofM s' b k w = ofM s b k w := fun k w hk hw => Eqc.of (q1.part (by decide) (by decide)) hk hw
  have hrp : ∀ k p, k < 6 → p < 30 → rpM s' b k p = rpM s b k p := fun k p hk hp => Eqc.rp (q1.part (by decide) (by decide)) hk hp
  have hth : ∀ p, p < 30 → thM s' b p = thM s b p := fun p hp => Eqc.th (q1.part (by decide) (by decide)) hp
  have hfs : ∀ k p, k < 6 → p < 30 → fsM s' b k p = fsM s b k p := fun k p hk hp => Eqc.fs (q1.part (by decide) (by decide)) (q1.part (by decide) (by decide)) hk hp
  have hhd : ∀ k, k < 6 → hdM s' b k = hdM s b k := fun k hk => Eqc.hd (q1.part (by decide) (by decide)) hk
  refine ⟨⟨c, c1, ?_, fun p hp => ?_, fun h hh p hp => ?_⟩, fun h hh p hp a1 a2 => ?_, fun _ => ⟨P, H, U, hP, hH, u1, ?_, e4, e5, e6, ?_, ?_, ?_, ?_⟩, fun h hh => ⟨?_, ?_, ?_⟩, ⟨t, l, t1, ?_, t3, t4, ?_, fun h hh e0 => ?_, fun _ => ⟨t + l, by omega, by omega, e7⟩⟩⟩
  · rw [oo 1 (by omega)]; exact c2
  · have := oo (32 + p) (by omega)
    rw [← Nat.add_assoc] at this
    rw [this]; exact c3 p hp
  · rw [hrp h p hh hp]; exact c4 h hh p hp
  · rw [hof h 1 hh (by decide)] at a1
    rw [hrp h p hh hp] at a2
    rw [hfs h p hh hp]
    exact hC h hh p hp a1 a2
  · intro e; subst e; exact g2 u2
  · rw [hth P hP]; exact fs_th (hC H hH P hP g1 g2)
  · rw [hof H 1 hH (by decide)]; exact g1
  · rw [hof U 1 u1 (by decide)]; exact (le_spec u3).2
  · rw [hof U 0 u1 (by decide)]; exact (le_spec u3).1
  · rw [hof h 1 hh (by decide)]; exact (j4 h hh).1
  · rw [hof h 0 hh (by decide)]
    intro e p hp
    rw [hrp h p hh hp]; exact (j4 h hh).2.1 e p hp
  · rw [hof h 0 hh (by decide), hof h 2 hh (by decide)]
    intro e
    unfold usM
    rw [hhd h hh, e4, e6, if_neg (ni_m1 (by omega))]
    by_cases eh : U = h
    · subst eh
      obtain ⟨x, x1, x2, x3⟩ := hroom
      refine ⟨x, x1, x2, ?_⟩
      rw [if_pos rfl]
      unfold usM at x3
      omega
    · obtain ⟨x, x1, x2, x3⟩ := (j4 h hh).2.2 e
      refine ⟨x, x1, x2, ?_⟩
      rw [if_neg (ni_ne eh (by omega) (by omega))]
      unfold usM at x3
      omega
  · rw [oo 0 (by omega)]; exact t2
  · rw [oo 2 (by omega)]; exact t5
  · rw [hof h 0 hh (by decide)] at e0
    obtain ⟨d, d1, d2, d3⟩ := t6 h hh e0
    exact ⟨d, d1, d2, by rw [hof h 3 hh (by decide)]; exact d3⟩
/-- settling: the two sides go on agreeing, the invariants hold, and the pool is settled -/
theorem se_all {f : SV} {s : NV} {b B M : Nat} (hM : M ≤ 1000600) (hS : Sim f s b) (hJ : JJ s b B M) : Sim (seS f) (seM s b) b ∧ JJ (seM s b) b B M ∧ J6 (seM s b) b := by
  refine ⟨sim_seM hS hJ.2.1 (hJ.2.2.2.2.dl hM), ?_⟩
  have hS' := sim_rl hS 6 (Nat.le_refl 6)
  have hJ' := rs_J hJ 6 (Nat.le_refl 6)
  have hin := (rs_in (s := s) (b := b) 6 (Nat.le_refl 6)).2
  unfold seM
  by_cases h4 : rsM s b 6 (b + 4) = -1
  · rw [if_pos h4]
    rcases sim_cho hS' hJ'.2.1 (hJ'.2.2.2.2.dl hM) with ⟨-, e2, e3⟩ | ⟨P, H, hP, hH, -, e1, e2⟩
    · rw [e2]; exact ⟨hJ', hin, fun _ => e3⟩
    · rw [e2]
      have q1 : Eqc (trM4 (rsM s b 6) b P H (oN (boM (rsM s b 6) b P)) (rsM s b 6 (b + 0) + rsM s b 6 (b + 2))) (rsM s b 6) b 8 272 := fun j h1 _ => by
        rw [tr4_at, if_neg (by omega), if_neg (by omega), if_neg (by omega), if_neg (by omega)]
      refine ⟨tr_J hP hH hJ' h4 e1, fun h hh => ?_, fun e => ?_⟩
      · rw [Eqc.of (q1.part (by decide) (by decide)) hh (by decide), Eqc.of (q1.part (by decide) (by decide)) hh (by decide), Eqc.hd (q1.part (by decide) (by decide)) hh]
        exact hin h hh
      · rw [tr4_at, if_neg (by omega), if_pos rfl] at e
        exact absurd e (ni_m1 (by omega))
  · rw [if_neg h4]
    exact ⟨hJ', hin, fun e => absurd e h4⟩
