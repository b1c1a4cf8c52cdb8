/-! seconds in which nothing happens; time passes to the next moment -/
theorem J6.cg {s s' : NV} {b b' : Nat} (hg : Cg2 s b s' b') (h : J6 s b) : J6 s' b' := by
  refine ⟨fun k hk => ?_, fun e => ?_⟩
  · rw [← hg.of hk (by decide), ← hg.of hk (by decide), ← hg.hd hk]
    exact h.1 k hk
  · rw [← hg.ch 180 (Nat.le_refl 180)]
    exact h.2 ((hg 4 (by decide) (by omega)).trans e)
theorem se_id {s : NV} {b : Nat} (h : J6 s b) : seM s b = s := by
  have e1 : ∀ k, k ≤ 6 → rsM s b k = s := by
    intro k
    induction k with
    | zero => intro _; rfl
    | succ k ih =>
      intro hk
      rw [rs_la, ih (by omega)]
      have h1 := h.1 k (by omega)
      by_cases a1 : ofM s b k 0 = nI 2
      · rw [if_pos a1]
        by_cases a2 : ofM s b k 1 = nI 1
        · rw [if_pos a2]
          have hle := hdM_le (s := s) (b := b) (h := k)
          have hne : ¬ nI (hdM s b k) = 0 := fun e => h1 ⟨a1, a2, (nI_eq (by omega) (by decide)).mp e⟩
          rw [if_neg hne, laM_self]
        · rw [if_neg a2, laM_self]
      · rw [if_neg a1, laM_self]
  unfold seM
  rw [e1 6 (Nat.le_refl 6)]
  by_cases h4 : s (b + 4) = -1
  · rw [if_pos h4]
    exact cgM_n (h.2 h4) (ch4 180 (h.2 h4))
  · rw [if_neg h4]
/-- nothing is due before n -/
def NoE (s : NV) (b n : Nat) : Prop := (∀ h, h < 6 → ofM s b h 0 = nI 2 → ∃ d, n ≤ d ∧ d ≤ 2000000 ∧ ofM s b h 3 = nI d) ∧ (¬ s (b + 4) = -1 → ∃ u, n ≤ u ∧ u ≤ 2000000 ∧ s (b + 7) = nI u)
theorem now_cg {s : NV} {b : Nat} {v : Int32} : Cg2 s b (upd s (b + 0) v) b := fun j _ hj => by rw [upd_n (by omega)]
theorem now_of {s : NV} {b h w : Nat} {v : Int32} : ofM (upd s (b + 0) v) b h w = ofM s b h w := by
  unfold ofM; exact upd_n (by omega)
theorem sp_idle {s : NV} {b t : Nat} (h6 : J6 s b) (h0 : s (b + 0) = nI t) (ht : t ≤ 2000000) (hn : NoE s b (t + 2)) : spM s b = upd s (b + 0) (nI (t + 1)) := by
  have e1 : tkM s b = upd s (b + 0) (nI (t + 1)) := by unfold tkM; rw [h0, nI_add]
  have e2 : evM (upd s (b + 0) (nI (t + 1))) b = upd s (b + 0) (nI (t + 1)) := by
    unfold evM
    rw [upd_n (show ¬ b + 4 = b + 0 by omega), upd_n (show ¬ b + 7 = b + 0 by omega), upd_e rfl]
    by_cases h4 : s (b + 4) = -1
    · rw [if_pos h4]
    · rw [if_neg h4]
      obtain ⟨u, u1, u2, u3⟩ := hn.2 h4
      rw [if_neg]
      rw [u3]
      exact ni_ne (by omega) (by omega) (by omega)
  have e3 : ∀ k, k ≤ 6 → exM (upd s (b + 0) (nI (t + 1))) b k = upd s (b + 0) (nI (t + 1)) := by
    intro k
    induction k with
    | zero => intro _; rfl
    | succ k ih =>
      intro hk
      rw [exM_s, ih (by omega), now_of, now_of, upd_e rfl]
      by_cases a1 : ofM s b k 0 = nI 2
      · obtain ⟨d, d1, d2, d3⟩ := hn.1 k (by omega) a1
        rw [if_pos a1, if_neg]
        rw [d3]
        exact ni_ne (by omega) (by omega) (by omega)
      · rw [if_neg a1]
  unfold spM
  rw [e1, e2, e3 6 (Nat.le_refl 6)]
  exact se_id (h6.cg now_cg)
theorem upd_upd {s : NV} {i : Nat} {v w : Int32} : upd (upd s i v) i w = upd s i w := by
  funext j
  unfold upd
  split <;> rfl
theorem NoE.mono {s : NV} {b m n : Nat} (h : NoE s b n) (hm : m ≤ n) : NoE s b m := by
  refine ⟨fun k hk e => ?_, fun e => ?_⟩
  · obtain ⟨d, d1, d2, d3⟩ := h.1 k hk e
    exact ⟨d, by omega, d2, d3⟩
  · obtain ⟨d, d1, d2, d3⟩ := h.2 e
    exact ⟨d, by omega, d2, d3⟩
theorem NoE.now {s : NV} {b n : Nat} {v : Int32} (h : NoE s b n) : NoE (upd s (b + 0) v) b n := by
  unfold NoE
  rw [upd_n (show ¬ b + 4 = b + 0 by omega), upd_n (show ¬ b + 7 = b + 0 by omega)]
  refine ⟨fun k hk e => ?_, h.2⟩
  rw [now_of] at e ⊢
  exact h.1 k hk e
theorem spL_s {s : NV} {b k : Nat} : spL s b (k + 1) = spM (spL s b k) b := rfl
theorem spL_idle {s : NV} {b t n : Nat} (h6 : J6 s b) (h0 : s (b + 0) = nI t) (hn : NoE s b n) (hb : n ≤ 2000000) : ∀ j, t + j < n → spL s b j = upd s (b + 0) (nI (t + j)) := by
  intro j
  induction j with
  | zero => intro _; exact (upd_self h0).symm
  | succ j ih =>
    intro hj
    rw [spL_s, ih (by omega), sp_idle (t := t + j) (h6.cg now_cg) (upd_e rfl) (by omega) ((hn.mono (by omega)).now), upd_upd, Nat.add_assoc]
theorem spL_add {s : NV} {b : Nat} (i : Nat) : ∀ j, spL s b (i + j) = spL (spL s b i) b j := by
  intro j
  induction j with
  | zero => rfl
  | succ j ih => rw [← Nat.add_assoc, spL_s, ih, spL_s]
/-- the next moment, as the program's side finds it -/
theorem ne_spec {f : SV} {s : NV} {b B M t e : Nat} (hM : M ≤ 1000600) (hS : Sim f s b) (hJ : JJ s b B M) (h0 : s (b + 0) = nI t) (he : t < e) (heM : e ≤ M) : ∃ n, neS f (nI e) = nI n ∧ t < n ∧ n ≤ e ∧ NoE s b n := by
  obtain ⟨t9, l, t1, t2, t3, t4, t5, t6, t7⟩ := hJ.t
  have et : t9 = t := (nI_eq (by omega) (by omega)).mp (t2.symm.trans h0)
  subst et
  obtain ⟨m, m1, m2, m3, m4⟩ : ∃ m, neB f (nI e) = nI m ∧ t9 < m ∧ m ≤ e ∧ (¬ s (b + 4) = -1 → ∃ u, m ≤ u ∧ u ≤ 2000000 ∧ s (b + 7) = nI u) := by
    unfold neB
    rw [hS.a.1.2.2.2]
    by_cases h4 : s (b + 4) = -1
    · rw [if_pos h4]; exact ⟨e, rfl, he, Nat.le_refl e, fun hn => absurd h4 hn⟩
    · rw [if_neg h4, (hS.a.2.2 h4).2.2]
      obtain ⟨u, u1, u2, u3⟩ := t7 h4
      rw [u3]
      have hi : nI e ≤ nI u ↔ e ≤ u := nI_leI (by omega) (by omega)
      by_cases q : e ≤ u
      · rw [if_pos (hi.mpr q)]; exact ⟨e, rfl, he, Nat.le_refl e, fun _ => ⟨u, q, by omega, rfl⟩⟩
      · rw [if_neg (fun z => q (hi.mp z))]; exact ⟨u, rfl, u1, by omega, fun _ => ⟨u, Nat.le_refl u, by omega, rfl⟩⟩
  have key : ∀ k, k ≤ 6 → ∃ n, neL f (nI m) k = nI n ∧ t9 < n ∧ n ≤ m ∧ ∀ h, h < k → ofM s b h 0 = nI 2 → ∃ d, n ≤ d ∧ d ≤ 2000000 ∧ ofM s b h 3 = nI d := by
    intro k
    induction k with
    | zero => intro _; exact ⟨m, rfl, m2, Nat.le_refl m, fun h hh => absurd hh (Nat.not_lt_zero h)⟩
    | succ k ih =>
      intro hk
      obtain ⟨n, n1, n2, n3, n4⟩ := ih (by omega)
      rw [neL, (hS.h k (by omega)).1, (hS.h k (by omega)).2.2, n1]
      by_cases a1 : ofM s b k 0 = nI 2
      · rw [if_pos a1]
        obtain ⟨d, d1, d2, d3⟩ := t6 k (by omega) a1
        rw [d3]
        have hi : nI n ≤ nI d ↔ n ≤ d := nI_leI (by omega) (by omega)
        by_cases q : n ≤ d
        · rw [if_pos (hi.mpr q)]
          refine ⟨n, rfl, n2, n3, fun h hh e0 => ?_⟩
          by_cases eh : h = k
          · subst eh; exact ⟨d, q, by omega, d3⟩
          · exact n4 h (by omega) e0
        · rw [if_neg (fun z => q (hi.mp z))]
          refine ⟨d, rfl, d1, by omega, fun h hh e0 => ?_⟩
          by_cases eh : h = k
          · subst eh; exact ⟨d, Nat.le_refl d, by omega, d3⟩
          · obtain ⟨y, y1, y2, y3⟩ := n4 h (by omega) e0
            exact ⟨y, by omega, y2, y3⟩
      · rw [if_neg a1]
        refine ⟨n, rfl, n2, n3, fun h hh e0 => ?_⟩
        by_cases eh : h = k
        · subst eh; exact absurd e0 a1
        · exact n4 h (by omega) e0
  obtain ⟨n, n1, n2, n3, n4⟩ := key 6 (Nat.le_refl 6)
  refine ⟨n, ?_, n2, by omega, n4, fun h4 => ?_⟩
  · unfold neS; rw [m1, n1]
  · obtain ⟨u, u1, u2, u3⟩ := m4 h4
    exact ⟨u, by omega, u2, u3⟩
theorem J3.tr {s : NV} {b : Nat} (h : J3 s b) : trOK s b := fun hn => by
  obtain ⟨p, S, U, g1, g2, g3, g4, g5, g6, g7, -⟩ := h hn
  rw [g5, g6, g7]
  exact ⟨isR_nI g1 (by decide), isR_nI g2 (by decide), isR_nI g3 (by decide)⟩
theorem tr_now {s : NV} {b : Nat} {v : Int32} (h : trOK s b) : trOK (upd s (b + 0) v) b := by
  unfold trOK at h ⊢
  rw [upd_n (by omega), upd_n (by omega), upd_n (by omega)]
  exact h
/-- on to the next moment, both sides -/
theorem nx_all {f : SV} {s : NV} {b B M t e : Nat} (hM : M ≤ 1000600) (hS : Sim f s b) (hJ : JJ s b B M) (h6 : J6 s b) (h0 : s (b + 0) = nI t) (he : t < e) (heM : e ≤ M) :
    ∃ j, 1 ≤ j ∧ t + j ≤ e ∧ neS f (nI e) = nI (t + j) ∧ Sim (evG f (nI e)) (spL s b j) b ∧ JJ (spL s b j) b B M ∧ J6 (spL s b j) b ∧ spL s b j (b + 0) = nI (t + j) ∧ (∀ i, i < j → trOK (tkM (spL s b i) b) b) ∧ (∃ d, d ≤ j ∧ spL s b j (b + 3) = s (b + 3) + nI d) ∧ Frm (spL s b j) s b ∧ (∀ i, i < j → spL s b i = upd s (b + 0) (nI (t + i))) := by
  obtain ⟨n, n1, n2, n3, n4⟩ := ne_spec hM hS hJ h0 he heM
  obtain ⟨t9, l, t1, t2, t3, t4, t5, t6, t7⟩ := hJ.t
  have et : t9 = t := (nI_eq (by omega) (by omega)).mp (t2.symm.trans h0)
  subst et
  have hid := spL_idle h6 h0 n4 (by omega)
  obtain ⟨j, rfl⟩ : ∃ j, n = t9 + (j + 1) := ⟨n - t9 - 1, by omega⟩
  have esp : spL s b (j + 1) = seM (exM (evM (upd s (b + 0) (nI (t9 + (j + 1)))) b) b 6) b := by
    rw [spL_s, hid j (by omega)]
    unfold spM tkM
    rw [upd_e rfl, nI_add, upd_upd, Nat.add_assoc]
  have hS' : Sim (evG1 f (nI e)) (upd s (b + 0) (nI (t9 + (j + 1)))) b := by
    unfold evG1; rw [n1]; exact sim_now hS
  have hJ' : JC (upd s (b + 0) (nI (t9 + (j + 1)))) b B := hJ.c.top (fun i h1 _ => upd_n (by omega)) (upd_n (by omega)) (Or.inr ⟨upd_n (by omega), upd_n (by omega), upd_n (by omega)⟩)
  obtain ⟨y1, y2, y3, y4, y5, y6⟩ := mo_all hM hS' hJ' (t := t9 + (j + 1)) (by omega) (upd_e rfl) ⟨l, t3, t4, by rw [upd_n (by omega)]; exact t5⟩ (fun h hh e0 => by
    rw [now_of] at e0 ⊢
    obtain ⟨d, d1, d2, d3⟩ := t6 h hh e0
    obtain ⟨d', d1', d2', d3'⟩ := n4.1 h hh e0
    have : d = d' := (nI_eq (by omega) (by omega)).mp (d3.symm.trans d3')
    exact ⟨d, by omega, by omega, d3⟩) (fun h4 => by
    rw [upd_n (by omega)] at h4 ⊢
    obtain ⟨d, d1, d2, d3⟩ := t7 h4
    obtain ⟨d', d1', d2', d3'⟩ := n4.2 h4
    have : d = d' := (nI_eq (by omega) (by omega)).mp (d3.symm.trans d3')
    exact ⟨d, by omega, by omega, d3⟩)
  refine ⟨j + 1, by omega, n3, n1, ?_, ?_, ?_, ?_, fun i hi => ?_, ?_, ?_, fun i hi => hid i (by omega)⟩
  · rw [esp]; exact y1
  · rw [esp]; exact y2
  · rw [esp]; exact y3
  · rw [esp]; exact y4
  · rw [hid i (by omega)]
    exact tr_now (tr_now hJ.2.2.1.tr)
  · obtain ⟨d, d1, d2⟩ := y5
    refine ⟨d, by omega, ?_⟩
    rw [esp, d2, upd_n (by omega)]
  · rw [esp]
    exact y6.tr fun i hi => upd_n (by omega)
/-- time passes, both sides -/
theorem av_all {b B M : Nat} (hM : M ≤ 1000600) : ∀ n k f s t, k ≤ n → Sim f s b → JJ s b B M → J6 s b → s (b + 0) = nI t → t + k ≤ M →
    Sim (avG (nI (t + k)) n f) (spL s b k) b ∧ JJ (spL s b k) b B M ∧ J6 (spL s b k) b ∧ spL s b k (b + 0) = nI (t + k) ∧ (∀ i, i < k → trOK (tkM (spL s b i) b) b) ∧ (∃ d, d ≤ k ∧ spL s b k (b + 3) = s (b + 3) + nI d) ∧ Frm (spL s b k) s b := by
  intro n
  induction n with
  | zero =>
    intro k f s t hk hS hJ h6 h0 htk
    have : k = 0 := by omega
    subst this
    exact ⟨hS, hJ, h6, h0, fun i hi => absurd hi (Nat.not_lt_zero i), ⟨0, Nat.le_refl 0, (Int32.add_zero _).symm⟩, fun _ _ => rfl⟩
  | succ n ih =>
    intro k f s t hk hS hJ h6 h0 htk
    by_cases k0 : k = 0
    · subst k0
      rw [avG, hS.a.1.1, h0, if_pos (show nI (t + 0) ≤ nI t from Int32.le_refl _)]
      exact ⟨hS, hJ, h6, h0, fun i hi => absurd hi (Nat.not_lt_zero i), ⟨0, Nat.le_refl 0, (Int32.add_zero _).symm⟩, fun _ _ => rfl⟩
    · rw [avG, hS.a.1.1, h0, if_neg (by rw [nI_leI (by omega) (by omega)]; omega)]
      obtain ⟨j, j1, j2, -, j3, j4, j5, j6, j7, ⟨d, d1, d2⟩, j9, -⟩ := nx_all hM hS hJ h6 h0 (e := t + k) (by omega) htk
      obtain ⟨r1, r2, r3, r4, r5, ⟨d', d1', d2'⟩, r7⟩ := ih (k - j) (evG f (nI (t + k))) (spL s b j) (t + j) (by omega) j3 j4 j5 j6 (by omega)
      have ek : j + (k - j) = k := by omega
      have et : t + j + (k - j) = t + k := by omega
      rw [et] at r1 r4
      rw [← spL_add, ek] at r1 r2 r3 r4 d2' r7
      refine ⟨r1, r2, r3, r4, fun i hi => ?_, ⟨d + d', by omega, ?_⟩, r7.tr j9⟩
      · by_cases q : i < j
        · exact j7 i q
        · have := r5 (i - j) (by omega)
          rw [← spL_add, show j + (i - j) = i by omega] at this
          exact this
      · rw [d2', d2, Int32.add_assoc, nI_add]
