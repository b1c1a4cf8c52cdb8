/-! the operations on pages: a new stamp -/
theorem st1_at {s : NV} {p i : Nat} {v : Int32} (hp : p < 30) : st1 s p v i = if i = 62 + p then v else if i = 32 + p then s 1 + nI 1 else if i = 1 then s 1 + nI 1 else s i := by
  have e : upd s 1 (s 1 + nI 1) 1 = s 1 + nI 1 := upd_e rfl
  unfold st1
  rw [e]
  rfl
section
variable {s : NV} {p : Nat} {v : Int32}
theorem st1_o (hp : p < 30) {j : Nat} (h1 : j ≠ 1) (h2 : j ≠ 32 + p) (h3 : j ≠ 62 + p) : st1 s p v (0 + j) = s (0 + j) := by
  rw [st1_at hp, if_neg (by omega), if_neg (by omega), if_neg (by omega)]
theorem st1_1 (hp : p < 30) : st1 s p v (0 + 1) = s 1 + nI 1 := by
  rw [st1_at hp, if_neg (by omega), if_neg (by omega), if_pos rfl]
theorem st1_st (hp : p < 30) {q : Nat} (hq : q < 30) : st1 s p v (0 + 32 + q) = if q = p then s 1 + nI 1 else s (0 + 32 + q) := by
  rw [st1_at hp, if_neg (by omega)]
  by_cases e : q = p
  · rw [if_pos (by omega), if_pos e]
  · rw [if_neg (by omega), if_neg (by omega), if_neg e]
theorem st1_v (hp : p < 30) {q : Nat} (hq : q < 30) : st1 s p v (0 + 62 + q) = if q = p then v else s (0 + 62 + q) := by
  rw [st1_at hp]
  by_cases e : q = p
  · rw [if_pos (by omega), if_pos e]
  · rw [if_neg (by omega), if_neg (by omega), if_neg (by omega), if_neg e]
theorem st1_of (hp : p < 30) {k w : Nat} (hk : k < 6) (hw : w < 4) : ofM (st1 s p v) 0 k w = ofM s 0 k w := by
  unfold ofM
  rw [st1_at hp, if_neg (by omega), if_neg (by omega), if_neg (by omega)]
theorem st1_rp (hp : p < 30) {k q : Nat} : rpM (st1 s p v) 0 k q = rpM s 0 k q := by
  unfold rpM
  rw [st1_at hp, if_neg (by omega), if_neg (by omega), if_neg (by omega)]
theorem st1_th {c : Nat} (hc : s 1 = nI c) (hb : c < 1000000) (hp : p < 30) {q : Nat} (hq : q < 30) : thM (st1 s p v) 0 q = if q = p then true else thM s 0 q := by
  unfold thM
  rw [st1_st hp hq]
  by_cases e : q = p
  · rw [if_pos e, if_pos e, hc, nI_add, decide_eq_true]
    exact nI_nle (by omega) (by omega)
  · rw [if_neg e, if_neg e]
theorem st1_fs {c B : Nat} (hc : s 1 = nI c) (hb : c < 1000000) (hr : ∀ h, h < 6 → ∀ q, q < 30 → ∃ x, x ≤ c ∧ rpM s 0 h q = nI x) (hp : p < 30) {k q : Nat} (hk : k < 6) (hq : q < 30) : fsM (st1 s p v) 0 k q = if q = p then false else fsM s 0 k q := by
  unfold fsM
  rw [st1_th hc hb hp hq, st1_rp hp, st1_st hp hq]
  by_cases e : q = p
  · obtain ⟨x, x1, x2⟩ := hr k hk q hq
    rw [if_pos e, if_pos e, if_pos e, x2, hc, nI_add, decide_eq_false (ni_ne (by omega) (by omega) (by omega))]
    rfl
  · rw [if_neg e, if_neg e, if_neg e]
end
/-- the numbers behind the stamp, but for the page's own replicas -/
theorem J5.cg {s s' : NV} {b M : Nat} (h : J5 s b M) (h0 : s' (b + 0) = s (b + 0)) (h2 : s' (b + 2) = s (b + 2)) (h4 : s' (b + 4) = s (b + 4) ∨ s' (b + 4) = -1) (h7 : s' (b + 7) = s (b + 7)) (ho : ∀ k, k < 6 → ofM s' b k 0 = ofM s b k 0 ∧ ofM s' b k 3 = ofM s b k 3) : J5 s' b M := by
  obtain ⟨t, l, t1, t2, t3, t4, t5, t6, t7⟩ := h
  refine ⟨t, l, t1, h0.trans t2, t3, t4, h2.trans t5, fun k hk e => ?_, fun hn => ?_⟩
  · rw [(ho k hk).1] at e
    rw [(ho k hk).2]
    exact t6 k hk e
  · rw [h7]
    rcases h4 with e | e
    · exact t7 (fun z => hn (e.trans z))
    · exact absurd e hn
/-! store -/
theorem sim_st1 {f : SV} {s : NV} {p c : Nat} {v : Int32} (hS : Sim f s 0) (hC : BlkC s 0) (hp : p < 30) (hn : thM s 0 p = false) (hc : s 1 = nI c) (hb : c < 1000000) (hr : ∀ h, h < 6 → ∀ q, q < 30 → ∃ x, x ≤ c ∧ rpM s 0 h q = nI x) : Sim (put (put f 0 6 (f 0 6 ||| bitP p)) 6 p v) (st1 s p v) 0 := by
  refine Sim.mk ?_ (fun k hk => ?_) (fun k hk => ?_) (fun q hq => ?_) (fun k hk q hq => ?_)
  · have a := hS.a
    unfold SA at a ⊢
    rw [st1_o hp (by omega) (by omega) (by omega), st1_o hp (by omega) (by omega) (by omega), st1_o hp (by omega) (by omega) (by omega), st1_o hp (by omega) (by omega) (by omega), st1_o hp (by omega) (by omega) (by omega), st1_o hp (by omega) (by omega) (by omega), st1_o hp (by omega) (by omega) (by omega)]
    simp only [put_at]
    exact a
  · rw [st1_of hp hk (by decide), st1_of hp hk (by decide), st1_of hp hk (by decide), put_o (by omega), put_o (by omega), put_o (by omega), put_o (by omega), put_o (by omega), put_o (by omega)]
    exact hS.h k hk
  · rw [put_o (by omega), put_o (by omega)]
    have := hS.c k hk
    by_cases h6 : k < 6
    · rw [st1_of hp h6 (by decide)]; exact this
    · rw [decide_eq_false h6, Bool.false_and] at this ⊢; exact this
  · rw [put_o (by omega), put_e rfl rfl, bitP_or (by omega) (by omega), st1_th hc hb hp hq, st1_v hp hq]
    by_cases e : q = p
    · rw [if_pos e, if_pos e, decide_eq_true e, Bool.or_true, put_e rfl e]; exact ⟨rfl, rfl⟩
    · rw [if_neg e, if_neg e, decide_eq_false e, Bool.or_false, put_o (by omega), put_o (by omega)]
      exact hS.p q hq
  · rw [put_o (by omega), put_o (by omega), put_o (by omega), put_o (by omega)]
    have hq0 := hS.q k hk q hq
    by_cases h30 : q < 30
    · rw [st1_fs (B := 0) hc hb hr hp hk h30, st1_rp hp]
      by_cases e : q = p
      · have e9 : fsM s 0 k q = false := by
          cases hf : fsM s 0 k q with
          | false => rfl
          | true => rw [e] at hf; rw [fs_th hf] at hn; cases hn
        rw [if_pos e, ← e9]; exact hq0
      · rw [if_neg e]; exact hq0
    · rw [decide_eq_false h30, Bool.false_and, Bool.false_and] at hq0 ⊢; exact hq0
theorem J_st1 {s : NV} {p B : Nat} {v : Int32} (hJ : JC s 0 B) (hB : B < 1000000) (hp : p < 30) (hn : thM s 0 p = false) : JC (st1 s p v) 0 (B + 1) := by
  obtain ⟨⟨c, c1, c2, c3, c4⟩, hC, j3, j4⟩ := hJ
  have c2' : s 1 = nI c := c2
  refine ⟨⟨c + 1, by omega, ?_, fun q hq => ?_, fun h hh q hq => ?_⟩, fun h hh q hq a1 a2 => ?_, ?_, fun h hh => ⟨?_, ?_, ?_⟩⟩
  · rw [st1_1 hp, c2', nI_add]
  · rw [st1_st hp hq]
    split
    · exact ⟨c + 1, Nat.le_refl _, by rw [c2', nI_add]⟩
    · obtain ⟨x, x1, x2⟩ := c3 q hq
      exact ⟨x, by omega, x2⟩
  · rw [st1_rp hp]
    obtain ⟨x, x1, x2⟩ := c4 h hh q hq
    exact ⟨x, by omega, x2⟩
  · rw [st1_of hp hh (by decide)] at a1
    rw [st1_rp hp] at a2
    have h1 := hC h hh q hq a1 a2
    rw [st1_fs (B := 0) c2' (by omega) c4 hp hh hq]
    by_cases e : q = p
    · rw [e] at h1; rw [fs_th h1] at hn; cases hn
    · rw [if_neg e]; exact h1
  · unfold J3
    rw [st1_o hp (by omega) (by omega) (by omega), st1_o hp (by omega) (by omega) (by omega), st1_o hp (by omega) (by omega) (by omega)]
    intro h4
    obtain ⟨q, S, U, g1, g2, g3, g4, g5, g6, g7, g8, g9, g10, g11⟩ := j3 h4
    refine ⟨q, S, U, g1, g2, g3, g4, g5, g6, g7, ?_, by rw [st1_of hp g2 (by decide)]; exact g9, by rw [st1_of hp g3 (by decide)]; exact g10, by rw [st1_of hp g3 (by decide)]; exact g11⟩
    rw [st1_th c2' (by omega) hp g1]
    split
    · rfl
    · exact g8
  · rw [st1_of hp hh (by decide)]; exact (j4 h hh).1
  · rw [st1_of hp hh (by decide)]
    intro e q hq
    rw [st1_rp hp]; exact (j4 h hh).2.1 e q hq
  · rw [st1_of hp hh (by decide), st1_of hp hh (by decide)]
    intro e
    obtain ⟨x, x1, x2, x3⟩ := (j4 h hh).2.2 e
    refine ⟨x, x1, x2, ?_⟩
    have e1 : usM (st1 s p v) 0 h = usM s 0 h := by
      unfold usM hdM
      rw [hdL_ct, hdL_ct, st1_o hp (by omega) (by omega) (by omega), st1_o hp (by omega) (by omega) (by omega)]
      have : fb_ct (fun q => decide (¬ rpM (st1 s p v) 0 h q ≤ 0)) 30 = fb_ct (fun q => decide (¬ rpM s 0 h q ≤ 0)) 30 := fb_ct_cong fun q hq => by rw [st1_rp hp]
      rw [this]
    rw [e1]; exact x3
/-- one replica of a stored page placed -/
theorem pl_all {f : SV} {s : NV} {p B : Nat} (hS : Sim f s 0) (hJ : JC s 0 B) (hp : p < 30) (ht : thM s 0 p = true) (hst : s (0 + 32 + p) = s 1) : Sim (plS f p) (plM s p) 0 ∧ JC (plM s p) 0 B ∧ thM (plM s p) 0 p = true ∧ plM s p (0 + 32 + p) = plM s p 1 ∧ Frm (plM s p) s 0 ∧ (∀ j, j < 92 → plM s p (0 + j) = s (0 + j)) := by
  have ebo := sim_bo hS hp
  cases hb : boM s 0 p with
  | none =>
    rw [plM_n hb, plS_n (ebo.trans hb)]
    exact ⟨hS, hJ, ht, hst, fun _ _ => rfl, fun _ _ => rfl⟩
  | some h =>
    rw [plM_s hb, plS_s (ebo.trans hb)]
    obtain ⟨u1, u2, u3, -⟩ := bo_spec hb
    refine ⟨sim_lrF hS u1 hp ht (hS.ns hJ.2.1 u1 hp (le_spec u3).2) hst.symm, hJ.lr u1 hp (Or.inr ⟨hst.symm, ht, (le_spec u3).1, bo_room hJ.2.2.2 hb⟩), by rw [lr_th hp]; exact ht, ?_, Frm.lr u1 hp, fun j hj => lr_o u1 hp hj⟩
    rw [lr_st hp]
    have := lr_o (s := s) (b := 0) (h := h) (p := p) (x := s 1) (j := 1) u1 hp (by decide)
    simp only [Nat.zero_add] at this
    rw [this]; exact hst
theorem op_store {f : SV} {s : NV} {p B M : Nat} {v : Int32} (hM : M ≤ 1000600) (hB : B < 1000000) (hS : Sim f s 0) (hJ : JJ s 0 B M) (hp : p < 30) (hc : csM s p = true) :
    OpA (seS (adG f p v)) (seM (st2 s p v) 0) s (B + 1) M ∧ bcI (cpS (adG f p v) p) = onM (cpM (st2 s p v) 0 p) := by
  unfold csM at hc
  simp only [Bool.and_eq_true, Bool.not_eq_true'] at hc
  have hn := hc.1
  obtain ⟨⟨c, c1, c2, c3, c4⟩, hC, -⟩ := hJ.c
  have c2' : s 1 = nI c := c2
  have S1 := sim_st1 (v := v) hS hC hp hn c2' (by omega) c4
  have K1 := J_st1 (v := v) hJ.c hB hp hn
  have t1 : thM (st1 s p v) 0 p = true := by rw [st1_th c2' (by omega) hp hp, if_pos rfl]
  have s1 : st1 s p v (0 + 32 + p) = st1 s p v 1 := by
    have := st1_1 (s := s) (v := v) hp
    simp only [Nat.zero_add] at this
    rw [st1_st hp hp, if_pos rfl, this]
  obtain ⟨S2, K2, t2, s2, F2, o2⟩ := pl_all S1 K1 hp t1 s1
  obtain ⟨S3, K3, t3, s3, F3, o3⟩ := pl_all S2 K2 hp t2 s2
  have eM : st2 s p v = plM (plM (st1 s p v) p) p := rfl
  have hof : ∀ k w, k < 6 → w < 4 → ofM (st2 s p v) 0 k w = ofM s 0 k w := fun k w hk hw => by
    rw [eM, ← st1_of (s := s) (v := v) hp hk hw]
    unfold ofM
    have a3 := o3 (8 + 4 * k + w) (by omega)
    have a2 := o2 (8 + 4 * k + w) (by omega)
    rw [← Nat.add_assoc, ← Nat.add_assoc] at a3 a2
    exact a3.trans a2
  have hz : ∀ j, j < 8 → j ≠ 1 → st2 s p v (0 + j) = s (0 + j) := fun j hj h1 => by
    rw [eM, o3 j (by omega), o2 j (by omega), st1_o hp h1 (by omega) (by omega)]
  refine ⟨?_, sim_bc S3 K3.2.1 hp⟩
  refine OpA.se hM S3 (JJ.mk K3 (hJ.t.cg (hz 0 (by decide) (by decide)) (hz 2 (by decide) (by decide)) (Or.inl (hz 4 (by decide) (by decide))) (hz 7 (by decide) (by decide)) fun k hk => ⟨hof k 0 hk (by decide), hof k 3 hk (by decide)⟩)) (F3.tr (F2.tr fun i hi => ?_))
  rw [st1_at hp, if_neg (by omega), if_neg (by omega), if_neg (by omega)]
/-! write and remove: what disconnected hosts hold of the page is stale from now on -/
theorem btC_bt {x : Int32} {h : Nat} (hh : h < 32) : btC x h = bt x h := by
  unfold btC
  cases hb : bt x h with
  | true =>
    rw [decide_eq_true_eq]
    refine b_ext fun j hj => ?_
    rw [bt_get hh hj, hb, Bool.and_true]
    exact (by revert j; decide +kernel : ∀ j, j < 32 → decide (j = 0) = bt (nI 1) j) j hj
  | false =>
    rw [decide_eq_false_iff_not]
    intro e
    have h1 := bt_get (s := x) hh (show 0 < 32 by decide)
    rw [e, hb, Bool.and_false] at h1
    exact absurd h1 (by decide)
theorem cpM_at {s : NV} {b p h : Nat} (hh : h < 6) : bt (cpM s b p) h = cpMb s b p h := by
  unfold cpM
  rw [cpML_bt 6 (Nat.le_refl 6) h (by omega), decide_eq_true hh, Bool.true_and]
theorem odS_at {f : SV} {p r j : Nat} : ∀ k, odS f p k r j = if r = 5 ∧ j < k ∧ tb (f 0 7) (nI j) = false then f 5 j ||| (f 4 j &&& bitP p) else if r = 4 ∧ j < k ∧ tb (f 0 7) (nI j) = false then f 4 j &&& (bitP p ^^^ (-1)) else f r j := by
  intro k
  induction k generalizing r j with
  | zero => show f r j = _; rw [if_neg (by omega), if_neg (by omega)]
  | succ k ih =>
    have h07 : odS f p k 0 7 = f 0 7 := by rw [ih, if_neg (by omega), if_neg (by omega)]
    have h4 : odS f p k 4 k = f 4 k := by rw [ih, if_neg (by omega), if_neg (by omega)]
    have h5 : odS f p k 5 k = f 5 k := by rw [ih, if_neg (by omega), if_neg (by omega)]
    rw [odS, h07]
    cases hc : tb (f 0 7) (nI k) with
    | true =>
      rw [if_pos rfl, ih]
      by_cases e : j = k
      · subst e
        rw [if_neg (by omega), if_neg (by omega), if_neg (fun z => by rw [hc] at z; exact Bool.noConfusion z.2.2), if_neg (fun z => by rw [hc] at z; exact Bool.noConfusion z.2.2)]
      · have e2 : (j < k + 1) ↔ j < k := by omega
        simp only [e2]
    | false =>
      rw [if_neg Bool.false_ne_true, h4, h5]
      by_cases e4 : r = 4 ∧ j = k
      · rw [put_e e4.1 e4.2, if_neg (by omega), if_pos ⟨e4.1, by omega, by rw [e4.2]; exact hc⟩, e4.2]
      · rw [put_o e4]
        by_cases e5 : r = 5 ∧ j = k
        · rw [put_e e5.1 e5.2, if_pos ⟨e5.1, by omega, by rw [e5.2]; exact hc⟩, e5.2]
        · rw [put_o e5, ih]
          by_cases e : j = k
          · rw [if_neg (by omega), if_neg (by omega), if_neg (by omega), if_neg (by omega)]
          · have e2 : (j < k + 1) ↔ j < k := by omega
            simp only [e2]
theorem lrM_self {s : NV} {b h p : Nat} : lrM s b h p (rpM s b h p) = s := upd_self rfl
theorem wrL_at {s : NV} {p : Nat} {c : Int32} (hp : p < 30) : ∀ k, k ≤ 6 → wrL s p c k 1 = s 1 ∧ (∀ i, wrL s p c k i = if (∃ h, h < k ∧ i = 0 + 92 + 30 * h + p ∧ btC c h = true) then s 1 else s i) := by
  intro k
  induction k with
  | zero => intro _; exact ⟨rfl, fun i => by rw [if_neg (fun ⟨h, hh, _⟩ => absurd hh (Nat.not_lt_zero h))]; rfl⟩
  | succ k ih =>
    intro hk
    obtain ⟨i1, i2⟩ := ih (by omega)
    have key : ∀ i, wrL s p c (k + 1) i = if (∃ h, h < k + 1 ∧ i = 0 + 92 + 30 * h + p ∧ btC c h = true) then s 1 else s i := fun i => by
      rw [wrL]
      by_cases e : i = 0 + 92 + 30 * k + p
      · cases hb : btC c k with
        | true =>
          rw [if_pos rfl, i1]
          unfold lrM
          rw [upd_e e, if_pos ⟨k, by omega, e, hb⟩]
        | false =>
          rw [if_neg Bool.false_ne_true, lrM_self, i2, if_neg, if_neg]
          · rintro ⟨h, h1, h2, h3⟩
            have : h = k := by omega
            rw [this, hb] at h3; cases h3
          · rintro ⟨h, h1, h2, h3⟩
            omega
      · have e1 : (if (∃ h, h < k + 1 ∧ i = 0 + 92 + 30 * h + p ∧ btC c h = true) then s 1 else s i) = if (∃ h, h < k ∧ i = 0 + 92 + 30 * h + p ∧ btC c h = true) then s 1 else s i := by
          by_cases q : ∃ h, h < k ∧ i = 0 + 92 + 30 * h + p ∧ btC c h = true
          · obtain ⟨h, h1, h2⟩ := q
            rw [if_pos ⟨h, by omega, h2⟩, if_pos ⟨h, h1, h2⟩]
          · rw [if_neg q, if_neg]
            rintro ⟨h, h1, h2, h3⟩
            by_cases q2 : h < k
            · exact q ⟨h, q2, h2, h3⟩
            · have : h = k := by omega
              rw [this] at h2; exact e h2
        rw [e1]
        cases hb : btC c k with
        | true =>
          rw [if_pos rfl]
          unfold lrM
          rw [upd_n e]; exact i2 i
        | false => rw [if_neg Bool.false_ne_true, lrM_self]; exact i2 i
    refine ⟨?_, key⟩
    rw [key, if_neg]
    rintro ⟨h, h1, h2, h3⟩
    omega
theorem rvL_at {s : NV} {p : Nat} {c : Int32} (hp : p < 30) : ∀ k, k ≤ 6 → ∀ i, rvL s p c k i = if (∃ h, h < k ∧ i = 0 + 92 + 30 * h + p ∧ btC c h = true) then nI 0 else s i := by
  intro k
  induction k with
  | zero => intro _ i; rw [if_neg (fun ⟨h, hh, _⟩ => absurd hh (Nat.not_lt_zero h))]; rfl
  | succ k ih =>
    intro hk i
    have i2 := ih (by omega)
    rw [rvL]
    by_cases e : i = 0 + 92 + 30 * k + p
    · cases hb : btC c k with
      | true =>
        rw [if_pos rfl]
        unfold lrM
        rw [upd_e e, if_pos ⟨k, by omega, e, hb⟩]
      | false =>
        rw [if_neg Bool.false_ne_true, lrM_self, i2, if_neg, if_neg]
        · rintro ⟨h, h1, h2, h3⟩
          have : h = k := by omega
          rw [this, hb] at h3; cases h3
        · rintro ⟨h, h1, h2, h3⟩
          omega
    · have e1 : (if (∃ h, h < k + 1 ∧ i = 0 + 92 + 30 * h + p ∧ btC c h = true) then nI 0 else s i) = if (∃ h, h < k ∧ i = 0 + 92 + 30 * h + p ∧ btC c h = true) then nI 0 else s i := by
        by_cases q : ∃ h, h < k ∧ i = 0 + 92 + 30 * h + p ∧ btC c h = true
        · obtain ⟨h, h1, h2⟩ := q
          rw [if_pos ⟨h, by omega, h2⟩, if_pos ⟨h, h1, h2⟩]
        · rw [if_neg q, if_neg]
          rintro ⟨h, h1, h2, h3⟩
          by_cases q2 : h < k
          · exact q ⟨h, q2, h2, h3⟩
          · have : h = k := by omega
            rw [this] at h2; exact e h2
      rw [e1]
      cases hb : btC c k with
      | true =>
        rw [if_pos rfl]
        unfold lrM
        rw [upd_n e]; exact i2 i
      | false => rw [if_neg Bool.false_ne_true, lrM_self]; exact i2 i
/-- one page's replicas are laid anew -/
theorem pg_rp {s s' : NV} {p K : Nat} {c x : Int32} (hp : p < 30) (hK : K = 6) (h : ∀ i, s' i = if (∃ h, h < K ∧ i = 0 + 92 + 30 * h + p ∧ btC c h = true) then x else s i) : (∀ k q, k < 6 → q < 30 → rpM s' 0 k q = if q = p ∧ btC c k = true then x else rpM s 0 k q) ∧ (∀ j, j < 92 ∨ 272 ≤ j → s' j = s j) := by
  refine ⟨fun k q hk hq => ?_, fun j hj => ?_⟩
  · unfold rpM
    rw [h]
    by_cases e : q = p ∧ btC c k = true
    · rw [if_pos e, if_pos ⟨k, by omega, by omega, e.2⟩]
    · rw [if_neg e, if_neg]
      rintro ⟨h9, h1, h2, h3⟩
      have : h9 = k := by omega
      subst this
      exact e ⟨by omega, h3⟩
  · rw [h, if_neg]
    rintro ⟨h9, h1, h2, h3⟩
    omega
