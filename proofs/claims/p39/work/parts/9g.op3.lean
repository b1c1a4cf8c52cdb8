/-! reconnect -/
/-- how many connected hosts ahead of k hold the page -/
def twN (f : SV) (p k : Nat) : Nat := fb_ct (fun h => tb (f 0 7) (nI h) && bt (f 4 h) p) k
theorem p2_bt {f : SV} {p : Nat} (hp : p < 32) : ∀ k, k ≤ 6 → bt (p2S f k).1 p = decide (1 ≤ twN f p k) ∧ bt (p2S f k).2 p = decide (2 ≤ twN f p k) := by
  intro k
  induction k with
  | zero => intro _; exact ⟨b_0 p, b_0 p⟩
  | succ k ih =>
    intro hk
    obtain ⟨i1, i2⟩ := ih (by omega)
    have et : twN f p (k + 1) = twN f p k + (if (tb (f 0 7) (nI k) && bt (f 4 k) p) = true then 1 else 0) := rfl
    rw [p2S, et]
    cases hc : tb (f 0 7) (nI k) with
    | false => rw [if_neg Bool.false_ne_true, Bool.false_and, if_neg Bool.false_ne_true]; exact ⟨i1, i2⟩
    | true =>
      rw [if_pos rfl, Bool.true_and]
      show bt ((p2S f k).1 ||| f 4 k) p = _ ∧ bt ((p2S f k).2 ||| ((p2S f k).1 &&& f 4 k)) p = _
      rw [b_or, b_or, b_and, i1, i2]
      cases hb : bt (f 4 k) p with
      | false => rw [if_neg Bool.false_ne_true, Bool.or_false, Bool.and_false, Bool.or_false]; exact ⟨rfl, rfl⟩
      | true =>
        rw [if_pos rfl, Bool.or_true, Bool.and_true]
        refine ⟨(decide_eq_true (by omega)).symm, ?_⟩
        by_cases q : 1 ≤ twN f p k
        · rw [decide_eq_true q, Bool.or_true, decide_eq_true (by omega)]
        · rw [decide_eq_false q, Bool.or_false, decide_eq_false (by omega), decide_eq_false (by omega)]
theorem tw_cp {f : SV} {s : NV} {p : Nat} (hS : Sim f s 0) (hC : BlkC s 0) (hp : p < 30) : twN f p 6 = fb_ct (bt (cpM s 0 p)) 6 := fb_ct_cong fun k hk => by
  have hc := hS.c k (by omega)
  rw [decide_eq_true hk, Bool.true_and] at hc
  rw [hc, cpM_at hk, ← tb_bt (by omega), (hS.q k hk p (by omega)).1, decide_eq_true hp, Bool.true_and]
  unfold cpMb
  by_cases e : ofM s 0 k 1 = nI 1
  · rw [decide_eq_true e, Bool.true_and, Bool.true_and, fs_c hC hk hp e]
  · rw [decide_eq_false e, Bool.false_and, Bool.false_and]
theorem mask_bt : ∀ h, h < 6 → ∀ i, i < 32 → bt (nI 63 - (nI 1 <<< (nI h &&& 31))) i = (decide (i < 6) && decide (i ≠ h)) := by decide +kernel
theorem rc_cp {s : NV} {h p : Nat} (hh : h < 6) (hp : p < 30) (hd : ¬ ofM s 0 h 1 = nI 1) : cpM (rc1 s h) 0 p &&& (nI 63 - (nI 1 <<< (nI h &&& 31))) = cpM s 0 p := by
  refine b_ext fun i hi => ?_
  rw [b_and, mask_bt h hh i hi]
  by_cases h6 : i < 6
  · rw [cpM_at h6, cpM_at h6, decide_eq_true h6, Bool.true_and]
    unfold cpMb rc1
    rw [ofM_la (by decide) (by decide), rpM_la hh (by decide)]
    by_cases e : i = h
    · subst e
      rw [show decide (i ≠ i) = false from dnn rfl, Bool.and_false, decide_eq_false hd, Bool.false_and]
    · rw [decide_eq_true e, Bool.and_true, if_neg (fun z => e z.1)]
  · rw [decide_eq_false h6, Bool.false_and, Bool.and_false]
    exact (cpM_hi i hi (by omega)).symm
theorem su_bt {f : SV} {s : NV} {h p : Nat} (hS : Sim f s 0) (hC : BlkC s 0) (hh : h < 6) (hp : p < 32) (hd : ¬ ofM s 0 h 1 = nI 1) : bt (suS f h) p = (decide (p < 30) && goM (rc1 s h) h p) := by
  unfold suS
  rw [b_or, b_and, (p2_bt hp 6 (Nat.le_refl 6)).2, ← tb_bt (s := f 5 h) hp, ← tb_bt (s := f 4 h) hp, (hS.q h hh p hp).1, (hS.q h hh p hp).2]
  by_cases h30 : p < 30
  · rw [decide_eq_true h30, Bool.true_and, Bool.true_and, Bool.true_and, tw_cp hS hC h30]
    unfold goM
    rw [rc_cp hh h30 hd]
    have e1 : rpM (rc1 s h) 0 h p = rpM s 0 h p := rpM_la hh (by decide)
    have e2 : fsM (rc1 s h) 0 h p = fsM s 0 h p := fsM_la hh (by decide)
    rw [e1, e2]
    have eo : onM (cpM s 0 p) = nI (fb_ct (bt (cpM s 0 p)) 6) := onL_ct 6 (Nat.le_refl 6)
    have hle := fb_ct_le (bt (cpM s 0 p)) 6
    rw [eo]
    generalize fb_ct (bt (cpM s 0 p)) 6 = N at hle ⊢
    by_cases hr : rpM s 0 h p ≤ 0
    · rw [if_pos hr, dnn hr, Bool.and_false, Bool.false_or]
      cases hf : fsM s 0 h p with
      | true => exact absurd hr (fsM_pos hf)
      | false => rfl
    · rw [if_neg hr, decide_eq_true hr, Bool.and_true]
      cases hf : fsM s 0 h p with
      | true =>
        rw [if_pos rfl, Bool.true_and]
        by_cases q : 2 ≤ N
        · rw [if_neg (ni_nlt q (by omega)), decide_eq_true q]; rfl
        · rw [if_pos (ni_lt (by omega) (by decide)), decide_eq_false q]; rfl
      | false => rw [if_neg Bool.false_ne_true]; rfl
  · rw [decide_eq_false h30]; simp only [Bool.false_and, Bool.or_self]
/-- the model's loop over the pages -/
theorem rcL_at {s : NV} {h : Nat} (hh : h < 6) : ∀ k, k ≤ 30 → (∀ i, (rcL s h k).1 i = if (∃ p, p < k ∧ i = 0 + 92 + 30 * h + p ∧ goM s h p = true) then nI 0 else s i) ∧ (rcL s h k).2 = fb_ct (goM s h) k := by
  intro k
  induction k with
  | zero => intro _; exact ⟨fun i => by rw [if_neg (fun ⟨p, hp, _⟩ => absurd hp (Nat.not_lt_zero p))]; rfl, rfl⟩
  | succ k ih =>
    intro hk
    obtain ⟨i1, i2⟩ := ih (by omega)
    have hsame : ∀ i, (∀ p, p < k → i ≠ 0 + 92 + 30 * h + p) → (rcL s h k).1 i = s i := fun i hi => by
      rw [i1, if_neg]
      rintro ⟨p, h1, h2, -⟩
      exact hi p h1 h2
    have hrp : ∀ j, j < 6 → rpM (rcL s h k).1 0 j k = rpM s 0 j k := fun j hj => by
      unfold rpM
      exact hsame _ (fun p hp => by omega)
    have hgo : goM (rcL s h k).1 h k = goM s h k := by
      unfold goM
      have ecp : cpM (rcL s h k).1 0 k = cpM s 0 k := cp_cong fun j hj => by
        unfold cpMb
        rw [hrp j hj]
        unfold ofM
        rw [hsame _ (fun p hp => by omega)]
      have efs : fsM (rcL s h k).1 0 h k = fsM s 0 h k := by
        unfold fsM thM
        rw [hrp h hh, hsame _ (fun p hp => by omega)]
      rw [hrp h hh, ecp, efs]
    refine ⟨fun i => ?_, ?_⟩
    · rw [rcL]
      show lrM (rcL s h k).1 0 h k _ i = _
      rw [hgo, hrp h hh]
      by_cases e : i = 0 + 92 + 30 * h + k
      · unfold lrM
        rw [upd_e e]
        cases hg : goM s h k with
        | true => rw [if_pos rfl, if_pos ⟨k, by omega, e, hg⟩]
        | false =>
          rw [if_neg Bool.false_ne_true, if_neg]
          · rw [e]; rfl
          · rintro ⟨p, h1, h2, h3⟩
            have : p = k := by omega
            rw [this, hg] at h3; cases h3
      · unfold lrM
        rw [upd_n e, i1]
        by_cases q : ∃ p, p < k ∧ i = 0 + 92 + 30 * h + p ∧ goM s h p = true
        · obtain ⟨p, h1, h2⟩ := q
          rw [if_pos ⟨p, h1, h2⟩, if_pos ⟨p, by omega, h2⟩]
        · rw [if_neg q, if_neg]
          rintro ⟨p, h1, h2, h3⟩
          by_cases q2 : p < k
          · exact q ⟨p, q2, h2, h3⟩
          · have : p = k := by omega
            rw [this] at h2; exact e h2
    · rw [rcL, fb_ct_succ]
      show (rcL s h k).2 + _ = _
      rw [hgo, i2]
theorem rc_rp {s s' : NV} {h K : Nat} (hh : h < 6) (hK : K = 30) (hat : ∀ i, s' i = if (∃ p, p < K ∧ i = 0 + 92 + 30 * h + p ∧ goM s h p = true) then nI 0 else s i) : (∀ k q, k < 6 → q < 30 → rpM s' 0 k q = if k = h ∧ goM s h q = true then nI 0 else rpM s 0 k q) ∧ (∀ j, j < 92 ∨ 272 ≤ j → s' j = s j) := by
  refine ⟨fun k q hk hq => ?_, fun j hj => ?_⟩
  · unfold rpM
    rw [hat]
    by_cases e : k = h ∧ goM s h q = true
    · rw [if_pos e, if_pos ⟨q, by omega, by omega, e.2⟩]
    · rw [if_neg e, if_neg]
      rintro ⟨p, h1, h2, h3⟩
      have ek : k = h := by omega
      have eq : p = q := by omega
      exact e ⟨ek, by rw [← eq]; exact h3⟩
  · rw [hat, if_neg]
    rintro ⟨p, h1, h2, h3⟩
    omega
/-- what remains on the host is fresh -/
theorem go_n {s : NV} {h p : Nat} (hg : goM s h p = false) (hr : ¬ rpM s 0 h p ≤ 0) : fsM s 0 h p = true := by
  unfold goM at hg
  rw [if_neg hr] at hg
  cases hf : fsM s 0 h p with
  | true => rfl
  | false => rw [hf, if_neg Bool.false_ne_true] at hg; cases hg
theorem rec_sim {f g : SV} {s1 s2 : NV} {h : Nat} {y : Int32} (hh : h < 6) (hG : Sim g s1 0) (hy : ∀ p, p < 32 → tb y (nI p) = (decide (p < 30) && goM s1 h p))
    (hrp : ∀ k q, k < 6 → q < 30 → rpM s2 0 k q = if k = h ∧ goM s1 h q = true then nI 0 else rpM s1 0 k q) (ho : ∀ j, j < 92 ∨ 272 ≤ j → s2 j = s1 j) (hfs : ∀ k q, k < 6 → q < 30 → fsM s2 0 k q = if k = h ∧ goM s1 h q = true then false else fsM s1 0 k q) :
    Sim (put (put g 4 h (g 4 h &&& (y ^^^ (-1)))) 5 h (nI 0)) s2 0 := by
  refine Sim.mk ?_ (SH.cg hG.h (fun k _ => ⟨?_, ?_, ?_⟩) fun j _ a => ho _ (by omega)) (SC.cg hG.c ?_ fun k hk => ?_) (SP.cg hG.p ?_ (fun q _ => ?_) fun j _ a => ho _ (by omega)) (fun k hk q hq => ?_)
  · have a := hG.a
    unfold SA at a ⊢
    rw [ho _ (by omega), ho _ (by omega), ho _ (by omega), ho _ (by omega), ho _ (by omega), ho _ (by omega), ho _ (by omega)]
    rw [put_o (by omega), put_o (by omega), put_o (by omega), put_o (by omega), put_o (by omega), put_o (by omega), put_o (by omega)]
    rw [put_o (by omega), put_o (by omega), put_o (by omega), put_o (by omega), put_o (by omega), put_o (by omega), put_o (by omega)]
    exact a
  · rw [put_o (by omega), put_o (by omega)]
  · rw [put_o (by omega), put_o (by omega)]
  · rw [put_o (by omega), put_o (by omega)]
  · rw [put_o (by omega), put_o (by omega)]
  · unfold ofM; exact ho _ (by omega)
  · rw [put_o (by omega), put_o (by omega)]
  · rw [put_o (by omega), put_o (by omega)]
  · have hq0 := hG.q k hk q hq
    by_cases e : k = h
    · subst e
      rw [put_o (show ¬ (4 = 5 ∧ k = k) by omega), put_e rfl rfl, put_e rfl rfl, tb_0 hq, tb_bt hq, b_and, b_not hq, ← tb_bt hq, ← tb_bt hq, hy q hq, hq0.1]
      by_cases h30 : q < 30
      · rw [hfs k q hk h30, hrp k q hk h30, decide_eq_true h30, Bool.true_and, Bool.true_and, Bool.true_and, Bool.true_and]
        cases hg : goM s1 k q with
        | true =>
          rw [if_pos ⟨rfl, rfl⟩, if_pos ⟨rfl, rfl⟩, show decide (¬ nI 0 ≤ 0) = false from by decide]
          exact ⟨Bool.and_false _, rfl⟩
        | false =>
          rw [if_neg (fun z => Bool.noConfusion z.2), if_neg (fun z => Bool.noConfusion z.2)]
          refine ⟨Bool.and_true _, ?_⟩
          by_cases hr : rpM s1 0 k q ≤ 0
          · rw [dnn hr, Bool.and_false]
          · rw [go_n hg hr]; rfl
      · rw [decide_eq_false h30]; simp only [Bool.false_and, and_self]
    · rw [put_o (show ¬ (4 = 5 ∧ k = h) by omega), put_o (fun z => e z.2), put_o (fun z => e z.2), put_o (show ¬ (5 = 4 ∧ k = h) by omega)]
      by_cases h30 : q < 30
      · rw [hfs k q hk h30, hrp k q hk h30, if_neg (fun z => e z.1), if_neg (fun z => e z.1)]; exact hq0
      · rw [decide_eq_false h30, Bool.false_and, Bool.false_and] at hq0 ⊢; exact hq0
theorem op_recon {f : SV} {s : NV} {B M h : Nat} (hM : M ≤ 1000600) (hS : Sim f s 0) (hJ : JJ s 0 B M) (hh : h < 6) (hd : ¬ ofM s 0 h 1 = nI 1) :
    OpA (atG f h) (seM (rcL (rc1 s h) h 30).1 0) s B M ∧ bcI (suS f h) = nI (rcL (rc1 s h) h 30).2 := by
  obtain ⟨⟨c, c1, c2, c3, c4⟩, hC, j3, j4⟩ := hJ.c
  have hG := sim_cn1 hS hh
  have hsu := fun p hp => su_bt (p := p) hS hC hh hp hd
  obtain ⟨w1, w2⟩ := rcL_at (s := rc1 s h) hh 30 (Nat.le_refl 30)
  obtain ⟨hrp, ho⟩ := rc_rp hh rfl w1
  generalize (rcL (rc1 s h) h 30).1 = s2 at hrp ho ⊢
  have hst : ∀ q, q < 30 → s2 (0 + 32 + q) = rc1 s h (0 + 32 + q) := fun q hq => ho _ (by omega)
  have hth : ∀ q, q < 30 → thM s2 0 q = thM (rc1 s h) 0 q := fun q hq => by unfold thM; rw [hst q hq]
  have hfs : ∀ k q, k < 6 → q < 30 → fsM s2 0 k q = if k = h ∧ goM (rc1 s h) h q = true then false else fsM (rc1 s h) 0 k q := fun k q hk hq => by
    unfold fsM
    rw [hth q hq, hrp k q hk hq, hst q hq]
    by_cases e : k = h ∧ goM (rc1 s h) h q = true
    · rw [if_pos e, if_pos e]
      cases ht : thM (rc1 s h) 0 q with
      | false => rfl
      | true => rw [decide_eq_false (th_no0 ht)]; rfl
    · rw [if_neg e, if_neg e]
  have hof : ∀ k w, k < 6 → w < 4 → ofM s2 0 k w = if k = h ∧ w = 1 then nI 1 else ofM s 0 k w := fun k w hk hw => by
    rw [← ofM_la (s := s) (b := 0) (h := h) (w := 1) (v := nI 1) (by decide) hw]
    unfold ofM
    exact ho _ (by omega)
  have hz : ∀ j, j < 8 → s2 (0 + j) = s (0 + j) := fun j hj => by
    rw [ho _ (by omega)]
    exact la_o hh (by decide) (Or.inl hj)
  have rp1 : ∀ k q, rpM (rc1 s h) 0 k q = rpM s 0 k q := fun k q => rpM_la hh (by decide)
  have fs1 : ∀ k q, fsM (rc1 s h) 0 k q = fsM s 0 k q := fun k q => fsM_la hh (by decide)
  have S2 : Sim (put (put (put f 0 7 (f 0 7 ||| bitP h)) 4 h (put f 0 7 (f 0 7 ||| bitP h) 4 h &&& (suS f h ^^^ (-1)))) 5 h (nI 0)) s2 0 := rec_sim (f := f) hh hG (fun p hp => by rw [tb_bt hp]; exact hsu p hp) hrp ho hfs
  have e4 : put f 0 7 (f 0 7 ||| bitP h) 4 h = f 4 h := put_o (by omega)
  rw [e4] at S2
  have K2 : JC s2 0 B := by
    refine ⟨⟨c, c1, (hz 1 (by decide)).trans c2, fun q hq => ?_, fun k hk q hq => ?_⟩, fun k hk q hq a1 a2 => ?_, ?_, fun k hk => ⟨?_, ?_, ?_⟩⟩
    · have e9 : rc1 s h (0 + 32 + q) = s (0 + 32 + q) := upd_n (by omega)
      rw [hst q hq, e9]; exact c3 q hq
    · rw [hrp k q hk hq, rp1]
      split
      · exact ⟨0, Nat.zero_le _, rfl⟩
      · exact c4 k hk q hq
    · rw [hrp k q hk hq] at a2
      rw [hfs k q hk hq]
      by_cases e : k = h ∧ goM (rc1 s h) h q = true
      · rw [if_pos e] at a2; exact absurd (by decide) a2
      · rw [if_neg e] at a2
        rw [if_neg e]
        by_cases ek : k = h
        · subst ek
          refine go_n ?_ a2
          cases hg : goM (rc1 s k) k q with
          | false => rfl
          | true => exact absurd ⟨rfl, hg⟩ e
        · rw [hof k 1 hk (by decide), if_neg (fun z => ek z.1)] at a1
          rw [rp1] at a2
          rw [fs1]; exact hC k hk q hq a1 a2
    · unfold J3
      rw [hz 4 (by decide), hz 5 (by decide), hz 6 (by decide)]
      intro hn
      obtain ⟨p, S, U, g1, g2, g3, g4, g5, g6, g7, g8, g9, g10, g11⟩ := j3 hn
      have e9 : thM (rc1 s h) 0 p = thM s 0 p := thM_la hh (by decide)
      have nS : S ≠ h := fun e => hd (by rw [← e]; exact g9)
      have nU : U ≠ h := fun e => hd (by rw [← e]; exact g10)
      exact ⟨p, S, U, g1, g2, g3, g4, g5, g6, g7, by rw [hth p g1, e9]; exact g8, by rw [hof S 1 g2 (by decide), if_neg (fun z => nS z.1)]; exact g9, by rw [hof U 1 g3 (by decide), if_neg (fun z => nU z.1)]; exact g10, by rw [hof U 0 g3 (by decide), if_neg (fun z => nU z.1)]; exact g11⟩
    · rw [hof k 1 hk (by decide)]
      by_cases ek : k = h
      · rw [if_pos ⟨ek, rfl⟩]; exact Or.inr rfl
      · rw [if_neg (fun z => ek z.1)]; exact (j4 k hk).1
    · rw [hof k 0 hk (by decide), if_neg (by omega)]
      intro e q hq
      rw [hrp k q hk hq, rp1]
      split
      · decide
      · exact (j4 k hk).2.1 e q hq
    · rw [hof k 0 hk (by decide), if_neg (by omega), hof k 2 hk (by decide), if_neg (by omega)]
      intro e
      obtain ⟨x, x1, x2, x3⟩ := (j4 k hk).2.2 e
      refine ⟨x, x1, x2, Nat.le_trans ?_ x3⟩
      have hdd : hdM s2 0 k ≤ hdM s 0 k := by
        unfold hdM
        rw [hdL_ct, hdL_ct]
        refine fb_ct_sub fun q hq hd => ?_
        have hd' := of_decide_eq_true hd
        rw [hrp k q hk hq, rp1] at hd'
        by_cases z : k = h ∧ goM (rc1 s h) h q = true
        · rw [if_pos z] at hd'; exact absurd (by decide) hd'
        · rw [if_neg z] at hd'; exact decide_eq_true hd'
      unfold usM
      rw [hz 4 (by decide), hz 6 (by decide)]
      exact Nat.add_le_add hdd (Nat.le_refl _)
  refine ⟨?_, ?_⟩
  · unfold atG
    refine OpA.se hM S2 (JJ.mk K2 (hJ.t.cg (hz 0 (by decide)) (hz 2 (by decide)) (Or.inl (hz 4 (by decide))) (hz 7 (by decide)) fun k hk => ⟨by rw [hof k 0 hk (by decide), if_neg (by omega)], by rw [hof k 3 hk (by decide), if_neg (by omega)]⟩)) (fun i hi => ?_)
    rw [ho i (by omega)]
    exact upd_n (by omega)
  · have e1 : fb_ct (bt (suS f h)) 32 = fb_ct (fun p => decide (p < 30) && goM (rc1 s h) h p) 32 := fb_ct_cong fun p hp => hsu p hp
    have e2 : fb_ct (fun k => decide (30 + k < 30) && goM (rc1 s h) h (30 + k)) 2 = 0 := fb_ct_zero.mpr fun k hk => by
      rw [decide_eq_false (by omega), Bool.false_and]
    have e3 : fb_ct (fun p => decide (p < 30) && goM (rc1 s h) h p) 30 = fb_ct (goM (rc1 s h) h) 30 := fb_ct_cong fun p hp => by rw [decide_eq_true hp, Bool.true_and]
    rw [show (32 : Nat) = 30 + 2 from rfl, fb_ct_split (fun p => decide (p < 30) && goM (rc1 s h) h p), e2, Nat.add_zero, e3] at e1
    rw [w2, bcI_ct, show (32 : Nat) = 30 + 2 from rfl, e1, Nat.add_zero]
