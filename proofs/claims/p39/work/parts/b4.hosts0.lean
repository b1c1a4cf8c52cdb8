/-! what a good State answers of its hosts -/
def hdN (f : SV) (h : Nat) : Nat → Nat
  | 0 => 0
  | k + 1 => hdN f h k + (if rpV f h k = nI 0 then 0 else 1)
theorem get_bi {x : Int32} {i : Nat} (hi : i < 32) : (x >>> (nI i &&& 31)) &&& nI 1 = bi (tb x (nI i)) := by
  refine b_ext fun j hj => ?_
  rw [bt_get hi hj, tb_bt hi]
  cases bt x i with
  | false => rw [Bool.and_false]; exact (b_0 j).symm
  | true =>
    rw [Bool.and_true]
    show decide (j = 0) = bt (nI 1) j
    have : ∀ j, j < 32 → decide (j = 0) = bt (nI 1) j := by decide +kernel
    exact this j hj
section
variable {f : SV} {s : NV} {B M h p k : Nat}
theorem rp_cases : rpV f h p = nI 0 ∨ rpV f h p = nI 1 ∨ rpV f h p = nI 2 := by
  unfold rpV
  (repeat' split) <;> simp
theorem rp_1 : rpV f h p = nI 1 ↔ tb (f 4 h) (nI p) = true := by
  unfold rpV
  cases tb (f 4 h) (nI p) with
  | true => simp
  | false =>
    rw [if_neg (by decide)]
    split <;> exact ⟨fun e => absurd e (by decide), fun e => by cases e⟩
theorem hdN_0 (e : rpV f h k = nI 0) : nI (hdN f h k) + nI 0 = nI (hdN f h (k + 1)) := by rw [hdN, if_pos e, nI_add]
theorem hdN_1 (e : rpV f h k = nI 1) : nI (hdN f h k) + nI 1 = nI (hdN f h (k + 1)) := by rw [hdN, if_neg (by rw [e]; decide), nI_add]
theorem hdN_2 (e : rpV f h k = nI 2) : nI (hdN f h k) + nI 1 = nI (hdN f h (k + 1)) := by rw [hdN, if_neg (by rw [e]; decide), nI_add]
theorem hdN_le : ∀ k, hdN f h k ≤ k := by
  intro k
  induction k with
  | zero => exact Nat.le_refl 0
  | succ k ih => rw [hdN]; split <;> omega
theorem cpb_1 (hp : p < 30) (hh : h < 6) (ho : tb (f 0 7) (nI h) = true) (e : rpV f h p = nI 1) : (cpS f p >>> (nI h &&& 31)) &&& nI 1 = nI 1 := by
  rw [get_bi (by omega), cp_tb (by omega) hh, rp_1.mp e, ho]; rfl
theorem cpb_n (hp : p < 30) (hh : h < 6) (e : ¬ rpV f h p = nI 1) : (cpS f p >>> (nI h &&& 31)) &&& nI 1 = nI 0 := by
  have h4 : tb (f 4 h) (nI p) = false := by
    cases q : tb (f 4 h) (nI p) with
    | false => rfl
    | true => exact absurd (rp_1.mpr q) e
  rw [get_bi (by omega), cp_tb (by omega) hh, h4]; rfl
theorem cpb_o (hp : p < 30) (hh : h < 6) (ho : tb (f 0 7) (nI h) = false) : (cpS f p >>> (nI h &&& 31)) &&& nI 1 = nI 0 := by
  rw [get_bi (by omega), cp_tb (by omega) hh, ho, Bool.and_false]; rfl
/-- connected hosts hold nothing stale -/
theorem good_ns (hf : GoodS f B M) (hh : h < 6) (hp : p < 30) (ho : tb (f 0 7) (nI h) = true) : ¬ rpV f h p = nI 2 := by
  obtain ⟨⟨s, hS, hJ, h6⟩, hX⟩ := hf
  have hc : ofM s 0 h 1 = nI 1 := by
    have := hS.2.2.2.2.1 h (by omega)
    rw [ho] at this
    cases q : decide (ofM s 0 h 1 = nI 1) with
    | true => exact of_decide_eq_true q
    | false => rw [q, Bool.and_false] at this; cases this
  have h5 := hS.ns hJ.2.1 hh hp hc
  unfold rpV
  rw [h5]
  split
  · decide
  · rw [if_neg (by decide)]; decide
theorem conn_of (hS : Sim f s 0) (hh : h < 6) : (tb (f 0 7) (nI h) = true ↔ ofM s 0 h 1 = nI 1) := by
  rw [hS.2.2.2.2.1 h (by omega), decide_eq_true hh, Bool.true_and]
  exact decide_eq_true_iff
theorem rp_m (hS : Sim f s 0) (hh : h < 6) (hp : p < 30) : rpV f h p = nI 0 ↔ rpM s 0 h p ≤ 0 := by
  obtain ⟨q4, q5⟩ := hS.2.2.2.2.2.2 h hh p (by omega)
  unfold rpV
  rw [q4, q5, decide_eq_true hp, Bool.true_and, Bool.true_and]
  cases hfs : fsM s 0 h p with
  | true =>
    rw [if_pos rfl]
    exact ⟨fun e => absurd e (by decide), fun e => absurd e (fsM_pos hfs)⟩
  | false =>
    rw [if_neg (by decide), Bool.not_false, Bool.true_and]
    by_cases hr : rpM s 0 h p ≤ 0
    · rw [decide_eq_false (fun z => z hr), if_neg (by decide)]
      exact ⟨fun _ => hr, fun _ => rfl⟩
    · rw [decide_eq_true hr, if_pos rfl]
      exact ⟨fun e => absurd e (by decide), fun e => absurd e hr⟩
theorem hdN_m (hS : Sim f s 0) (hh : h < 6) : ∀ k, k ≤ 30 → hdN f h k = hdL s 0 h k := by
  intro k
  induction k with
  | zero => intro _; rfl
  | succ k ih =>
    intro hk
    rw [hdN, hdL, ih (by omega)]
    by_cases e : rpV f h k = nI 0
    · rw [if_pos e, if_pos ((rp_m hS hh (by omega)).mp e)]
    · rw [if_neg e, if_neg (fun z => e ((rp_m hS hh (by omega)).mpr z))]
theorem good_used (hf : GoodS f B M) (hh : h < 6) : usS f h = nI (hdN f h 30) + (if f 0 11 = -1 then nI 0 else if f 0 13 = nI h then nI 1 else nI 0) := by
  obtain ⟨⟨s, hS, hJ, h6⟩, hX⟩ := hf
  rw [sim_us hS hh, hdN_m hS hh 30 (Nat.le_refl 30)]
  unfold usM hdM
  have e4 : f 0 11 = s (0 + 4) := hS.1.2.2.2
  rw [e4]
  by_cases q : s (0 + 4) = -1
  · rw [if_pos q, if_pos q, nI_add]
  · rw [if_neg q, if_neg q, (hS.2.2.1 q).2.1]
    split <;> rw [nI_add]
theorem good_held (hf : GoodS f B M) (hh : h < 6) : hdN f h 30 ≤ 20 := by
  obtain ⟨⟨s, hS, hJ, h6⟩, hX⟩ := hf
  have := hX.1 h hh
  rw [ctH_m hS hh] at this
  rw [hdN_m hS hh 30 (Nat.le_refl 30)]
  exact this
theorem good_away (hf : GoodS f B M) (hh : h < 6) (hm : f 1 h = 0) : hdN f h 30 = 0 := by
  obtain ⟨⟨s, hS, hJ, h6⟩, hX⟩ := hf
  rw [hdN_m hS hh 30 (Nat.le_refl 30)]
  exact hd_0 ((hJ.2.2.2.1 h hh).2.1 ((hS.2.2.2.1 h hh).1.symm.trans hm))
theorem good_rec (hf : GoodS f B M) (hh : h < 6) (hm : f 1 h = nI 2) (ho : tb (f 0 7) (nI h) = true) : 0 < hdN f h 30 := by
  obtain ⟨⟨s, hS, hJ, h6⟩, hX⟩ := hf
  rw [hdN_m hS hh 30 (Nat.le_refl 30)]
  refine Nat.pos_of_ne_zero fun e => h6.1 h hh ⟨(hS.2.2.2.1 h hh).1.symm.trans hm, (conn_of hS hh).mp ho, e⟩
theorem free_0 (hn : ¬ (f 1 h = nI 1 ∧ tb (f 0 7) (nI h) = true)) : rmS f h = nI 0 := by
  unfold rmS opS
  rw [if_neg]
  simp only [Bool.and_eq_true, decide_eq_true_eq]
  exact hn
theorem good_free (hf : GoodS f B M) (hh : h < 6) : ¬ rmS f h < 0 := by
  obtain ⟨c, c1, c2⟩ := good_rm hf hh
  rw [c2]
  exact nI_pos (by omega)
theorem dl_none (hm : ¬ f 1 h = nI 2) : dlV f h = -1 := if_neg hm
theorem good_dl (hf : GoodS f B M) (hh : h < 6) (hm : f 1 h = nI 2) : ∃ d, 1 ≤ d ∧ d ≤ 600 ∧ dlV f h = nI d := by
  obtain ⟨⟨s, hS, hJ, h6⟩, hX⟩ := hf
  obtain ⟨t, l, t1, t2, l1, l2, l3, t6, t7⟩ := hJ.t
  obtain ⟨d, d1, d2, d3⟩ := t6 h hh ((hS.2.2.2.1 h hh).1.symm.trans hm)
  refine ⟨d - t, by omega, by omega, ?_⟩
  unfold dlV
  rw [if_pos hm, (hS.2.2.2.1 h hh).2.2, d3, hS.1.1, t2, ni_sub (by omega)]
/-- a transfer -/
theorem good_tr (hf : GoodS f B M) (hn : ¬ f 0 11 = -1) : ∃ p S U d, p < 30 ∧ S < 6 ∧ U < 6 ∧ S ≠ U ∧ trV f 0 = nI p ∧ trV f 1 = nI S ∧ trV f 2 = nI U ∧ trV f 3 = nI d ∧ 1 ≤ d ∧ d ≤ 60 ∧ f 0 11 = nI p ∧ f 0 13 = nI U ∧
    (cpS f p >>> (nI S &&& 31)) &&& nI 1 = nI 1 ∧ f 1 U = nI 1 ∧ tb (f 0 7) (nI U) = true ∧ rpV f U p = nI 0 := by
  obtain ⟨⟨s, hS, hJ, h6⟩, hX⟩ := hf
  obtain ⟨p, S, U, a1, a2, a3, a4, a5, a6, a7, a8⟩ := hX.2 hn
  obtain ⟨c1, c2, c3, c4⟩ := tr_conn hS hJ.2.2.1 hn a2 a3 a5 a6
  obtain ⟨t, l, t1, t2, l1, l2, l3, t6, t7⟩ := hJ.t
  have e4 : f 0 11 = s (0 + 4) := hS.1.2.2.2
  obtain ⟨u, u1, u2, u3⟩ := t7 (by rw [← e4]; exact hn)
  have e7 := (hS.2.2.1 (by rw [← e4]; exact hn)).2.2
  refine ⟨p, S, U, u - t, a1, a2, a3, c4, ?_, ?_, ?_, ?_, by omega, by omega, a4, a6, cpb_1 a1 a2 c1 (rp_1.mpr a7), c3, c2, ?_⟩
  · unfold trV; rw [if_neg hn, if_pos rfl]; exact a4
  · unfold trV; rw [if_neg hn, if_neg (by decide), if_pos rfl]; exact a5
  · unfold trV; rw [if_neg hn, if_neg (by decide), if_neg (by decide), if_pos rfl]; exact a6
  · unfold trV
    rw [if_neg hn, if_neg (by decide), if_neg (by decide), if_neg (by decide), e7, u3, hS.1.1, t2, ni_sub (by omega)]
  · rw [tb_orr (by omega)] at a8
    unfold rpV
    cases q4 : tb (f 4 U) (nI p) with
    | true => rw [q4] at a8; cases a8
    | false =>
      rw [q4, Bool.false_or] at a8
      rw [if_neg (by decide), a8, if_neg (by decide)]
theorem tr_none (e : f 0 11 = -1) {i : Nat} : trV f i = -1 := if_pos e
end
