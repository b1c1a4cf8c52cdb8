/-! the three lendings and the saving at the start -/
def World0 (G : Nat → Nat → Int32) (T : (Nat → Nat) × Int64) (n : Nat) : Prop :=
  (∀ i, i < 6 → isV (T.1 i)) ∧ (∀ i j, i < 6 → j < 6 → T.1 i = T.1 j → i = j) ∧ n ≤ 6 ∧ G 0 3 = nI n
section
variable {sz n : Nat} {G : Nat → Nat → Int32} {T : (Nat → Nat) × Int64} {f g : SV} {s : NV} {B M h : Nat}
theorem World0.rm (hW : World0 G T n) : World0 (rmG G f T n) (rmT T n) (rmN n) := by
  obtain ⟨h1, h2, h3, h4⟩ := id hW
  refine ⟨fun i hi => ?_, fun i j hi hj e => ?_, rmN_1.2, ?_⟩
  · rw [rmT_at hi]
    (repeat' split) <;> apply h1 <;> omega
  · rw [rmT_at hi, rmT_at hj] at e
    by_cases q : n < 6
    · rw [if_pos q, if_pos q] at e; exact h2 i j hi hj e
    · rw [if_neg q, if_neg q] at e
      by_cases ei : i = 5
      · by_cases ej : j = 5
        · omega
        · rw [if_pos ei, if_neg ej] at e
          have := h2 _ _ (by decide) (by omega) e
          omega
      · by_cases ej : j = 5
        · rw [if_neg ei, if_pos ej] at e
          have := h2 _ _ (by omega) (by decide) e
          omega
        · rw [if_neg ei, if_neg ej] at e
          have := h2 _ _ (by omega) (by omega) e
          omega
  · unfold rmG
    rw [put_at, if_pos ⟨rfl, rfl⟩]
theorem World0.sv (hW : World0 G T n) : WorldS (put (patch G (61 + 7 * 0) 7 f) 0 5 (G 0 5 ||| (nI 1 <<< (nI 0 &&& 31)))) T n f := by
  obtain ⟨h1, h2, h3, h4⟩ := hW
  refine ⟨h1, h2, h3, ?_, ?_, fun a ha => ?_⟩
  · rw [put_at, if_neg (by decide)]
    have : patch G (61 + 7 * 0) 7 f 0 = G 0 := patch_out (by omega)
    rw [this]; exact h4
  · rw [put_at, if_pos ⟨rfl, rfl⟩, tb_or (by decide) (by decide)]
    simp
  · unfold view
    rw [put_n (by omega)]
    exact patch_in ha
theorem sum_nn (hr : ∀ k, k < 6 → ∃ c, c ≤ 20 ∧ rmS f k = nI c) {c : Nat} (hh : h < 6) (e : rmS f h = nI c) (hc : c ≤ 20) : ∀ k, k ≤ 6 → ∃ v, v ≤ 20 * k ∧ sumS f k = nI v ∧ (h < k → c ≤ v) := by
  intro k
  induction k with
  | zero => intro _; exact ⟨0, by decide, rfl, fun z => absurd z (Nat.not_lt_zero h)⟩
  | succ k ih =>
    intro hk
    obtain ⟨v, v1, v2, v3⟩ := ih (by omega)
    obtain ⟨d, d1, d2⟩ := hr k (by omega)
    refine ⟨v + d, by omega, by rw [sumS, v2, d2, nI_add], fun z => ?_⟩
    by_cases q : h = k
    · subst q
      have : c = d := (nI_eq (by omega) (by omega)).mp (e.symm.trans d2)
      omega
    · have := v3 (by omega)
      omega
/-- an idle host that lends has room at once -/
theorem lend_pos (hf : GoodS f B M) (hM : M ≤ 500000) (hh : h < 6) {c : Nat} (hy : 1 ≤ c ∧ c ≤ 20) (hm : f 1 h = 0) (ho : tb (f 0 7) (nI h) = true) :
    ∃ v, 1 ≤ v ∧ v < 1000 ∧ GoodS (seS (beG f h (nI c))) (B + 1) (M + 50) ∧ ∀ sz G T n, World0 G T n → Does sz I_X2_lend [.ref (sz + 0), .int (nI h), .int (nI c)] (patch G 1 7 f, T) 0 0 (.inl (some (nI v))) (patch (rmG G f T n) 1 7 (seS (beG f h (nI c))), rmT T n) := by
  have hc : cbegS f h = true := by unfold cbegS; rw [decide_eq_true hm, ho]; rfl
  have hu := good_used hf hh
  rw [good_away hf hh hm] at hu
  have hus : usS f h = nI 0 := by
    rw [hu]
    by_cases hn : f 0 11 = -1
    · rw [if_pos hn]; rfl
    · rw [if_neg hn]
      obtain ⟨p, S, U, d, a1, a2, a3, a4, a5, a6, a7, a8, a9, b1, b2, b3, b4, b5, b6, b7⟩ := good_tr hf hn
      rw [b3, if_neg]
      · rfl
      · intro q
        have e := (nI_eq (by omega) (by omega)).mp q
        subst e
        rw [b5] at hm
        exact absurd hm (by decide)
  obtain ⟨⟨s, hS, hJ, h6⟩, hX⟩ := hf
  have hop := op_lend (M := M + 50) (y := nI c) (by omega) hS (hJ.monoM (Nat.le_refl _) (by omega)) hh ((sim_cbeg hS hh).symm.trans hc) ⟨c, hy.1, hy.2, rfl⟩
  obtain ⟨hA, h2, h3⟩ := hop
  have hr : ∀ k, k < 6 → ∃ d, d ≤ 20 ∧ rmS (beG f h (nI c)) k = nI d := fun k hk => by
    rw [sim_rm h2 hk]
    unfold feM
    cases hl : leM (le1 s h (nI c)) 0 k with
    | false => exact ⟨0, by decide, by rw [if_neg (by decide)]⟩
    | true =>
      rw [if_pos rfl]
      obtain ⟨d, d1, d2, d3⟩ := (h3.2.2.2 k hk).2.2 (le_spec hl).1
      exact ⟨d - usM (le1 s h (nI c)) 0 k, by omega, by rw [d2, ni_sub d3]⟩
  have e : rmS (beG f h (nI c)) h = nI c := by
    have e1 : opS (beG f h (nI c)) h = true := by
      unfold opS beG
      rw [put_n (by decide), put_at, if_pos ⟨rfl, rfl⟩, put_n (by decide), put_n (by decide), ho]
      rfl
    have e2 : usS (beG f h (nI c)) h = usS f h := by
      unfold usS beG
      rw [put_n (by decide), put_n (by decide), put_n (by decide), put_n (by decide), put_n (by decide), put_n (by decide)]
    have e3 : beG f h (nI c) 2 h = nI c := by
      unfold beG
      rw [put_at, if_pos ⟨rfl, rfl⟩]
    unfold rmS
    rw [e1, if_pos rfl, e2, hus, e3, ni_sub (by omega)]
    rfl
  obtain ⟨v, v1, v2, v3⟩ := sum_nn hr hh e (by omega) 6 (Nat.le_refl 6)
  refine ⟨v, by have := v3 hh; omega, by omega, opG hA (by omega) (xt_lend hX), fun sz G T n hW => ?_⟩
  rw [← v2]
  exact x_lend hh ((inB_t (by omega) (by decide) (by decide)).mpr (by omega)) hc hW.1 hW.2.2.1 hW.2.2.2
theorem rlS_z {k : Nat} (e : f 1 k = 0) : ∀ i, rlS f i 1 k = 0 := by
  intro i
  induction i with
  | zero => exact e
  | succ i ih =>
    rw [rlS]
    (repeat' split) <;> first | exact ih | (rw [put_at]; split <;> first | rfl | exact ih)
theorem lend_oth {c : Int32} {k : Nat} (hn : k ≠ h) (e : f 1 k = 0) : seS (beG f h c) 1 k = 0 := by
  unfold seS
  rw [seS1_row (by decide)]
  refine rlS_z ?_ 6
  unfold beG
  rw [put_n (by decide), put_at, if_neg (fun z => hn z.2)]
  exact e
theorem lend_0 {c : Int32} {j : Nat} (hj : j < 11 ∨ 14 < j) : seS (beG f h c) 0 j = f 0 j := by
  rw [seS_0 hj]
  unfold beG
  rw [put_n (by decide), put_n (by decide)]
end
/-- the new object's State is good -/
theorem good_0 : GoodS (view G0 1) 0 0 := by
  refine ⟨⟨sM 6, sim_0, jj_0, j6_0⟩, fun h hh => ?_, TrI.no ?_⟩
  · rw [ctH_m sim_0 hh]
    have : hdM (sM 6) 0 h = 0 := hd_0 fun p hp => by rw [sM_rp]; decide
    omega
  · rw [vG_0]; rfl
theorem world_0 : World0 G0 ((fun i => 19 + 7 * i), (0 : Int64)) 0 := by
  refine ⟨fun i hi => ?_, fun i j hi hj e => ?_, by decide, ?_⟩
  · have e : ∀ i, i < 6 → isV (19 + 7 * i) := by unfold isV; decide
    exact e i hi
  · have e2 : 19 + 7 * i = 19 + 7 * j := e
    omega
  · rw [G0_z (k := 0) (by decide) (by decide) (by decide)]; rfl
theorem start_m {k : Nat} (hk : k < 6) : view G0 1 1 k = 0 ∧ tb (view G0 1 0 7) (nI k) = true := by
  refine ⟨by rw [vG_r (a := 0) (by decide)]; rfl, ?_⟩
  rw [vG_0]
  have e : ∀ h, h < 6 → tb (gS 7) (nI h) = true := by decide +kernel
  exact e k hk
