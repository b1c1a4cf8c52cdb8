/-! time passes up to a deadline, up to the rest, behind the rest -/
section
variable {f g : SV} {s : NV} {B M h p : Nat}
theorem exL_3 {r : Nat} (hr : r = 2 ∨ r = 3 ∨ r = 6) : ∀ k, exL f k r = f r := by
  intro k
  induction k with
  | zero => rfl
  | succ k ih =>
    rw [exL]
    split
    · split
      · rw [ctS_row (by omega)]
        funext j
        rw [lvS_at, if_neg (by omega), ih]
      · exact ih
    · exact ih
theorem coG_3 {r : Nat} (h0 : r ≠ 0) (h4 : r ≠ 4) : coG f r = f r := by
  have e1 : coG1 f r = f r := coG1_row (by omega)
  have e2 : ∀ p a t, coG2 (coG1 f) p a t r = f r := fun p a t => by
    unfold coG2
    (repeat' split) <;> first | exact e1 | (rw [put_n h4, put_n h4]; exact e1) | (rw [put_n h4]; exact e1)
  unfold coG
  (repeat' split) <;> first | exact e1 | exact e2 _ _ _
theorem evG_3 {r : Nat} (hr : r = 2 ∨ r = 3 ∨ r = 6) {e : Int32} : evG f e r = f r := by
  have e1 : evG1 f e r = f r := put_n (by omega)
  have e2 : evG2 (evG1 f e) r = f r := by
    unfold evG2
    (repeat' split) <;> first | exact e1 | (rw [coG_3 (by omega) (by omega)]; exact e1)
  unfold evG
  rw [seS_row (by omega) (by omega), exL_3 hr, e2]
theorem avG_3 {r : Nat} (hr : r = 2 ∨ r = 3 ∨ r = 6) {e : Int32} : ∀ n f, avG e n f r = f r := by
  intro n
  induction n with
  | zero => intro f; rfl
  | succ n ih =>
    intro f
    rw [avG]
    split
    · rfl
    · rw [ih, evG_3 hr]
/-- a pass of k seconds -/
theorem pass_ok (hf : GoodS f B M) (hM : M ≤ 500000) {k : Nat} (hk : 1 ≤ k ∧ k ≤ 600) : GoodS (avG (f 0 8 + nI k) k f) B (M + 600) ∧ ∃ d, d ≤ k ∧ ∀ g sz G T n, WorldS G T n g → Does sz I_X2_pass [.ref (sz + 0), .int (nI k)] (patch G 1 7 f, T) 0 0 (.inl (some (nI d))) (patch (rmG G f T n) 1 7 (avG (f 0 8 + nI k) k f), rmT T n) := by
  obtain ⟨⟨s, hS, hJ, h6⟩, hX⟩ := hf
  obtain ⟨t, l, t1, t2, -⟩ := id hJ.t
  have hop := op_pass (M := M + 600) (k := k) (by omega) hS (hJ.monoM (Nat.le_refl _) (by omega)) h6 (t := t) t2 (by omega)
  obtain ⟨hA, -, d, hd, ed⟩ := hop
  refine ⟨⟨⟨_, hA.1, hA.2.1, hA.2.2.1⟩, ?_⟩, d, hd, fun g sz G T n hW => ?_⟩
  · rw [hS.1.1.trans t2, nI_add]
    exact xt_av (M := M + 600) (B := B) (by omega) k k f s t (Nat.le_refl k) hS (hJ.monoM (Nat.le_refl _) (by omega)) h6 t2 (by omega) hX
  · have h := x_pass (sz := sz) (f := f) (k := k) (by omega) ((inB_t (by omega) (by decide) (by decide)).mpr (by omega)) ((adv_iff hS t2 (by omega) (by omega)).1.mpr (by omega)) hW.1 hW.2.2.1 hW.2.2.2.1
    have e : avG (f 0 8 + nI k) k f 0 10 - f 0 10 = nI d := by
      have e1 := hS.1.2.2.1
      have e2 := hA.1.1.2.2.1
      rw [e2, e1]
      show spL s 0 k 3 - s 3 = nI d
      rw [ed, Int32.add_comm, Int32.add_sub_cancel]
    rw [e] at h
    exact h
theorem good_now (hf : GoodS f B M) : ∃ t, t ≤ M ∧ f 0 8 = nI t := by
  obtain ⟨⟨s, hS, hJ, h6⟩, hX⟩ := hf
  obtain ⟨t, l, t1, t2, -⟩ := id hJ.t
  exact ⟨t, t1, hS.1.1.trans t2⟩
/-- at its deadline a host is given back -/
theorem over_mode (hf : GoodS f B M) (hM : M ≤ 500000) (hh : h < 6) {k : Nat} (hk : 1 ≤ k ∧ k ≤ 600) (hm : f 1 h = nI 2) (ed : dlV f h = nI k) : ¬ avG (f 0 8 + nI k) k f 1 h = nI 2 := by
  intro q
  have hp := (pass_ok hf hM hk).1
  obtain ⟨d', d1, d2, d3⟩ := good_dl hp hh q
  have h3 : avG (f 0 8 + nI k) k f 3 h = f 3 h := by rw [avG_3 (by omega)]
  obtain ⟨t, t1, t2⟩ := good_now hf
  have h8 : avG (f 0 8 + nI k) k f 0 8 = f 0 8 + nI k := by
    obtain ⟨⟨s, hS, hJ, h6⟩, hX⟩ := hf
    have t2' : s (0 + 0) = nI t := hS.1.1.symm.trans t2
    have hav := av_all (b := 0) (B := B) (M := M + 600) (by omega) k k f s t (Nat.le_refl k) hS (hJ.monoM (Nat.le_refl _) (by omega)) h6 t2' (by omega)
    rw [t2, nI_add]
    exact hav.1.1.1.trans hav.2.2.2.1
  unfold dlV at ed d3
  rw [if_pos hm] at ed
  rw [if_pos q, h3, h8] at d3
  have e1 : f 3 h = nI (t + k) := by
    have : f 3 h = f 3 h - f 0 8 + f 0 8 := by rw [Int32.sub_add_cancel]
    rw [this, ed, t2, nI_add, Nat.add_comm]
  rw [e1, t2, nI_add, Int32.sub_self] at d3
  exact absurd d3 (by
    rw [← nI_0]
    exact ni_ne (by omega) (by decide) (by omega))
/-- when it rests -/
theorem rests_ok (hf : GoodS f B M) (hM : M ≤ 500000) : ∃ (r : Int32) (X : SV), (∀ sz G T, Does sz I_X2_restsIn [.ref (sz + 0)] (patch G 1 7 f, T) 0 0 (.inl (some r)) (patch (patch G 8 7 X) 1 7 f, T)) ∧ (r = -1 ∨ ∃ k, k ≤ 600 ∧ r = nI k ∧ restS (avG (f 0 8 + nI k) k f) = true) := by
  obtain ⟨⟨s, hS, hJ, h6⟩, hX⟩ := hf
  obtain ⟨t, l, t1, t2, -⟩ := id hJ.t
  have e8 : f 0 8 = nI t := hS.1.1.trans t2
  have hJ' : JJ s 0 B (M + 600) := hJ.monoM (Nat.le_refl _) (by omega)
  obtain ⟨K, K', k1, k2, hr, hd, hend, hnow, -, hreC, -, -, -⟩ := rs_all (b := 0) (B := B) (M := M + 600) (t0 := t) (by omega) (by omega) 600 (Nat.le_refl 600) f s hS hJ' h6 (by rw [show t + 600 - 600 = t by omega]; exact t2)
  have ee : f 0 8 + nI 600 = nI (t + 600) := by rw [e8, nI_add]
  rcases hend with hs | ⟨hs, he⟩
  · refine ⟨nI K', rsG f (nI (t + 600)) K, fun sz G T => ?_, Or.inr ⟨K', k2, rfl, ?_⟩⟩
    · have h := x_restsIn_0 (sz := sz) (G := G) (T := T) (f := f) (K := K) k1 (by rw [ee]; exact hr) (by rw [ee]; exact hd) (by rw [ee]; exact hs)
      rw [ee, hnow, e8, ni_sub (by omega), show t + 600 - 600 + K' - t = K' by omega] at h
      exact h
    · have hav := av_all (b := 0) (B := B) (M := M + 600) (by omega) K' K' f s t (Nat.le_refl K') hS hJ' h6 t2 (by omega)
      rw [e8, nI_add, sim_rest hav.1, hreC]
      exact hs
  · refine ⟨-1, rsG f (nI (t + 600)) K, fun sz G T => ?_, Or.inl rfl⟩
    have h := x_restsIn_1 (sz := sz) (G := G) (T := T) (f := f) (K := K) k1 (by rw [ee]; exact hr) (by rw [ee]; exact hd) (by rw [ee]; exact hs) (by rw [ee]; exact he)
    rw [ee] at h
    exact h
theorem rest_tr (h : restS f = true) : f 0 11 = -1 := by
  unfold restS at h
  rw [Bool.and_eq_true, decide_eq_true_iff] at h
  exact h.2
theorem rest_rec (h : restS f = true) {k : Nat} (hk : k < 6) : ¬ f 1 k = nI 2 := by
  intro e
  unfold restS at h
  rw [Bool.and_eq_true, recS_at 6 hk e] at h
  cases h.1
theorem rest_in (h : restS f = true) {sz : Nat} {G : Nat → Nat → Int32} {T : (Nat → Nat) × Int64} : Does sz I_X2_restsIn [.ref (sz + 0)] (patch G 1 7 f, T) 0 0 (.inl (some (nI 0))) (patch (patch G 8 7 f) 1 7 f, T) := by
  have h := x_restsIn_0 (sz := sz) (G := G) (T := T) (f := f) (K := 0) (by decide) (fun k hk => absurd hk (Nat.not_lt_zero k)) (fun k hk => absurd hk (Nat.not_lt_zero k)) h
  rw [show rsG f (f 0 8 + nI 600) 0 = f from rfl, Int32.sub_self] at h
  exact h
/-- behind the rest nothing is completed -/
theorem rest_pass (hf : GoodS f B M) (hM : M ≤ 500000) (hr : restS f = true) : ∀ g sz G T n, WorldS G T n g → Does sz I_X2_pass [.ref (sz + 0), .int (nI 7)] (patch G 1 7 f, T) 0 0 (.inl (some (nI 0))) (patch (rmG G f T n) 1 7 (avG (f 0 8 + nI 7) 7 f), rmT T n) := by
  have e11 := rest_tr hr
  have erec := fun k (hk : k < 6) => rest_rec hr hk
  obtain ⟨⟨s, hS, hJ, h6⟩, hX⟩ := hf
  obtain ⟨t, l, t1, t2, -⟩ := id hJ.t
  have hop := op_pass (M := M + 600) (k := 7) (by omega) hS (hJ.monoM (Nat.le_refl _) (by omega)) h6 (t := t) t2 (by omega)
  have hne : NoE s 0 (t + 8) := ⟨fun k hk e => absurd ((hS.2.2.2.1 k hk).1.trans e) (erec k hk), fun q => absurd (hS.1.2.2.2.symm.trans e11) q⟩
  have hid := spL_idle h6 t2 hne (by omega) 7 (by omega)
  intro g sz G T n hW
  have h := x_pass (sz := sz) (f := f) (k := 7) (by omega) ((inB_t (by omega) (by decide) (by decide)).mpr (by omega)) ((adv_iff hS t2 (by omega) (by omega)).1.mpr (by omega)) hW.1 hW.2.2.1 hW.2.2.2.1
  have e : avG (f 0 8 + nI 7) 7 f 0 10 - f 0 10 = nI 0 := by
    have e1 := hS.1.2.2.1
    have e2 := hop.1.1.1.2.2.1
    rw [e2, e1]
    show spL s 0 7 3 - s 3 = nI 0
    rw [hid, upd_n (by omega), Int32.sub_self]
    rfl
  rw [e] at h
  exact h
end
