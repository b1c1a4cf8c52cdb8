/-! the other commands of the script -/
theorem p75_put {G : Nat → Nat → Int32} {g : SV} {k j : Nat} {v : Int32} (hk : k < 75) : put (patch G 75 4 g) k j v = patch (put G k j v) 75 4 g := by
  funext a b
  rw [put_at]
  by_cases h : 75 ≤ a ∧ a < 75 + 4
  · rw [if_neg (by omega)]
    unfold patch
    rw [if_pos h, if_pos h]
  · rw [patch_out (k := a) (by omega), patch_out (k := a) (by omega), put_at]
theorem p75_pat {G : Nat → Nat → Int32} {f g : SV} {r : Nat} (hr : r + 7 ≤ 75) : patch (patch G 75 4 g) r 7 f = patch (patch G r 7 f) 75 4 g := by
  funext a
  by_cases h : 75 ≤ a ∧ a < 75 + 4
  · rw [patch_out (r := r) (by omega)]
    unfold patch
    rw [if_pos h, if_pos h]
  · rw [patch_out (r := 75) (w := 4) (g := patch G r 7 f) (by omega)]
    by_cases h2 : r ≤ a ∧ a < r + 7
    · unfold patch; rw [if_pos h2, if_pos h2]
    · rw [patch_out (by omega), patch_out (by omega), patch_out (by omega)]
theorem p18_Wd {G : Nat → Nat → Int32} {f F g : SV} {s : NV} : patch (Wd G f F s) 18 1 g = Wd (patch G 18 1 g) f F s := by
  unfold Wd
  funext a
  by_cases h : 18 ≤ a ∧ a < 18 + 1
  · rw [patch_out (r := 1) (w := 7) (by omega), patch_out (r := 75) (by omega)]
    unfold patch
    rw [if_pos h, if_pos h]
  · rw [patch_out (r := 18) (by omega)]
    by_cases h1 : 1 ≤ a ∧ a < 1 + 7
    · unfold patch; rw [if_pos h1, if_pos h1]
    · rw [patch_out (r := 1) (by omega), patch_out (r := 1) (by omega)]
      by_cases h2 : 75 ≤ a ∧ a < 75 + 4
      · unfold patch; rw [if_pos h2, if_pos h2]
      · rw [patch_out (r := 75) (by omega), patch_out (r := 75) (by omega), patch_out (r := 18) (by omega)]
theorem o_appendText {sz : Nat} : ∀ x : Int32, OpX sz InvM I_L_appendText hh_L_appendText I_X3_appendText [.int x] := by
  intro x
  intro k M hk hI
  obtain ⟨G, f, F, s, n, B, hB, hd0, hM⟩ := hI
  obtain ⟨M1, TT⟩ := M
  have hM : M1 = Wd G f F s := hM
  have hd : Dat G f F s TT.1 n B := hd0
  subst hM
  obtain ⟨hS, hJ, h6⟩ := hd.sim
  show CnX k sz I_L_appendText hh_L_appendText I_X3_appendText [.int x] (Wd G f F s, TT)
  obtain ⟨d1, d2, d3, d4, d5, d6, d7, d8, ⟨t, t1, t2, t3, t4⟩⟩ := hd
  have hd : Dat G f F s TT.1 n B := ⟨d1, d2, d3, d4, d5, d6, d7, d8, ⟨t, t1, t2, t3, t4⟩⟩
  have hL : patch G 75 4 (mS F s) 0 7 = nI t := by rw [patch_out (by omega)]; exact t1
  cases hx : inB x (nI 32) (nI 126) with
  | false => exact cn_ref (c := 1) (by omega) hB hd (h_appendText_1 (x_appendText_1 hx)) (a_appendText_1 hx)
  | true =>
    by_cases h80 : t = 80
    · subst h80
      exact cn_ref (c := 2) (by omega) hB hd (h_appendText_2 (x_appendText_2 hx hL)) (a_appendText_2 hx t2)
    · obtain ⟨c, c1, c2, rfl⟩ := inB_nI hx (by decide) (by decide)
      have hq := x_appendText (sz := sz) (G := patch G 75 4 (mS F s)) (f := f) (T := TT) ⟨c1, c2⟩ hx (t := t) (by omega) hL
      rw [p75_put (by decide), p75_put (by decide)] at hq
      refine cn_ok (G' := put (put G 17 t (nI c)) 0 7 (nI (t + 1))) (f' := f) (T' := TT.1) (n' := n) (B' := B) (F' := put (put (put F 0 0 (nI 0)) 3 t (nI c)) 0 5 (nI (t + 1))) (s' := s) (h_appendText hq) (a_appendText hx (by omega) t2) ?_ (by omega) ?_
      · rw [put_o (by omega), put_o (by omega), put_e rfl rfl]
      · have hv : ∀ r, 19 ≤ r → ∀ k, view (put (put G 17 t (nI c)) 0 7 (nI (t + 1))) r k = view G r k := fun r hr k => by
          unfold view
          rw [put_n (by omega), put_n (by omega)]
        refine ⟨d1, d2, d3, ?_, ?_, d6, fun i hi => ?_, fun c' hc' => ?_, ⟨t + 1, put_e rfl rfl, put_e rfl rfl, by omega, fun i hi => ?_⟩⟩
        · rw [put_o (by omega), put_o (by omega)]; exact d4
        · rw [put_o (by omega), put_o (by omega), put_o (by omega)]; exact d5
        · exact (d7 i hi).cg (fun k _ => hv _ (isV_B (d1 i (by omega))).2.1 k) (fun _ _ => rfl) (Nat.le_refl _)
        · rw [put_o (by omega), put_o (by omega), put_o (by omega), put_o (by omega), put_o (by omega)]
          rcases d8 c' hc' with ⟨a, b, e⟩ | a
          · exact Or.inl ⟨a, b, e.cg (fun k _ => hv _ (by omega) k) (fun _ _ => rfl) (Nat.le_refl _)⟩
          · exact Or.inr a
        · rw [put_o (by omega), put_o (k2 := 3) (by omega)]
          by_cases e : i = t
          · rw [put_e rfl e, put_e rfl e]
            exact ⟨c, c1, c2, rfl, rfl⟩
          · rw [put_o (by omega), put_o (by omega), put_o (by omega)]
            exact t4 i (by omega)
theorem o_clearText {sz : Nat} : OpD sz InvM I_X2_clearText I_X3_clearText := by
  intro k M hk hI
  obtain ⟨G, f, F, s, n, B, hB, hd0, hM⟩ := hI
  obtain ⟨M1, TT⟩ := M
  have hM : M1 = Wd G f F s := hM
  have hd : Dat G f F s TT.1 n B := hd0
  subst hM
  obtain ⟨hS, hJ, h6⟩ := hd.sim
  obtain ⟨d1, d2, d3, d4, d5, d6, d7, d8, ⟨t, t1, t2, t3, t4⟩⟩ := hd
  have hL : patch G 75 4 (mS F s) 0 7 = F 0 5 := by rw [patch_out (by omega), t1, t2]
  have hq := x_clearText (sz := sz) (G := patch G 75 4 (mS F s)) (f := f) (T := TT)
  rw [hL, p75_put (by decide)] at hq
  have h9 := a_clearText (sz := sz) (G := patch (put G 0 7 (nI 0)) 1 7 f) (T := TT) (F := F) (s := s)
  rw [← Wd_p] at h9
  have hv : ∀ r, 19 ≤ r → ∀ k, view (put G 0 7 (nI 0)) r k = view G r k := fun r hr k => by
    unfold view
    rw [put_n (by omega)]
  refine ⟨_, _, _, hq, h9, ⟨put G 0 7 (nI 0), f, put (put F 0 0 (nI 0)) 0 5 (nI 0), s, n, B, by omega, ⟨d1, d2, d3, ?_, ?_, d6, fun i hi => ?_, fun c' hc' => ?_, ⟨0, put_e rfl rfl, put_e rfl rfl, by decide, fun i hi => absurd hi (Nat.not_lt_zero i)⟩⟩, Wd_p.symm⟩⟩
  · rw [put_o (by omega)]; exact d4
  · rw [put_o (by omega), put_o (by omega)]; exact d5
  · exact (d7 i hi).cg (fun k _ => hv _ (isV_B (d1 i (by omega))).2.1 k) (fun _ _ => rfl) (Nat.le_refl _)
  · rw [put_o (by omega), put_o (by omega), put_o (by omega)]
    rcases d8 c' hc' with ⟨a, b, e⟩ | a
    · exact Or.inl ⟨a, b, e.cg (fun k _ => hv _ (by omega) k) (fun _ _ => rfl) (Nat.le_refl _)⟩
    · exact Or.inr a
theorem o_undo {sz : Nat} : OpX sz InvM I_L_undo hh_L_undo I_X3_undo [] := by
  intro k M hk hI
  obtain ⟨G, f, F, s, n, B, hB, hd0, hM⟩ := hI
  obtain ⟨M1, TT⟩ := M
  have hM : M1 = Wd G f F s := hM
  have hd : Dat G f F s TT.1 n B := hd0
  subst hM
  obtain ⟨hS, hJ, h6⟩ := hd.sim
  show CnX k sz I_L_undo hh_L_undo I_X3_undo [] (Wd G f F s, TT)
  obtain ⟨d1, d2, d3, d4, d5, d6, d7, d8, ⟨t, t1, t2, t3, t4⟩⟩ := hd
  have hd : Dat G f F s TT.1 n B := ⟨d1, d2, d3, d4, d5, d6, d7, d8, ⟨t, t1, t2, t3, t4⟩⟩
  have hn : patch G 75 4 (mS F s) 0 3 = nI n := by rw [patch_out (by omega)]; exact d4
  by_cases h0 : n = 0
  · subst h0
    exact cn_ref (c := 1) (by omega) hB hd (h_undo_1 (x_undo_1 hn)) (a_undo_1 d5)
  · obtain ⟨m, rfl⟩ : ∃ m, n = m + 1 := ⟨n - 1, by omega⟩
    have hq := x_undo (sz := sz) (G := patch G 75 4 (mS F s)) (f := f) (T := TT) d1 (m := m) (by omega) hn
    rw [p75_put (by decide)] at hq
    have hV := isV_B (d1 m (by omega))
    refine cn_ok (G' := put G 0 3 (nI m)) (f' := view (patch G 75 4 (mS F s)) (TT.1 m)) (T' := TT.1) (n' := m) (B' := B) (F' := put (put F 0 0 (nI 0)) 0 2 (nI m)) (s' := crM s (m + 1) 0) (h_undo hq) (a_undo (by omega) d5) ?_ (by omega) ?_
    · rw [put_o (by omega), put_e rfl rfl]
    · have hv : ∀ r, 19 ≤ r → ∀ k, view (put G 0 3 (nI m)) r k = view G r k := fun r hr k => by
        unfold view
        rw [put_n (by omega)]
      refine ⟨d1, d2, by omega, put_e rfl rfl, put_e rfl rfl, ?_, fun i hi => ?_, fun c' hc' => ?_, ⟨t, ?_, ?_, t3, fun i hi => ?_⟩⟩
      · refine (d7 m (by omega)).cg (fun r hr => ?_) (fun j hj => ?_) (Nat.le_refl _)
        · unfold view
          exact patch_out (by omega)
        · rw [cr_blk (by omega) hj, if_pos rfl]
      · exact (d7 i (by omega)).cg (fun k _ => hv _ (isV_B (d1 i (by omega))).2.1 k) (fun j hj => by rw [cr_blk (by omega) hj, if_neg (by omega)]) (Nat.le_refl _)
      · rw [put_o (by omega), put_n (by omega), put_n (by omega)]
        rcases d8 c' hc' with ⟨a, b, e⟩ | a
        · exact Or.inl ⟨a, b, e.cg (fun k _ => hv _ (by omega) k) (fun j hj => by rw [cr_blk (by omega) hj, if_neg (by omega)]) (Nat.le_refl _)⟩
        · exact Or.inr a
      · rw [put_o (by omega)]; exact t1
      · rw [put_o (by omega), put_o (by omega)]; exact t2
      · rw [put_n (by omega), put_n (by omega), put_n (by omega)]; exact t4 i hi
theorem o_save {sz : Nat} : ∀ x : Int32, OpX sz InvM I_L_save hh_L_save I_X3_save [.int x] := by
  intro x
  intro k M hk hI
  obtain ⟨G, f, F, s, n, B, hB, hd0, hM⟩ := hI
  obtain ⟨M1, TT⟩ := M
  have hM : M1 = Wd G f F s := hM
  have hd : Dat G f F s TT.1 n B := hd0
  subst hM
  obtain ⟨hS, hJ, h6⟩ := hd.sim
  show CnX k sz I_L_save hh_L_save I_X3_save [.int x] (Wd G f F s, TT)
  have e2 : inB x (nI 0) (nI 1) = isR x 2 := isR_in (n := 2) (by decide) (by decide)
  cases hx : isR x 2 with
  | false => exact cn_ref (c := 1) (by omega) hB hd (h_save_1 (x_save_1 hx)) (a_save_1 (e2.trans hx))
  | true =>
    have hx2 := e2.trans hx
    obtain ⟨ex, hc⟩ := isR_n hx (by decide)
    generalize ixN x = c at ex hc
    subst ex
    obtain ⟨d1, d2, d3, d4, d5, d6, d7, d8, ⟨t, t1, t2, t3, t4⟩⟩ := hd
    have e5 : patch G 75 4 (mS F s) 0 5 = G 0 5 := by rw [patch_out (by omega)]
    have hq := x_save (sz := sz) (G := patch G 75 4 (mS F s)) (f := f) (T := TT) hc
    rw [e5, p75_pat (r := 61 + 7 * c) (by omega), p75_put (by decide)] at hq
    have h9 := fun G' T' => a_save (sz := sz) (G := G') (T := T') (F := F) (s := s) hc hx2
    have ev : crM s 0 (7 + c) 0 = f 0 8 := by
      have := cr_blk (s := s) (a := 0) (c := 7 + c) (i := 0) (j := 0) (by omega) (by decide)
      rw [if_neg (by omega)] at this
      exact this.trans hS.a.1.1.symm
    rw [ev] at h9
    refine cn_ok (G' := put (patch G (61 + 7 * c) 7 f) 0 5 (G 0 5 ||| (nI 1 <<< (nI c &&& 31)))) (f' := f) (T' := TT.1) (n' := n) (B' := B) (F' := put (put F 0 0 (nI 0)) 2 c (nI 1)) (s' := crM s 0 (7 + c)) (h_save hq) (h9 _ _) ?_ (by omega) ?_
    · rw [put_o (by omega), put_e rfl rfl]
    · have hrow : ∀ k, k ≠ 0 → (k < 61 + 7 * c ∨ 61 + 7 * c + 7 ≤ k) → put (patch G (61 + 7 * c) 7 f) 0 5 (G 0 5 ||| (nI 1 <<< (nI c &&& 31))) k = G k := fun k h0 hk => by
        rw [put_n h0, patch_out hk]
      have h0j : ∀ j, j ≠ 5 → put (patch G (61 + 7 * c) 7 f) 0 5 (G 0 5 ||| (nI 1 <<< (nI c &&& 31))) 0 j = G 0 j := fun j hj => by
        rw [put_o (by omega), patch_out (by omega)]
      refine ⟨d1, d2, d3, (h0j 3 (by decide)).trans d4, ?_, d6.cg (fun _ _ => rfl) (fun j hj => by rw [cr_blk (by omega) hj, if_neg (by omega)]) (Nat.le_refl _), fun i hi => ?_, fun c' hc' => ?_, ⟨t, (h0j 7 (by decide)).trans t1, ?_, t3, fun i hi => ?_⟩⟩
      · rw [put_o (by omega), put_o (by omega)]; exact d5
      · have hV := isV_B (d1 i (by omega))
        refine (d7 i hi).cg (fun k hk => ?_) (fun j hj => by rw [cr_blk (by omega) hj, if_neg (by omega)]) (Nat.le_refl _)
        unfold view
        exact hrow _ (by omega) (by omega)
      · rw [put_e rfl rfl, tb_or (by omega) (by omega)]
        by_cases e : c' = c
        · subst e
          refine Or.inl ⟨by rw [decide_eq_true rfl, Bool.or_true], by rw [put_e rfl rfl]; decide, d6.cg (fun k hk => ?_) (fun j hj => by rw [cr_blk (by omega) hj, if_pos rfl]) (Nat.le_refl _)⟩
          unfold view
          rw [put_n (by omega)]
          exact patch_in hk
        · rw [decide_eq_false e, Bool.or_false, put_o (by omega), put_o (by omega)]
          rcases d8 c' hc' with ⟨a, b, g⟩ | a
          · refine Or.inl ⟨a, b, g.cg (fun k hk => ?_) (fun j hj => by rw [cr_blk (by omega) hj, if_neg (by omega)]) (Nat.le_refl _)⟩
            unfold view
            exact hrow _ (by omega) (by omega)
          · exact Or.inr a
      · rw [put_o (by omega), put_o (by omega)]; exact t2
      · rw [hrow 17 (by decide) (by omega), put_n (by omega), put_n (by omega)]; exact t4 i hi
/-- the forecast's block -/
theorem fore {G : Nat → Nat → Int32} {f F : SV} {s : NV} {T : Nat → Nat} {n B : Nat} (hd : Dat G f F s T n B) : Sim f (crM s 0 9) 2448 ∧ JJ (crM s 0 9) 2448 B 1000600 ∧ J6 (crM s 0 9) 2448 ∧ (∀ i, i < 2448 → crM s 0 9 i = s i) ∧ ∃ t, t ≤ 1000000 ∧ f 0 8 = nI t ∧ crM s 0 9 (2448 + 0) = nI t ∧ s 0 = nI t := by
  obtain ⟨hS, hJ, h6⟩ := hd.sim
  have hb : ∀ j, j < 272 → crM s 0 9 (2448 + j) = s (0 + j) := fun j hj => by
    have := cr_blk (s := s) (a := 0) (c := 9) (i := 9) (j := j) (by decide) hj
    rw [if_pos rfl] at this
    exact this
  obtain ⟨t, l, t1, t2, -⟩ := hJ.t
  have hJ2 : JJ s 0 B 1000600 := JJ.mk hJ.c (hJ.t.mono (by decide))
  refine ⟨hS.cb hb, hJ2.cb hb, h6.cg fun j hj _ => (hb j hj).symm, fun i hi => ?_, t, t1, hS.a.1.1.trans t2, (hb 0 (by decide)).trans t2, t2⟩
  have hi2 : i = 272 * (i / 272) + i % 272 := by omega
  rw [hi2, cr_blk (by decide) (Nat.mod_lt _ (by decide)), if_neg (by omega)]
theorem Dat.g8 {G : Nat → Nat → Int32} {f F g : SV} {s : NV} {T : Nat → Nat} {n B : Nat} (hd : Dat G f F s T n B) : Dat (patch G 8 7 g) f F s T n B :=
  hd.gG (by rw [patch_out (by omega)]) (by rw [patch_out (by omega)]) (by rw [patch_out (by omega)]) fun k hk => patch_out (by omega)
theorem o_lostIn {sz : Nat} : ∀ x : Int32, OpX sz InvM I_L_lostIn hh_L_lostIn I_X3_lostIn [.int x] := by
  intro x
  intro k M hk hI
  obtain ⟨G, f, F, s, n, B, hB, hd0, hM⟩ := hI
  obtain ⟨M1, TT⟩ := M
  have hM : M1 = Wd G f F s := hM
  have hd : Dat G f F s TT.1 n B := hd0
  subst hM
  obtain ⟨hS, hJ, h6⟩ := hd.sim
  show CnX k sz I_L_lostIn hh_L_lostIn I_X3_lostIn [.int x] (Wd G f F s, TT)
  cases hx : inB x (nI 1) (nI 600) with
  | false => exact cn_ref (c := 1) (by omega) hB hd (h_lostIn_1 (x_lostIn_1 hx)) (a_lostIn_1 hx)
  | true =>
    obtain ⟨q, q1, q2, rfl⟩ := inB_nI hx (by decide) (by decide)
    obtain ⟨g1, g2, g3, g4, t, t1, t2, t3, -⟩ := fore hd
    obtain ⟨a1, a2, -, -, a5, -, a7⟩ := av_all (M := 1000600) (by decide) q q f (crM s 0 9) t (Nat.le_refl q) g1 g2 g3 t3 (by omega)
    have hq := x_lostIn (sz := sz) (G := patch G 75 4 (mS F s)) (f := f) (T := TT) q2 hx
    rw [t2, nI_add, p75_pat (by decide), sim_cnt a1 a2.2.1 (by decide) 30 (Nat.le_refl 30)] at hq
    have h9 := fun G' T' => a_lostIn (sz := sz) (G := G') (T := T') (F := F) (s := s) q2 hx a5
    refine cn_ok (G' := patch G 8 7 (avG (nI (t + q)) q f)) (f' := f) (T' := TT.1) (n' := n) (B' := B) (F' := put F 0 0 (nI 0)) (s' := spL (crM s 0 9) 2448 q) (h_lostIn hq) (h9 _ _) (put_e rfl rfl) (by omega) ?_
    exact ((hd.g8.e0 0).sS g4).sS fun i hi => a7 i (Or.inl hi)
theorem o_restsIn {sz : Nat} : OpD sz InvM I_X2_restsIn I_X3_restsIn := by
  intro k M hk hI
  obtain ⟨G, f, F, s, n, B, hB, hd0, hM⟩ := hI
  obtain ⟨M1, TT⟩ := M
  have hM : M1 = Wd G f F s := hM
  have hd : Dat G f F s TT.1 n B := hd0
  subst hM
  obtain ⟨hS, hJ, h6⟩ := hd.sim
  obtain ⟨g1, g2, g3, g4, t, t1, t2, t3, -⟩ := fore hd
  obtain ⟨K, K', k1, k2, k3, k4, k5, k6, k7, k8, k9, k10, k11⟩ := rs_all (M := 1000600) (t0 := t) (by decide) (by omega) 600 (Nat.le_refl 600) f (crM s 0 9) g1 g2 g3 (by rw [show t + 600 - 600 = t by omega]; exact t3)
  have e9 : f 0 8 + nI 600 = nI (t + 600) := by rw [t2, nI_add]
  have h9 := a_restsIn (sz := sz) (G := patch (patch G 8 7 (rsG f (nI (t + 600)) K)) 1 7 f) (T := TT) (F := F) (s := s) (K := K') k2 k7 k9 k10
  rw [← Wd_p] at h9
  have hInv : InvM (k + 1) (patch (patch (patch G 8 7 (rsG f (nI (t + 600)) K)) 1 7 f) 75 4 (mS (put F 0 0 (nI 0)) (spL (crM s 0 9) 2448 K')), TT) := ⟨patch G 8 7 (rsG f (nI (t + 600)) K), f, put F 0 0 (nI 0), spL (crM s 0 9) 2448 K', n, B, by omega, ((hd.g8.e0 0).sS g4).sS fun i hi => k11 i (Or.inl hi), Wd_p.symm⟩
  rcases k5 with hr | ⟨hr, he⟩
  · have hq := x_restsIn_0 (sz := sz) (G := patch G 75 4 (mS F s)) (f := f) (T := TT) (K := K) k1 (by rw [e9]; exact k3) (by rw [e9]; exact k4) (by rw [e9]; exact hr)
    rw [e9, p75_pat (by decide), k6, t2, show t + 600 - 600 + K' = t + K' by omega, pk_sub (by omega), show t + K' - t = K' by omega] at hq
    rw [k8, hr, if_pos rfl] at h9
    exact ⟨_, _, _, hq, h9, hInv⟩
  · have hq := x_restsIn_1 (sz := sz) (G := patch G 75 4 (mS F s)) (f := f) (T := TT) (K := K) k1 (by rw [e9]; exact k3) (by rw [e9]; exact k4) (by rw [e9]; exact hr) (by rw [e9]; exact he)
    rw [e9, p75_pat (by decide)] at hq
    rw [k8, hr, if_neg Bool.false_ne_true] at h9
    exact ⟨_, _, _, hq, h9, hInv⟩
/-- the text as numbers -/
theorem txt_n {G : Nat → Nat → Int32} {F : SV} {t : Nat} (h : Txt G F t) : ∃ tx : Nat → Nat, ∀ i, i < t → G 17 i = nI (tx i) ∧ F 3 i = nI (tx i) ∧ tx i < 128 := by
  refine ⟨fun i => (G 17 i).toInt.toNat, fun i hi => ?_⟩
  obtain ⟨c, c1, c2, c3, c4⟩ := h.2.2.2 i hi
  have e : (G 17 i).toInt.toNat = c := by rw [c3, nI_toInt (by omega)]; omega
  show G 17 i = nI (G 17 i).toInt.toNat ∧ F 3 i = nI (G 17 i).toInt.toNat ∧ (G 17 i).toInt.toNat < 128
  rw [e]
  exact ⟨c3, c4, by omega⟩
theorem Dat.g18 {G : Nat → Nat → Int32} {f F g : SV} {s : NV} {T : Nat → Nat} {n B : Nat} (hd : Dat G f F s T n B) : Dat (patch G 18 1 g) f F s T n B :=
  hd.gG (by rw [patch_out (by omega)]) (by rw [patch_out (by omega)]) (by rw [patch_out (by omega)]) fun k hk => patch_out (by omega)
theorem mRC_o {F : SV} {r : RC} {k j : Nat} (h : ¬ (k = 0 ∧ 6 ≤ j ∧ j ≤ 9)) : mRC F r k j = F k j := by
  unfold mRC tF
  rw [put_o (by omega), put_o (by omega), put_o (by omega), put_o (by omega)]
theorem mRC_r {F : SV} {r : RC} {k : Nat} (h : k ≠ 0) : mRC F r k = F k := by
  unfold mRC tF
  rw [put_n (by omega), put_n (by omega), put_n (by omega), put_n (by omega)]
/-- the program's own reading, whatever stood in its reader -/
theorem x_err {sz L : Nat} {tx : Nat → Nat} {W : Nat → Nat → Int32} {TT : (Nat → Nat) × Int64} {l x y : Int32} (hL : W 0 7 = nI L) (hL8 : L ≤ 80) (htx : ∀ i, i < L → W 17 i = nI (tx i)) (htx2 : ∀ i, i < L → tx i < 128) :
    ∃ g2 : SV, Does sz I_X2_errorPosition [.ref (sz + 0)] (W, TT) 0 0 (.inl (some (if vaT L tx l x y then -1 else nI (rdT L tx l x y (vaK L tx l x y)).2.1))) (patch W 18 1 g2, TT) := by
  obtain ⟨Bq, b1, b2, b3, b4⟩ := err_all (g := view W 18) (L := L) (tx := tx) (l := l) (x := x) (y := y) hL8
  have eM : (patch W 18 1 (view W 18), TT) = (W, TT) := pRv.symm
  rw [b2]
  rcases b4 with ⟨v1, v2, v3⟩ | ⟨v1, ⟨v2, v3⟩ | ⟨v2, v3⟩⟩
  · rw [v1, if_pos rfl]
    refine ⟨acG (view W 18) tx Bq, ?_⟩
    have hq := x_errorPosition_1 (sz := sz) (G := W) (g := view W 18) (T := TT) hL hL8 htx htx2 (K := Bq) b1 b3 v2 (by rw [v2]; exact v3)
    rw [eM] at hq
    exact hq
  · rw [v1, if_neg Bool.false_ne_true]
    refine ⟨acG (view W 18) tx (Bq + 1), ?_⟩
    have hq := x_errorPosition_b (sz := sz) (G := W) (g := view W 18) (T := TT) hL hL8 htx htx2 (K := Bq) b1 b3 v2 v3
    rw [eM] at hq
    exact hq
  · rw [v1, if_neg Bool.false_ne_true]
    refine ⟨acG (view W 18) tx Bq, ?_⟩
    have hq := x_errorPosition_0 (sz := sz) (G := W) (g := view W 18) (T := TT) hL hL8 htx htx2 (K := Bq) b1 b3 v2 (by rw [v2]; exact v3)
    rw [eM, ← v2] at hq
    exact hq
theorem o_errorPosition {sz : Nat} : OpD sz InvM I_X2_errorPosition I_X3_errorPosition := by
  intro k M hk hI
  obtain ⟨G, f, F, s, n, B, hB, hd0, hM⟩ := hI
  obtain ⟨M1, TT⟩ := M
  have hM : M1 = Wd G f F s := hM
  have hd : Dat G f F s TT.1 n B := hd0
  subst hM
  obtain ⟨hS, hJ, h6⟩ := hd.sim
  obtain ⟨t, ht⟩ := hd.2.2.2.2.2.2.2.2
  obtain ⟨tx, htx⟩ := txt_n ht
  have w7 : Wd G f F s 0 7 = nI t := by
    unfold Wd
    rw [patch_out (by omega), patch_out (by omega)]; exact ht.1
  have w17 : ∀ i, Wd G f F s 17 i = G 17 i := fun i => by
    unfold Wd
    rw [patch_out (by omega), patch_out (by omega)]
  obtain ⟨g2, hq⟩ := x_err (sz := sz) (W := Wd G f F s) (TT := TT) (l := F 0 7) (x := F 0 8) (y := F 0 9) w7 ht.2.2.1 (fun i hi => (w17 i).trans (htx i hi).1) fun i hi => (htx i hi).2.2
  rw [p18_Wd] at hq
  have h9 := a_errorPosition (sz := sz) (G := patch (patch G 18 1 g2) 1 7 f) (T := TT) (F := F) (s := s) ht.2.1 ht.2.2.1 (fun i hi => (htx i hi).2.1) fun i hi => (htx i hi).2.2
  rw [← Wd_p] at h9
  refine ⟨_, _, _, hq, h9, ⟨patch G 18 1 g2, f, mRC (put F 0 0 (nI 0)) (rdT t tx (F 0 7) (F 0 8) (F 0 9) (vaK t tx (F 0 7) (F 0 8) (F 0 9))), s, n, B, by omega, (hd.g18.e0 0).fF (mRC_o (by omega)) (mRC_o (by omega)) (mRC_r (by decide)) (mRC_r (by decide)), Wd_p.symm⟩⟩
theorem o_runText {sz : Nat} : OpX sz InvM I_L_runText hh_L_runText I_X3_runText [] := by
  intro k M hk hI
  obtain ⟨G, f, F, s, n, B, hB, hd0, hM⟩ := hI
  obtain ⟨M1, TT⟩ := M
  have hM : M1 = Wd G f F s := hM
  have hd : Dat G f F s TT.1 n B := hd0
  subst hM
  obtain ⟨hS, hJ, h6⟩ := hd.sim
  show CnX k sz I_L_runText hh_L_runText I_X3_runText [] (Wd G f F s, TT)
  obtain ⟨t, ht⟩ := hd.2.2.2.2.2.2.2.2
  obtain ⟨tx, htx⟩ := txt_n ht
  have hT := hd.1
  have h3 := hd.2.2.1
  have hF2 : F 0 2 = nI n := hd.2.2.2.2.1
  have hn : patch G 75 4 (mS F s) 0 3 = nI n := by rw [patch_out (by omega)]; exact hd.2.2.2.1
  have e7 : patch G 75 4 (mS F s) 0 7 = nI t := by rw [patch_out (by omega)]; exact ht.1
  have e17 : ∀ i, i < t → patch G 75 4 (mS F s) 17 i = nI (tx i) := fun i hi => by rw [patch_out (by omega)]; exact (htx i hi).1
  have w7 : Wd G f F s 0 7 = nI t := by
    unfold Wd
    rw [patch_out (by omega)]; exact e7
  have w17 : ∀ i, i < t → Wd G f F s 17 i = nI (tx i) := fun i hi => by
    unfold Wd
    rw [patch_out (by omega)]; exact e17 i hi
  have x128 : ∀ i, i < t → tx i < 128 := fun i hi => (htx i hi).2.2
  have m3 : ∀ i, i < t → F 3 i = nI (tx i) := fun i hi => (htx i hi).2.1
  obtain ⟨g2, hq⟩ := x_err (sz := sz) (W := Wd G f F s) (TT := TT) (l := F 0 7) (x := F 0 8) (y := F 0 9) w7 ht.2.2.1 w17 x128
  have eM : (patch (Wd G f F s) 18 1 (view (Wd G f F s) 18), TT) = (Wd G f F s, TT) := pRv.symm
  have hE := hq
  rw [← eM] at hE
  have hE2 : Does sz I_X2_errorPosition [.ref (sz + 0)] (patch (patch (patch G 75 4 (mS F s)) 1 7 f) 18 1 (view (Wd G f F s) 18), TT) 0 0 (.inl (some (if vaT t tx (F 0 7) (F 0 8) (F 0 9) then -1 else nI (rdT t tx (F 0 7) (F 0 8) (F 0 9) (vaK t tx (F 0 7) (F 0 8) (F 0 9))).2.1))) (patch (patch (patch G 75 4 (mS F s)) 1 7 f) 18 1 g2, TT) := by
    exact hE
  cases hv : vaT t tx (F 0 7) (F 0 8) (F 0 9) with
  | false =>
    rw [hv, if_neg Bool.false_ne_true] at hE2
    have hle : (rdT t tx (F 0 7) (F 0 8) (F 0 9) (vaK t tx (F 0 7) (F 0 8) (F 0 9))).2.1 ≤ t := by
      obtain ⟨Bq, b1, b2, -⟩ := err_all (g := view (Wd G f F s) 18) (L := t) (tx := tx) (l := F 0 7) (x := F 0 8) (y := F 0 9) ht.2.2.1
      rw [b2]; exact b1
    have ht80 := ht.2.2.1
    have h1 := x_runText_1 (sz := sz) (G := patch G 75 4 (mS F s)) (f := f) (g := view (Wd G f F s) 18) (T := TT) hE2 (ni_m1 (by omega))
    have h2 := h_runText_1 h1
    have eM2 : (patch (patch (patch G 75 4 (mS F s)) 1 7 f) 18 1 (view (Wd G f F s) 18), TT) = (Wd G f F s, TT) := eM
    rw [eM2, show patch (patch (patch G 75 4 (mS F s)) 1 7 f) 18 1 g2 = Wd (patch G 18 1 g2) f F s from p18_Wd] at h2
    have h9 := a_runText_1 (sz := sz) (G := patch (patch G 18 1 g2) 1 7 f) (T := TT) (F := F) (s := s) ht.2.1 ht.2.2.1 m3 x128 hv
    rw [← Wd_p] at h9
    refine ⟨nI 1, _, _, _, _, h2, h9, thr_c (put_e rfl rfl), fun e => absurd e (by decide), ⟨patch G 18 1 g2, f, _, s, n, B, by omega, (hd.g18).fF ?_ ?_ ?_ ?_, Wd_p.symm⟩⟩
    · rw [put_o (by omega)]; exact mRC_o (by omega)
    · rw [put_o (by omega)]; exact mRC_o (by omega)
    · rw [put_n (by decide)]; exact mRC_r (by decide)
    · rw [put_n (by decide)]; exact mRC_r (by decide)
  | true =>
    rw [hv, if_pos rfl] at hE2
    obtain ⟨hS', hJ', h6'⟩ := (Dat.keep (TT := TT) hd).sim
    have hr := rmR_ge (T := TT) (m := n) hT
    obtain ⟨K9, KM, q1, q2, q3, q4, q5, q6, q7, q8, q9, q10⟩ := run_all (f0 := f) (g2 := g2) (s0 := kpS s n) (L := t) (B0 := B) (tx := tx) (l := F 0 7) (x := F 0 8) (y := F 0 9) (l' := (fiT F t tx).2.2.1) (x' := (fiT F t tx).2.2.2.1) (y' := (fiT F t tx).2.2.2.2) ht.2.2.1 (by omega) hv hS' hJ' h6'
    have hx : Does sz I_X2_runText [.ref (sz + 0)] (patch (patch (patch G 75 4 (mS F s)) 1 7 f) 18 1 (view (Wd G f F s) 18), TT) 0 0 (.inl (some (nI (ruP t tx f g2 K9).2.2))) (patch (patch (rmG (patch G 75 4 (mS F s)) f TT n) 18 1 (ruP t tx f g2 K9).2.1) 1 7 (ruP t tx f g2 K9).1, rmT TT n) := by
      rcases q4 with e | ⟨e, hcm⟩ | ⟨e, e59, hcm⟩
      · exact x_runText_a e7 ht.2.2.1 e17 x128 hE2 hT h3 hn q1 q3 e
      · exact x_runText_b e7 ht.2.2.1 e17 x128 hE2 hT h3 hn q1 q3 e hcm
      · exact x_runText_c e7 ht.2.2.1 e17 x128 hE2 hT h3 hn q1 q3 e e59 hcm
    have eM2 : (patch (patch (patch G 75 4 (mS F s)) 1 7 f) 18 1 (view (Wd G f F s) 18), TT) = (Wd G f F s, TT) := eM
    rw [eM2, rm75 hr, q8] at hx
    have e18 : patch (patch (rmG G f TT n) 75 4 (mS F s)) 18 1 (ruP t tx f g2 K9).2.1 = patch (patch (rmG G f TT n) 18 1 (ruP t tx f g2 K9).2.1) 75 4 (mS F s) := by
      funext a
      by_cases h : 75 ≤ a ∧ a < 75 + 4
      · rw [patch_out (r := 18) (by omega)]
        unfold patch
        rw [if_pos h, if_pos h]
      · rw [patch_out (r := 75) (w := 4) (g := patch (rmG G f TT n) 18 1 (ruP t tx f g2 K9).2.1) (by omega)]
        by_cases h2 : 18 ≤ a ∧ a < 18 + 1
        · unfold patch; rw [if_pos h2, if_pos h2]
        · rw [patch_out (by omega), patch_out (by omega), patch_out (by omega)]
    rw [e18] at hx
    have h9 := fun G' T' => a_runText (sz := sz) (G := G') (T := T') (F := F) (s := s) ht.2.1 ht.2.2.1 m3 x128 hv h3 hF2 q2 q5 q6 q10
    rw [q7, ite_self] at h9
    refine cn_ok (G' := patch (rmG G f TT n) 18 1 (ruP t tx f g2 K9).2.1) (f' := (ruP t tx f g2 K9).1) (T' := (rmT TT n).1) (n' := kpV n) (B' := B + 82) (F' := mRC (fkT F t tx n) (rd2 t tx (fiT F t tx).2.2.1 (fiT F t tx).2.2.2.1 (fiT F t tx).2.2.2.2 KM)) (s' := sqT t tx (fiT F t tx).2.2.1 (fiT F t tx).2.2.2.1 (fiT F t tx).2.2.2.2 (kpS s n) KM) (h_runText hx) (h9 _ _) ?_ (by omega) ?_
    · rw [mRC_o (by omega)]
      unfold fkT FK
      rw [put_o (by omega), put_e rfl rfl]
    · refine (((Dat.keep (TT := TT) hd).op q9 (by omega)).g18).fF ?_ ?_ ?_ ?_
      · rw [mRC_o (by omega)]
        unfold fkT FK
        rw [put_e rfl rfl, put_e rfl rfl]
      · rw [mRC_o (by omega)]
        unfold fkT FK
        rw [put_o (by omega), put_o (by omega), put_o (by omega), put_o (by omega), mRC_o (by omega)]
      · rw [mRC_r (by decide)]
        unfold fkT FK
        rw [put_n (by decide), put_n (by decide), put_n (by decide), put_n (by decide), mRC_r (by decide)]
      · rw [mRC_r (by decide)]
        unfold fkT FK
        rw [put_n (by decide), put_n (by decide), put_n (by decide), put_n (by decide), mRC_r (by decide)]
