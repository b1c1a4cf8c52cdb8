/-! the undoable operations of the script -/
theorem o_store {sz : Nat} : ∀ x y : Int32, OpX sz InvM I_L_store hh_L_store I_X3_store [.int x, .int y] := by
  intro x y
  intro k M hk hI
  obtain ⟨G, f, F, s, n, B, hB, hd, hM⟩ := hI
  obtain ⟨M1, TT⟩ := M
  have hM : M1 = Wd G f F s := hM
  have hd : Dat G f F s TT.1 n B := hd
  subst hM
  obtain ⟨hS, hJ, h6⟩ := hd.sim
  have hT := hd.1
  have h3 := hd.2.2.1
  have hn : patch G 75 4 (mS F s) 0 3 = nI n := by rw [patch_out (by omega)]; exact hd.2.2.2.1
  have hF2 : F 0 2 = nI n := hd.2.2.2.2.1
  obtain ⟨hS', hJ', h6'⟩ := (Dat.keep (TT := TT) hd).sim
  show CnX k sz I_L_store hh_L_store I_X3_store [.int x, .int y] (Wd G f F s, TT)
  cases hx : isR x 30 with
  | false => exact cn_ref (c := 1) (by omega) hB hd (h_store_1 (x_store_1 hx)) (a_store_1 hx)
  | true =>
    obtain ⟨ex, hp⟩ := isR_n hx (by decide)
    generalize ixN x = p at ex hp
    subst ex
    cases hy : inB y (nI 0) (nI 9999) with
    | false => exact cn_ref (c := 2) (by omega) hB hd (h_store_2 (x_store_2 hp hy)) (a_store_2 hp hy)
    | true =>
      cases hc : caddS f p with
      | false => exact cn_ref (c := 3) (by omega) hB hd (h_store_3 (x_store_3 hp hy hc)) (a_store_3 hp hy ((sim_cadd hS hp).symm.trans hc))
      | true =>
        have hop := op_store (v := y) (M := 1000000) (by decide) (by omega) hS' hJ' hp ((sim_cadd hS' hp).symm.trans hc)
        refine cn_un (x_store hp hy hc hT h3 hn) (fun M M' h => h_store h) (fun G T => ?_) hd hB (hop.1.mono (by omega))
        have h9 := a_store (sz := sz) (G := G) (T := T) (F := F) (s := s) hp hy ((sim_cadd hS hp).symm.trans hc) h3 hF2
        rw [hop.2]
        exact h9
theorem o_write {sz : Nat} : ∀ x y : Int32, OpX sz InvM I_L_write hh_L_write I_X3_write [.int x, .int y] := by
  intro x y
  intro k M hk hI
  obtain ⟨G, f, F, s, n, B, hB, hd, hM⟩ := hI
  obtain ⟨M1, TT⟩ := M
  have hM : M1 = Wd G f F s := hM
  have hd : Dat G f F s TT.1 n B := hd
  subst hM
  obtain ⟨hS, hJ, h6⟩ := hd.sim
  have hT := hd.1
  have h3 := hd.2.2.1
  have hn : patch G 75 4 (mS F s) 0 3 = nI n := by rw [patch_out (by omega)]; exact hd.2.2.2.1
  have hF2 : F 0 2 = nI n := hd.2.2.2.2.1
  obtain ⟨hS', hJ', h6'⟩ := (Dat.keep (TT := TT) hd).sim
  show CnX k sz I_L_write hh_L_write I_X3_write [.int x, .int y] (Wd G f F s, TT)
  cases hx : isR x 30 with
  | false => exact cn_ref (c := 1) (by omega) hB hd (h_write_1 (x_write_1 hx)) (a_write_1 hx)
  | true =>
    obtain ⟨ex, hp⟩ := isR_n hx (by decide)
    generalize ixN x = p at ex hp
    subst ex
    cases hy : inB y (nI 0) (nI 9999) with
    | false => exact cn_ref (c := 2) (by omega) hB hd (h_write_2 (x_write_2 hp hy)) (a_write_2 hp hy)
    | true =>
      cases hc : reS f p with
      | false => exact cn_ref (c := 3) (by omega) hB hd (h_write_3 (x_write_3 hp hy hc)) (a_write_3 hp hy ((sim_re hS hJ.2.1 hp).symm.trans hc))
      | true =>
        have hop := op_write (v := y) (M := 1000000) (by decide) (by omega) hS' hJ' hp ((sim_re hS' hJ'.2.1 hp).symm.trans hc)
        refine cn_un (x_write hp hy hc hT h3 hn) (fun M M' h => h_write h) (fun G T => ?_) hd hB (hop.1.mono (by omega))
        have h9 := a_write (sz := sz) (G := G) (T := T) (F := F) (s := s) hp hy ((sim_re hS hJ.2.1 hp).symm.trans hc) h3 hF2
        rw [hop.2]
        exact h9
theorem o_remove {sz : Nat} : ∀ x : Int32, OpX sz InvM I_L_remove hh_L_remove I_X3_remove [.int x] := by
  intro x
  intro k M hk hI
  obtain ⟨G, f, F, s, n, B, hB, hd, hM⟩ := hI
  obtain ⟨M1, TT⟩ := M
  have hM : M1 = Wd G f F s := hM
  have hd : Dat G f F s TT.1 n B := hd
  subst hM
  obtain ⟨hS, hJ, h6⟩ := hd.sim
  have hT := hd.1
  have h3 := hd.2.2.1
  have hn : patch G 75 4 (mS F s) 0 3 = nI n := by rw [patch_out (by omega)]; exact hd.2.2.2.1
  have hF2 : F 0 2 = nI n := hd.2.2.2.2.1
  obtain ⟨hS', hJ', h6'⟩ := (Dat.keep (TT := TT) hd).sim
  show CnX k sz I_L_remove hh_L_remove I_X3_remove [.int x] (Wd G f F s, TT)
  cases hx : isR x 30 with
  | false => exact cn_ref (c := 1) (by omega) hB hd (h_remove_1 (x_remove_1 hx)) (a_remove_1 hx)
  | true =>
    obtain ⟨ex, hp⟩ := isR_n hx (by decide)
    generalize ixN x = p at ex hp
    subst ex
    cases hc : exS f p with
    | false => exact cn_ref (c := 2) (by omega) hB hd (h_remove_2 (x_remove_3 hp hc)) (a_remove_2 hp ((sim_ex hS hp).symm.trans hc))
    | true =>
      have hop := op_remove (M := 1000000) (by decide) hS' hJ' hp ((sim_ex hS' hp).symm.trans hc)
      refine cn_un (x_remove hp hc hT h3 hn) (fun M M' h => h_remove h) (fun G T => ?_) hd hB (hop.1.mono (by omega))
      have h9 := a_remove (sz := sz) (G := G) (T := T) (F := F) (s := s) hp ((sim_ex hS hp).symm.trans hc) h3 hF2
      rw [hop.2]
      exact h9
theorem o_lend {sz : Nat} : ∀ x y : Int32, OpX sz InvM I_L_lend hh_L_lend I_X3_lend [.int x, .int y] := by
  intro x y
  intro k M hk hI
  obtain ⟨G, f, F, s, n, B, hB, hd, hM⟩ := hI
  obtain ⟨M1, TT⟩ := M
  have hM : M1 = Wd G f F s := hM
  have hd : Dat G f F s TT.1 n B := hd
  subst hM
  obtain ⟨hS, hJ, h6⟩ := hd.sim
  have hT := hd.1
  have h3 := hd.2.2.1
  have hn : patch G 75 4 (mS F s) 0 3 = nI n := by rw [patch_out (by omega)]; exact hd.2.2.2.1
  have hF2 : F 0 2 = nI n := hd.2.2.2.2.1
  obtain ⟨hS', hJ', h6'⟩ := (Dat.keep (TT := TT) hd).sim
  show CnX k sz I_L_lend hh_L_lend I_X3_lend [.int x, .int y] (Wd G f F s, TT)
  cases hx : isR x 6 with
  | false => exact cn_ref (c := 1) (by omega) hB hd (h_lend_1 (x_lend_1 hx)) (a_lend_1 hx)
  | true =>
    obtain ⟨ex, hh⟩ := isR_n hx (by decide)
    generalize ixN x = h at ex hh
    subst ex
    cases hy : inB y (nI 1) (nI 20) with
    | false => exact cn_ref (c := 2) (by omega) hB hd (h_lend_2 (x_lend_2 hh hy)) (a_lend_2 hh hy)
    | true =>
      cases hc : cbegS f h with
      | false => exact cn_ref (c := 3) (by omega) hB hd (h_lend_3 (x_lend_3 hh hy hc)) (a_lend_3 hh hy ((sim_cbeg hS hh).symm.trans hc))
      | true =>
        obtain ⟨o1, o2, o3⟩ := op_lend (y := y) (M := 1000000) (by decide) hS' hJ' hh ((sim_cbeg hS' hh).symm.trans hc) (inB_nI hy (by decide) (by decide))
        refine cn_un (x_lend hh hy hc hT h3 hn) (fun M M' h => h_lend h) (fun G T => ?_) hd hB (o1.mono (by omega))
        have h9 := a_lend (sz := sz) (G := G) (T := T) (F := F) (s := s) hh hy ((sim_cbeg hS hh).symm.trans hc) h3 hF2
        rw [(sum_le o2 o3 6 (Nat.le_refl 6)).1]
        exact h9
theorem o_recall {sz : Nat} : ∀ x y : Int32, OpX sz InvM I_L_recall hh_L_recall I_X3_recall [.int x, .int y] := by
  intro x y
  intro k M hk hI
  obtain ⟨G, f, F, s, n, B, hB, hd, hM⟩ := hI
  obtain ⟨M1, TT⟩ := M
  have hM : M1 = Wd G f F s := hM
  have hd : Dat G f F s TT.1 n B := hd
  subst hM
  obtain ⟨hS, hJ, h6⟩ := hd.sim
  have hT := hd.1
  have h3 := hd.2.2.1
  have hn : patch G 75 4 (mS F s) 0 3 = nI n := by rw [patch_out (by omega)]; exact hd.2.2.2.1
  have hF2 : F 0 2 = nI n := hd.2.2.2.2.1
  obtain ⟨hS', hJ', h6'⟩ := (Dat.keep (TT := TT) hd).sim
  show CnX k sz I_L_recall hh_L_recall I_X3_recall [.int x, .int y] (Wd G f F s, TT)
  cases hx : isR x 6 with
  | false => exact cn_ref (c := 1) (by omega) hB hd (h_recall_1 (x_recall_1 hx)) (a_recall_1 hx)
  | true =>
    obtain ⟨ex, hh⟩ := isR_n hx (by decide)
    generalize ixN x = h at ex hh
    subst ex
    cases hy : inB y (nI 1) (nI 600) with
    | false => exact cn_ref (c := 2) (by omega) hB hd (h_recall_2 (x_recall_2 hh hy)) (a_recall_2 hh hy)
    | true =>
      cases hc : opS f h with
      | false => exact cn_ref (c := 3) (by omega) hB hd (h_recall_3 (x_recall_3 hh hy hc)) (a_recall_3 hh hy ((sim_opn hS hh).symm.trans hc))
      | true =>
        obtain ⟨q, q1, q2, rfl⟩ := inB_nI hy (by decide) (by decide)
        have hop := op_recall (M := 1000000) (by decide) hS' hJ' hh ((sim_opn hS' hh).symm.trans hc) ⟨q1, q2⟩
        refine cn_un (x_recall hh hy hc hT h3 hn) (fun M M' h => h_recall h) (fun G T => ?_) hd hB (hop.1.mono (by omega))
        have h9 := a_recall (sz := sz) (G := G) (T := T) (F := F) (s := s) hh hy ((sim_opn hS hh).symm.trans hc) h3 hF2
        rw [hop.2]
        exact h9
theorem o_disconnect {sz : Nat} : ∀ x : Int32, OpX sz InvM I_L_disconnect hh_L_disconnect I_X3_disconnect [.int x] := by
  intro x
  intro k M hk hI
  obtain ⟨G, f, F, s, n, B, hB, hd, hM⟩ := hI
  obtain ⟨M1, TT⟩ := M
  have hM : M1 = Wd G f F s := hM
  have hd : Dat G f F s TT.1 n B := hd
  subst hM
  obtain ⟨hS, hJ, h6⟩ := hd.sim
  have hT := hd.1
  have h3 := hd.2.2.1
  have hn : patch G 75 4 (mS F s) 0 3 = nI n := by rw [patch_out (by omega)]; exact hd.2.2.2.1
  have hF2 : F 0 2 = nI n := hd.2.2.2.2.1
  obtain ⟨hS', hJ', h6'⟩ := (Dat.keep (TT := TT) hd).sim
  show CnX k sz I_L_disconnect hh_L_disconnect I_X3_disconnect [.int x] (Wd G f F s, TT)
  cases hx : isR x 6 with
  | false => exact cn_ref (c := 1) (by omega) hB hd (h_disconnect_1 (x_disconnect_1 hx)) (a_disconnect_1 hx)
  | true =>
    obtain ⟨ex, hh⟩ := isR_n hx (by decide)
    generalize ixN x = h at ex hh
    subst ex
    cases hc : cdetS f h with
    | false => exact cn_ref (c := 2) (by omega) hB hd (h_disconnect_2 (x_disconnect_3 hh hc)) (a_disconnect_2 hh ((sim_cdet hS hh).symm.trans hc))
    | true =>
      have hop := op_disc (M := 1000000) (by decide) hS' hJ' hh ((sim_cdet hS' hh).symm.trans hc)
      refine cn_un (x_disconnect hh hc hT h3 hn) (fun M M' h => h_disconnect h) (fun G T => ?_) hd hB (hop.1.mono (by omega))
      have h9 := a_disconnect (sz := sz) (G := G) (T := T) (F := F) (s := s) hh ((sim_cdet hS hh).symm.trans hc) h3 hF2
      rw [hop.2]
      exact h9
theorem o_reconnect {sz : Nat} : ∀ x : Int32, OpX sz InvM I_L_reconnect hh_L_reconnect I_X3_reconnect [.int x] := by
  intro x
  intro k M hk hI
  obtain ⟨G, f, F, s, n, B, hB, hd, hM⟩ := hI
  obtain ⟨M1, TT⟩ := M
  have hM : M1 = Wd G f F s := hM
  have hd : Dat G f F s TT.1 n B := hd
  subst hM
  obtain ⟨hS, hJ, h6⟩ := hd.sim
  have hT := hd.1
  have h3 := hd.2.2.1
  have hn : patch G 75 4 (mS F s) 0 3 = nI n := by rw [patch_out (by omega)]; exact hd.2.2.2.1
  have hF2 : F 0 2 = nI n := hd.2.2.2.2.1
  obtain ⟨hS', hJ', h6'⟩ := (Dat.keep (TT := TT) hd).sim
  show CnX k sz I_L_reconnect hh_L_reconnect I_X3_reconnect [.int x] (Wd G f F s, TT)
  cases hx : isR x 6 with
  | false => exact cn_ref (c := 1) (by omega) hB hd (h_reconnect_1 (x_reconnect_1 hx)) (a_reconnect_1 hx)
  | true =>
    obtain ⟨ex, hh⟩ := isR_n hx (by decide)
    generalize ixN x = h at ex hh
    subst ex
    have ec := sim_catt hS hh
    have ec' := sim_catt hS' hh
    cases hc : cattS f h with
    | false =>
      rw [hc] at ec
      have hm : ofM s 0 h 1 = nI 1 := by
        refine Classical.byContradiction fun z => ?_
        rw [decide_eq_false z] at ec; cases ec
      exact cn_ref (c := 2) (by omega) hB hd (h_reconnect_2 (x_reconnect_3 hh hc)) (a_reconnect_2 hh hm)
    | true =>
      rw [hc] at ec ec'
      have hm : ¬ ofM s 0 h 1 = nI 1 := fun z => by rw [decide_eq_true z] at ec; cases ec
      have hm' : ¬ ofM (kpS s n) 0 h 1 = nI 1 := fun z => by rw [decide_eq_true z] at ec'; cases ec'
      have hop := op_recon (M := 1000000) (by decide) hS' hJ' hh hm'
      refine cn_un (x_reconnect hh hc hT h3 hn) (fun M M' h => h_reconnect h) (fun G T => ?_) hd hB (hop.1.mono (by omega))
      have h9 := a_reconnect (sz := sz) (G := G) (T := T) (F := F) (s := s) hh hm h3 hF2
      rw [hop.2]
      exact h9
theorem o_crash {sz : Nat} : ∀ x : Int32, OpX sz InvM I_L_crash hh_L_crash I_X3_crash [.int x] := by
  intro x
  intro k M hk hI
  obtain ⟨G, f, F, s, n, B, hB, hd, hM⟩ := hI
  obtain ⟨M1, TT⟩ := M
  have hM : M1 = Wd G f F s := hM
  have hd : Dat G f F s TT.1 n B := hd
  subst hM
  obtain ⟨hS, hJ, h6⟩ := hd.sim
  have hT := hd.1
  have h3 := hd.2.2.1
  have hn : patch G 75 4 (mS F s) 0 3 = nI n := by rw [patch_out (by omega)]; exact hd.2.2.2.1
  have hF2 : F 0 2 = nI n := hd.2.2.2.2.1
  obtain ⟨hS', hJ', h6'⟩ := (Dat.keep (TT := TT) hd).sim
  show CnX k sz I_L_crash hh_L_crash I_X3_crash [.int x] (Wd G f F s, TT)
  cases hx : isR x 6 with
  | false => exact cn_ref (c := 1) (by omega) hB hd (h_crash_1 (x_crash_1 hx)) (a_crash_1 hx)
  | true =>
    obtain ⟨ex, hh⟩ := isR_n hx (by decide)
    generalize ixN x = h at ex hh
    subst ex
    have ec := sim_cbrk hS hh
    cases hc : cbrkS f h with
    | false =>
      rw [hc] at ec
      have hm : ofM s 0 h 0 = 0 := by
        refine Classical.byContradiction fun z => ?_
        rw [decide_eq_true z] at ec; cases ec
      exact cn_ref (c := 2) (by omega) hB hd (h_crash_2 (x_crash_3 hh hc)) (a_crash_2 hh hm)
    | true =>
      rw [hc] at ec
      have hm : ¬ ofM s 0 h 0 = 0 := fun z => by rw [dnn z] at ec; cases ec
      have hop := op_crash (h := h) (M := 1000000) (by decide) hS' hJ' hh
      refine cn_un (x_crash hh hc hT h3 hn) (fun M M' h => h_crash h) (fun G T => ?_) hd hB (hop.mono (by omega))
      have h9 := a_crash (sz := sz) (G := G) (T := T) (F := F) (s := s) hh hm h3 hF2
      rw [sim_hd hS' hh]
      exact h9
theorem o_pass {sz : Nat} : ∀ x : Int32, OpX sz InvM I_L_pass hh_L_pass I_X3_pass [.int x] := by
  intro x
  intro k M hk hI
  obtain ⟨G, f, F, s, n, B, hB, hd, hM⟩ := hI
  obtain ⟨M1, TT⟩ := M
  have hM : M1 = Wd G f F s := hM
  have hd : Dat G f F s TT.1 n B := hd
  subst hM
  obtain ⟨hS, hJ, h6⟩ := hd.sim
  have hT := hd.1
  have h3 := hd.2.2.1
  have hn : patch G 75 4 (mS F s) 0 3 = nI n := by rw [patch_out (by omega)]; exact hd.2.2.2.1
  have hF2 : F 0 2 = nI n := hd.2.2.2.2.1
  obtain ⟨hS', hJ', h6'⟩ := (Dat.keep (TT := TT) hd).sim
  show CnX k sz I_L_pass hh_L_pass I_X3_pass [.int x] (Wd G f F s, TT)
  cases hx : inB x (nI 1) (nI 600) with
  | false => exact cn_ref (c := 1) (by omega) hB hd (h_pass_1 (x_pass_1 hx)) (a_pass_1 hx)
  | true =>
    obtain ⟨q, q1, q2, rfl⟩ := inB_nI hx (by decide) (by decide)
    obtain ⟨t, l, t1, t2, -⟩ := hJ.t
    obtain ⟨t', l', t1', t2', -⟩ := hJ'.t
    have b := adv_iff (k := q) hS t2 t1 q2
    have b' := adv_iff (k := q) hS' t2' t1' q2
    cases hc : cadvS f (nI q) with
    | false =>
      have hm : ¬ s 0 + nI q ≤ nI 1000000 := fun z => by rw [b.1.mpr (b.2.1.mp z)] at hc; cases hc
      exact cn_ref (c := 2) (by omega) hB hd (h_pass_2 (x_pass_2 hx hc)) (a_pass_2 hx hm)
    | true =>
      have hm : s 0 + nI q ≤ nI 1000000 := b.2.1.mpr (b.1.mp hc)
      obtain ⟨o1, o2, o3⟩ := op_pass (k := q) (M := 1000000) (by decide) hS' hJ' h6' t2' (b'.1.mp hc)
      refine cn_un (x_pass q2 hx hc hT h3 hn) (fun M M' h => h_pass h) (fun G T => ?_) hd hB (o1.mono (by omega))
      have h9 := a_pass (sz := sz) (G := G) (T := T) (F := F) (s := s) q2 hx hm h3 hF2 o2
      have e1 : avG (f 0 8 + nI q) q f 0 10 = spL (kpS s n) 0 q 3 := o1.1.a.1.2.2.1
      have e2 : f 0 10 = kpS s n 3 := hS'.a.1.2.2.1
      rw [e1, e2]
      exact h9
theorem o_setTransferTime {sz : Nat} : ∀ x : Int32, OpX sz InvM I_L_setTransferTime hh_L_setTransferTime I_X3_setTransferTime [.int x] := by
  intro x
  intro k M hk hI
  obtain ⟨G, f, F, s, n, B, hB, hd, hM⟩ := hI
  obtain ⟨M1, TT⟩ := M
  have hM : M1 = Wd G f F s := hM
  have hd : Dat G f F s TT.1 n B := hd
  subst hM
  obtain ⟨hS, hJ, h6⟩ := hd.sim
  have hT := hd.1
  have h3 := hd.2.2.1
  have hn : patch G 75 4 (mS F s) 0 3 = nI n := by rw [patch_out (by omega)]; exact hd.2.2.2.1
  have hF2 : F 0 2 = nI n := hd.2.2.2.2.1
  obtain ⟨hS', hJ', h6'⟩ := (Dat.keep (TT := TT) hd).sim
  show CnX k sz I_L_setTransferTime hh_L_setTransferTime I_X3_setTransferTime [.int x] (Wd G f F s, TT)
  cases hx : inB x (nI 1) (nI 60) with
  | false => exact cn_ref (c := 1) (by omega) hB hd (h_setTransferTime_1 (x_setTransferTime_1 hx)) (a_setTransferTime_1 hx)
  | true =>
    obtain ⟨q, q1, q2, rfl⟩ := inB_nI hx (by decide) (by decide)
    have hop := op_stt (M := 1000000) hS' hJ' h6' ⟨q1, q2⟩
    refine cn_un (x_setTransferTime hx hT h3 hn) (fun M M' h => h_setTransferTime h) (fun G T => ?_) hd hB (hop.mono (by omega))
    have h9 := a_setTransferTime (sz := sz) (G := G) (T := T) (F := F) (s := s) hx h3 hF2
    have e : f 0 9 = kpS s n 2 := hS'.a.1.2.1
    rw [e]
    exact h9
theorem o_restore {sz : Nat} : ∀ x : Int32, OpX sz InvM I_L_restore hh_L_restore I_X3_restore [.int x] := by
  intro x
  intro k M hk hI
  obtain ⟨G, f, F, s, n, B, hB, hd, hM⟩ := hI
  obtain ⟨M1, TT⟩ := M
  have hM : M1 = Wd G f F s := hM
  have hd : Dat G f F s TT.1 n B := hd
  subst hM
  obtain ⟨hS, hJ, h6⟩ := hd.sim
  have hT := hd.1
  have h3 := hd.2.2.1
  have hn : patch G 75 4 (mS F s) 0 3 = nI n := by rw [patch_out (by omega)]; exact hd.2.2.2.1
  have hF2 : F 0 2 = nI n := hd.2.2.2.2.1
  obtain ⟨hS', hJ', h6'⟩ := (Dat.keep (TT := TT) hd).sim
  show CnX k sz I_L_restore hh_L_restore I_X3_restore [.int x] (Wd G f F s, TT)
  have e2 : inB x (nI 0) (nI 1) = isR x 2 := isR_in (n := 2) (by decide) (by decide)
  cases hx : isR x 2 with
  | false => exact cn_ref (c := 1) (by omega) hB hd (h_restore_1 (x_restore_1 hx)) (a_restore_1 (e2.trans hx))
  | true =>
    have hx2 := e2.trans hx
    obtain ⟨ex, hc⟩ := isR_n hx (by decide)
    generalize ixN x = c at ex hc
    subst ex
    have hsl := hd.2.2.2.2.2.2.2.1 c hc
    have e5 : patch G 75 4 (mS F s) 0 5 = G 0 5 := by rw [patch_out (by omega)]
    cases hb : tb (G 0 5) (nI c) with
    | false =>
      rcases hsl with ⟨a, -⟩ | ⟨-, a⟩
      · rw [hb] at a; cases a
      · exact cn_ref (c := 2) (by omega) hB hd (h_restore_2 (x_restore_2 hc (by rw [e5]; exact hb))) (a_restore_2 hc hx2 a)
    | true =>
      rcases hsl with ⟨-, a, -⟩ | ⟨a, -⟩
      · have hk2 := (Dat.keep (TT := TT) hd).2.2.2.2.2.2.2.1 c hc
        have hFK : FK F n 2 = F 2 := by unfold FK; rw [put_n (by omega), put_n (by omega)]
        rcases hk2 with ⟨-, -, hbk⟩ | ⟨-, a2⟩
        · have hr := rmR_ge (T := TT) (m := n) hT
          have hbk2 : Bk (view (rmG (patch G 75 4 (mS F s)) f TT n) (61 + 7 * c)) (crM (kpS s n) (7 + c) 0) 0 B := by
            refine hbk.cg (fun r hr7 => ?_) (fun j hj => ?_) (Nat.le_refl _)
            · rw [rm75 hr]
              unfold view
              exact patch_out (by omega)
            · rw [cr_blk (by omega) hj, if_pos rfl]
          have hop : OpA (view (rmG (patch G 75 4 (mS F s)) f TT n) (61 + 7 * c)) (crM (kpS s n) (7 + c) 0) (kpS s n) B 1000000 := by
            refine ⟨hbk2.1, hbk2.2.1, hbk2.2.2, fun i hi => ?_⟩
            have hi2 : i = 272 * (i / 272) + i % 272 := by omega
            rw [hi2, cr_blk (by omega) (Nat.mod_lt _ (by decide)), if_neg (by omega)]
          refine cn_un (x_restore hc (by rw [e5]; exact hb) hT h3 hn) (fun M M' h => h_restore h) (fun G' T' => ?_) hd hB (hop.mono (by omega))
          have h9 := a_restore (sz := sz) (G := G') (T := T') (F := F) (s := s) hc hx2 a h3 hF2
          have e : view (rmG (patch G 75 4 (mS F s)) f TT n) (61 + 7 * c) 0 8 = crM (kpS s n) (7 + c) 0 0 := hop.1.a.1.1
          rw [e]
          exact h9
        · rw [hFK] at a2; exact absurd a2 a
      · rw [hb] at a; cases a
