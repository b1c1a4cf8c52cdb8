section
variable {sz r : Nat} {G : Nat → Nat → Int32} {T : (Nat → Nat) × Int64} {f : SV}
set_option maxRecDepth 20000 in
set_option maxHeartbeats 2000000 in
theorem x_undo (hT : ∀ i, i < 6 → isV (T.1 i)) {m : Nat} (hm : m < 6) (hn : G 0 3 = nI (m + 1)) : Does sz I_X2_undo [.ref (sz + 0)] (patch G 1 7 f, T) 0 0 (.inl (some (nI m))) (patch (put G 0 3 (nI m)) 1 7 (view G (T.1 m)), T) := by
  refine Does.of (L := [(0, .ref (sz + 0))]) (by decide +kernel) (Nat.le_of_ble_eq_true rfl) rfl ⟨rfl, (by simp), trivial⟩ (fun VV hF => ?_)
  have hX := hF.c
  have hV := isV_B (hT m hm)
  refine ro_aload_n (i := 0) (q := 1) hX dX2_undo_0 rfl rfl rfl ?_
  refine ro_Pgi (j := 3) (q9 := 4) (by decide) hX kf_X2_23 dX2_undo_1 rfl ?_
  refine vv_top (y := (nI (m + 1))) (hn) ?_
  refine ro_if_le (tgt := 11) (q := 7) hX dX2_undo_4 (by decide) rfl (fun q => absurd q (fun q => absurd (ni_le0 (by omega) |>.mp q) (by omega))) (fun _ => ?_)
  refine ro_iconst (v := nI 1) (q := 8) hX dX2_undo_7 rfl rfl ?_
  refine ro_goto (tgt := 12) hX dX2_undo_8 (by decide) ?_
  refine ro_callSv (q9 := 15) hX (p_reqState_t (b := true) rfl) mw_X2_requireState kl_X2_59 rfl rfl (Nat.le_of_ble_eq_true rfl) ⟨Nat.le_of_ble_eq_true rfl, Nat.le_of_ble_eq_true rfl⟩ dX2_undo_12 ⟨Nat.le_of_ble_eq_true rfl, Nat.le_of_ble_eq_true rfl⟩ rfl ?_
  refine ro_aload_n (i := 0) (q := 16) hX dX2_undo_15 rfl rfl rfl ?_
  refine ro_dup (q := 17) hX dX2_undo_16 rfl rfl ?_
  refine ro_Pgi (j := 3) (q9 := 20) (by decide) hX kf_X2_23 dX2_undo_17 rfl ?_
  refine vv_top (y := (nI (m + 1))) (hn) ?_
  refine ro_iconst (v := nI 1) (q := 21) hX dX2_undo_20 rfl rfl ?_
  refine ro_isub (q := 22) hX dX2_undo_21 rfl ?_
  refine vv_top (y := (nI m)) (nI_pred m) ?_
  refine ro_Ppi (j := 3) (q9 := 25) (ty := .int) (by decide) hX rfl rfl rfl kf_X2_23 dX2_undo_22 rfl ?_
  refine vv_LM rfl (mP (Or.inl (by decide))) ?_
  refine ro_aload_n (i := 0) (q := 26) hX dX2_undo_25 rfl rfl rfl ?_
  refine ro_Pga2 (q9 := 29) hX kf_X2_19 dX2_undo_26 rfl ?_
  refine ro_aload_n (i := 0) (q := 30) hX dX2_undo_29 rfl rfl rfl ?_
  refine ro_Pgi (j := 3) (q9 := 33) (by decide) hX kf_X2_23 dX2_undo_30 rfl ?_
  refine vv_top (y := (nI m)) (rfl) ?_
  refine ro_aald (n := m) (q9 := 34) hX rfl (by omega) dX2_undo_33 rfl ?_
  refine ro_aload_n (i := 0) (q := 35) hX dX2_undo_34 rfl rfl rfl ?_
  refine ro_Pga0 (q9 := 38) hX kf_X2_12 dX2_undo_35 rfl ?_
  refine ro_callSv (q9 := 41) hX (s_copy hV.1 (by unfold isB; decide) (by omega)) mw_X1_copy kl_X2_158 rfl rfl (Nat.le_of_ble_eq_true rfl) ⟨Nat.le_of_ble_eq_true rfl, Nat.le_of_ble_eq_true rfl⟩ dX2_undo_38 ⟨Nat.le_of_ble_eq_true rfl, Nat.le_of_ble_eq_true rfl⟩ rfl ?_
  refine vv_LM rfl (mU (by omega)) ?_
  refine ro_aload_n (i := 0) (q := 42) hX dX2_undo_41 rfl rfl rfl ?_
  refine ro_Pgi (j := 3) (q9 := 45) (by decide) hX kf_X2_23 dX2_undo_42 rfl ?_
  refine vv_top (y := (nI m)) (rfl) ?_
  exact fin_i hF (Nat.le_of_ble_eq_true rfl) (Nat.le_of_ble_eq_true rfl) dX2_undo_45 (by rfl) (by rw [view_put (by omega)])
set_option maxRecDepth 20000 in
set_option maxHeartbeats 2000000 in
theorem x_save {c : Nat} (hc : c < 2) : Does sz I_X2_save [.ref (sz + 0), .int (nI c)] (patch G 1 7 f, T) 0 0 (.inl (some (f 0 8))) (patch (put (patch G (61 + 7 * c) 7 f) 0 5 (G 0 5 ||| (nI 1 <<< (nI c &&& 31)))) 1 7 f, T) := by
  refine Does.of (L := [(0, .ref (sz + 0)), (1, .int (nI c))]) (by decide +kernel) (Nat.le_of_ble_eq_true rfl) rfl ⟨rfl, (by simp), ⟨rfl, (by simp), trivial⟩⟩ (fun VV hF => ?_)
  have hX := hF.c
  refine ro_iload_n (i := 1) (q := 1) hX dX2_save_0 rfl rfl rfl ?_
  refine ro_iconst (v := nI 2) (q := 2) hX dX2_save_1 rfl rfl ?_
  refine ro_callSv (q9 := 5) hX (p_reqIndex_t (isR_t hc (by decide))) mw_X2_requireIndex kl_X2_162 rfl rfl (Nat.le_of_ble_eq_true rfl) ⟨Nat.le_of_ble_eq_true rfl, Nat.le_of_ble_eq_true rfl⟩ dX2_save_2 ⟨Nat.le_of_ble_eq_true rfl, Nat.le_of_ble_eq_true rfl⟩ rfl ?_
  refine ro_aload_n (i := 0) (q := 6) hX dX2_save_5 rfl rfl rfl ?_
  refine ro_Pga0 (q9 := 9) hX kf_X2_12 dX2_save_6 rfl ?_
  refine ro_aload_n (i := 0) (q := 10) hX dX2_save_9 rfl rfl rfl ?_
  refine ro_Pga4 (q9 := 13) hX kf_X2_27 dX2_save_10 rfl ?_
  refine ro_iload_n (i := 1) (q := 14) hX dX2_save_13 rfl rfl rfl ?_
  refine ro_aald2 (n := c) (q9 := 15) hX rfl (by omega) dX2_save_14 rfl ?_
  refine ro_callSv (q9 := 18) hX (s_copy (by unfold isB; decide) (isB_sl hc) (by omega)) mw_X1_copy kl_X2_158 rfl rfl (Nat.le_of_ble_eq_true rfl) ⟨Nat.le_of_ble_eq_true rfl, Nat.le_of_ble_eq_true rfl⟩ dX2_save_15 ⟨Nat.le_of_ble_eq_true rfl, Nat.le_of_ble_eq_true rfl⟩ rfl ?_
  refine vv_LM rfl (mV (by omega)) ?_
  refine ro_aload_n (i := 0) (q := 19) hX dX2_save_18 rfl rfl rfl ?_
  refine ro_dup (q := 20) hX dX2_save_19 rfl rfl ?_
  refine ro_Pgi (j := 5) (q9 := 23) (by decide) hX kf_X2_30 dX2_save_20 rfl ?_
  refine vv_top (y := (G 0 5)) (sl_0 (by omega)) ?_
  refine ro_iconst (v := nI 1) (q := 24) hX dX2_save_23 rfl rfl ?_
  refine ro_iload_n (i := 1) (q := 25) hX dX2_save_24 rfl rfl rfl ?_
  refine ro_ishl (q := 26) hX dX2_save_25 rfl ?_
  refine ro_ior (q := 27) hX dX2_save_26 rfl ?_
  refine ro_Ppi (j := 5) (q9 := 30) (ty := .int) (by decide) hX rfl rfl rfl kf_X2_30 dX2_save_27 rfl ?_
  refine vv_LM rfl (mP (Or.inl (by decide))) ?_
  refine ro_aload_n (i := 0) (q := 31) hX dX2_save_30 rfl rfl rfl ?_
  refine ro_Pga0 (q9 := 34) hX kf_X2_12 dX2_save_31 rfl ?_
  refine ro_Sgi (j := 8) (q9 := 37) ⟨by decide, by decide⟩ hX (by unfold isB; decide) kf_X2_166 dX2_save_34 rfl ?_
  exact fin_i hF (Nat.le_of_ble_eq_true rfl) (Nat.le_of_ble_eq_true rfl) dX2_save_37 (by rfl) (by rfl)
set_option maxRecDepth 20000 in
set_option maxHeartbeats 2000000 in
theorem x_restore {c : Nat} (hc : c < 2) (hb : tb (G 0 5) (nI c) = true) (hT : ∀ i, i < 6 → isV (T.1 i)) {m : Nat} (hm : m ≤ 6) (hn : G 0 3 = nI m) : Does sz I_X2_restore [.ref (sz + 0), .int (nI c)] (patch G 1 7 f, T) 0 0 (.inl (some (view (rmG G f T m) (61 + 7 * c) 0 8))) (patch (rmG G f T m) 1 7 (view (rmG G f T m) (61 + 7 * c)), rmT T m) := by
  refine Does.of (L := [(0, .ref (sz + 0)), (1, .int (nI c))]) (by decide +kernel) (Nat.le_of_ble_eq_true rfl) rfl ⟨rfl, (by simp), ⟨rfl, (by simp), trivial⟩⟩ (fun VV hF => ?_)
  have hX := hF.c
  refine ro_iload_n (i := 1) (q := 1) hX dX2_restore_0 rfl rfl rfl ?_
  refine ro_iconst (v := nI 2) (q := 2) hX dX2_restore_1 rfl rfl ?_
  refine ro_callSv (q9 := 5) hX (p_reqIndex_t (isR_t hc (by decide))) mw_X2_requireIndex kl_X2_162 rfl rfl (Nat.le_of_ble_eq_true rfl) ⟨Nat.le_of_ble_eq_true rfl, Nat.le_of_ble_eq_true rfl⟩ dX2_restore_2 ⟨Nat.le_of_ble_eq_true rfl, Nat.le_of_ble_eq_true rfl⟩ rfl ?_
  refine ro_aload_n (i := 0) (q := 6) hX dX2_restore_5 rfl rfl rfl ?_
  refine ro_Pgi (j := 5) (q9 := 9) (by decide) hX kf_X2_30 dX2_restore_6 rfl ?_
  refine ro_iload_n (i := 1) (q := 10) hX dX2_restore_9 rfl rfl rfl ?_
  refine ro_callSi (q9 := 13) hX (s_has) mw_X2_has kl_X2_169 rfl rfl (Nat.le_of_ble_eq_true rfl) ⟨Nat.le_of_ble_eq_true rfl, Nat.le_of_ble_eq_true rfl⟩ dX2_restore_10 ⟨Nat.le_of_ble_eq_true rfl, Nat.le_of_ble_eq_true rfl⟩ rfl ?_
  refine ro_callSv (q9 := 16) hX (p_reqState_t hb) mw_X2_requireState kl_X2_59 rfl rfl (Nat.le_of_ble_eq_true rfl) ⟨Nat.le_of_ble_eq_true rfl, Nat.le_of_ble_eq_true rfl⟩ dX2_restore_13 ⟨Nat.le_of_ble_eq_true rfl, Nat.le_of_ble_eq_true rfl⟩ rfl ?_
  refine ro_aload_n (i := 0) (q := 17) hX dX2_restore_16 rfl rfl rfl ?_
  refine ro_callVv (q9 := 20) hX (p_remember hT hm hn) mw_X2_remember kl_X2_63 (by decide) (fun cy => cell2 (by decide +kernel)) rfl rfl rfl (Nat.le_of_ble_eq_true rfl) ⟨Nat.le_of_ble_eq_true rfl, Nat.le_of_ble_eq_true rfl⟩ dX2_restore_17 ⟨Nat.le_of_ble_eq_true rfl, Nat.le_of_ble_eq_true rfl⟩ rfl ?_
  refine ro_aload_n (i := 0) (q := 21) hX dX2_restore_20 rfl rfl rfl ?_
  refine ro_Pga4 (q9 := 24) hX kf_X2_27 dX2_restore_21 rfl ?_
  refine ro_iload_n (i := 1) (q := 25) hX dX2_restore_24 rfl rfl rfl ?_
  refine ro_aald2 (n := c) (q9 := 26) hX rfl (by omega) dX2_restore_25 rfl ?_
  refine ro_aload_n (i := 0) (q := 27) hX dX2_restore_26 rfl rfl rfl ?_
  refine ro_Pga0 (q9 := 30) hX kf_X2_12 dX2_restore_27 rfl ?_
  refine ro_callSv (q9 := 33) hX (s_copy (isB_sl hc) (by unfold isB; decide) (by omega)) mw_X1_copy kl_X2_158 rfl rfl (Nat.le_of_ble_eq_true rfl) ⟨Nat.le_of_ble_eq_true rfl, Nat.le_of_ble_eq_true rfl⟩ dX2_restore_30 ⟨Nat.le_of_ble_eq_true rfl, Nat.le_of_ble_eq_true rfl⟩ rfl ?_
  refine vv_LM rfl (mU (by omega)) ?_
  refine ro_aload_n (i := 0) (q := 34) hX dX2_restore_33 rfl rfl rfl ?_
  refine ro_Pga0 (q9 := 37) hX kf_X2_12 dX2_restore_34 rfl ?_
  refine ro_Sgi (j := 8) (q9 := 40) ⟨by decide, by decide⟩ hX (by unfold isB; decide) kf_X2_166 dX2_restore_37 rfl ?_
  exact fin_i hF (Nat.le_of_ble_eq_true rfl) (Nat.le_of_ble_eq_true rfl) dX2_restore_40 (by rfl) (by rfl)
end
