section
variable {sz r : Nat} {G : Nat → Nat → Int32} {T : (Nat → Nat) × Int64} {f : SV}
set_option maxRecDepth 20000 in
set_option maxHeartbeats 2000000 in
theorem x_store {p : Nat} (hp : p < 30) {y : Int32} (hy : inB y (nI 0) (nI 9999) = true) (hc : caddS f p = true) (hT : ∀ i, i < 6 → isV (T.1 i)) {m : Nat} (hm : m ≤ 6) (hn : G 0 3 = nI m) : Does sz I_X2_store [.ref (sz + 0), .int (nI p), .int y] (patch G 1 7 f, T) 0 0 (.inl (some (bcI (cpS (adG f p y) p)))) (patch (rmG G f T m) 1 7 (seS (adG f p y)), rmT T m) := by
  refine Does.of (L := [(0, .ref (sz + 0)), (1, .int (nI p)), (2, .int y)]) (by decide +kernel) (Nat.le_of_ble_eq_true rfl) rfl ⟨rfl, (by simp), ⟨rfl, (by simp), ⟨rfl, (by simp), trivial⟩⟩⟩ (fun VV hF => ?_)
  have hX := hF.c
  refine ro_iload_n (i := 1) (q := 1) hX dX2_store_0 rfl rfl rfl ?_
  refine ro_callSv (q9 := 4) hX (p_reqPage_t (isR_t hp (by decide))) mw_X2_requirePage kl_X2_47 rfl rfl (Nat.le_of_ble_eq_true rfl) ⟨Nat.le_of_ble_eq_true rfl, Nat.le_of_ble_eq_true rfl⟩ dX2_store_1 ⟨Nat.le_of_ble_eq_true rfl, Nat.le_of_ble_eq_true rfl⟩ rfl ?_
  refine ro_iload_n (i := 2) (q := 5) hX dX2_store_4 rfl rfl rfl ?_
  refine ro_iconst (v := nI 0) (q := 6) hX dX2_store_5 rfl rfl ?_
  refine ro_sipush (v := nI 9999) (q := 9) hX dX2_store_6 rfl rfl ?_
  refine ro_callSv (q9 := 12) hX (p_reqRange_t hy) mw_X2_requireRange kl_X2_51 rfl rfl (Nat.le_of_ble_eq_true rfl) ⟨Nat.le_of_ble_eq_true rfl, Nat.le_of_ble_eq_true rfl⟩ dX2_store_9 ⟨Nat.le_of_ble_eq_true rfl, Nat.le_of_ble_eq_true rfl⟩ rfl ?_
  refine ro_aload_n (i := 0) (q := 13) hX dX2_store_12 rfl rfl rfl ?_
  refine ro_Pga0 (q9 := 16) hX kf_X2_12 dX2_store_13 rfl ?_
  refine ro_iload_n (i := 1) (q := 17) hX dX2_store_16 rfl rfl rfl ?_
  refine ro_callVi (q9 := 20) hX (s_canAdd (by unfold isB; decide) hp) mw_X1_canAdd kl_X2_55 (isB_lt (by unfold isB; decide)) (fun cy => cell1 (isB_kd (by unfold isB; decide)).2.2.1) rfl rfl rfl (Nat.le_of_ble_eq_true rfl) ⟨Nat.le_of_ble_eq_true rfl, Nat.le_of_ble_eq_true rfl⟩ dX2_store_17 ⟨Nat.le_of_ble_eq_true rfl, Nat.le_of_ble_eq_true rfl⟩ rfl ?_
  refine ro_callSv (q9 := 23) hX (p_reqState_t hc) mw_X2_requireState kl_X2_59 rfl rfl (Nat.le_of_ble_eq_true rfl) ⟨Nat.le_of_ble_eq_true rfl, Nat.le_of_ble_eq_true rfl⟩ dX2_store_20 ⟨Nat.le_of_ble_eq_true rfl, Nat.le_of_ble_eq_true rfl⟩ rfl ?_
  refine ro_aload_n (i := 0) (q := 24) hX dX2_store_23 rfl rfl rfl ?_
  refine ro_callVv (q9 := 27) hX (p_remember hT hm hn) mw_X2_remember kl_X2_63 (by decide) (fun cy => cell2 (by decide +kernel)) rfl rfl rfl (Nat.le_of_ble_eq_true rfl) ⟨Nat.le_of_ble_eq_true rfl, Nat.le_of_ble_eq_true rfl⟩ dX2_store_24 ⟨Nat.le_of_ble_eq_true rfl, Nat.le_of_ble_eq_true rfl⟩ rfl ?_
  refine ro_aload_n (i := 0) (q := 28) hX dX2_store_27 rfl rfl rfl ?_
  refine ro_Pga0 (q9 := 31) hX kf_X2_12 dX2_store_28 rfl ?_
  refine ro_iload_n (i := 1) (q := 32) hX dX2_store_31 rfl rfl rfl ?_
  refine ro_iload_n (i := 2) (q := 33) hX dX2_store_32 rfl rfl rfl ?_
  refine ro_callVi (q9 := 36) hX (s_addPage (by unfold isB; decide) hp) mw_X1_addPage kl_X2_66 (isB_lt (by unfold isB; decide)) (fun cy => cell1 (isB_kd (by unfold isB; decide)).2.2.1) rfl rfl rfl (Nat.le_of_ble_eq_true rfl) ⟨Nat.le_of_ble_eq_true rfl, Nat.le_of_ble_eq_true rfl⟩ dX2_store_33 ⟨Nat.le_of_ble_eq_true rfl, Nat.le_of_ble_eq_true rfl⟩ rfl ?_
  exact fin_i hF (Nat.le_of_ble_eq_true rfl) (Nat.le_of_ble_eq_true rfl) dX2_store_36 (by rfl) (by rfl)
set_option maxRecDepth 20000 in
set_option maxHeartbeats 2000000 in
theorem x_write {p : Nat} (hp : p < 30) {y : Int32} (hy : inB y (nI 0) (nI 9999) = true) (hc : reS f p = true) (hT : ∀ i, i < 6 → isV (T.1 i)) {m : Nat} (hm : m ≤ 6) (hn : G 0 3 = nI m) : Does sz I_X2_write [.ref (sz + 0), .int (nI p), .int y] (patch G 1 7 f, T) 0 0 (.inl (some (bcI (cpS (owG f p y) p)))) (patch (rmG G f T m) 1 7 (owG f p y), rmT T m) := by
  refine Does.of (L := [(0, .ref (sz + 0)), (1, .int (nI p)), (2, .int y)]) (by decide +kernel) (Nat.le_of_ble_eq_true rfl) rfl ⟨rfl, (by simp), ⟨rfl, (by simp), ⟨rfl, (by simp), trivial⟩⟩⟩ (fun VV hF => ?_)
  have hX := hF.c
  refine ro_iload_n (i := 1) (q := 1) hX dX2_write_0 rfl rfl rfl ?_
  refine ro_callSv (q9 := 4) hX (p_reqPage_t (isR_t hp (by decide))) mw_X2_requirePage kl_X2_47 rfl rfl (Nat.le_of_ble_eq_true rfl) ⟨Nat.le_of_ble_eq_true rfl, Nat.le_of_ble_eq_true rfl⟩ dX2_write_1 ⟨Nat.le_of_ble_eq_true rfl, Nat.le_of_ble_eq_true rfl⟩ rfl ?_
  refine ro_iload_n (i := 2) (q := 5) hX dX2_write_4 rfl rfl rfl ?_
  refine ro_iconst (v := nI 0) (q := 6) hX dX2_write_5 rfl rfl ?_
  refine ro_sipush (v := nI 9999) (q := 9) hX dX2_write_6 rfl rfl ?_
  refine ro_callSv (q9 := 12) hX (p_reqRange_t hy) mw_X2_requireRange kl_X2_51 rfl rfl (Nat.le_of_ble_eq_true rfl) ⟨Nat.le_of_ble_eq_true rfl, Nat.le_of_ble_eq_true rfl⟩ dX2_write_9 ⟨Nat.le_of_ble_eq_true rfl, Nat.le_of_ble_eq_true rfl⟩ rfl ?_
  refine ro_aload_n (i := 0) (q := 13) hX dX2_write_12 rfl rfl rfl ?_
  refine ro_Pga0 (q9 := 16) hX kf_X2_12 dX2_write_13 rfl ?_
  refine ro_iload_n (i := 1) (q := 17) hX dX2_write_16 rfl rfl rfl ?_
  refine ro_callVi (q9 := 20) hX (s_isReachable (by unfold isB; decide) hp) mw_X1_isReachable kl_X2_70 (isB_lt (by unfold isB; decide)) (fun cy => cell1 (isB_kd (by unfold isB; decide)).2.2.1) rfl rfl rfl (Nat.le_of_ble_eq_true rfl) ⟨Nat.le_of_ble_eq_true rfl, Nat.le_of_ble_eq_true rfl⟩ dX2_write_17 ⟨Nat.le_of_ble_eq_true rfl, Nat.le_of_ble_eq_true rfl⟩ rfl ?_
  refine ro_callSv (q9 := 23) hX (p_reqState_t hc) mw_X2_requireState kl_X2_59 rfl rfl (Nat.le_of_ble_eq_true rfl) ⟨Nat.le_of_ble_eq_true rfl, Nat.le_of_ble_eq_true rfl⟩ dX2_write_20 ⟨Nat.le_of_ble_eq_true rfl, Nat.le_of_ble_eq_true rfl⟩ rfl ?_
  refine ro_aload_n (i := 0) (q := 24) hX dX2_write_23 rfl rfl rfl ?_
  refine ro_callVv (q9 := 27) hX (p_remember hT hm hn) mw_X2_remember kl_X2_63 (by decide) (fun cy => cell2 (by decide +kernel)) rfl rfl rfl (Nat.le_of_ble_eq_true rfl) ⟨Nat.le_of_ble_eq_true rfl, Nat.le_of_ble_eq_true rfl⟩ dX2_write_24 ⟨Nat.le_of_ble_eq_true rfl, Nat.le_of_ble_eq_true rfl⟩ rfl ?_
  refine ro_aload_n (i := 0) (q := 28) hX dX2_write_27 rfl rfl rfl ?_
  refine ro_Pga0 (q9 := 31) hX kf_X2_12 dX2_write_28 rfl ?_
  refine ro_iload_n (i := 1) (q := 32) hX dX2_write_31 rfl rfl rfl ?_
  refine ro_iload_n (i := 2) (q := 33) hX dX2_write_32 rfl rfl rfl ?_
  refine ro_callVi (q9 := 36) hX (s_overwritePage (by unfold isB; decide) hp) mw_X1_overwritePage kl_X2_73 (isB_lt (by unfold isB; decide)) (fun cy => cell1 (isB_kd (by unfold isB; decide)).2.2.1) rfl rfl rfl (Nat.le_of_ble_eq_true rfl) ⟨Nat.le_of_ble_eq_true rfl, Nat.le_of_ble_eq_true rfl⟩ dX2_write_33 ⟨Nat.le_of_ble_eq_true rfl, Nat.le_of_ble_eq_true rfl⟩ rfl ?_
  exact fin_i hF (Nat.le_of_ble_eq_true rfl) (Nat.le_of_ble_eq_true rfl) dX2_write_36 (by rfl) (by rfl)
set_option maxRecDepth 20000 in
set_option maxHeartbeats 2000000 in
theorem x_read {p : Nat} (hp : p < 30) (hc : reS f p = true) : Does sz I_X2_read [.ref (sz + 0), .int (nI p)] (patch G 1 7 f, T) 0 0 (.inl (some (f 6 p))) (patch G 1 7 f, T) := by
  refine Does.of (L := [(0, .ref (sz + 0)), (1, .int (nI p))]) (by decide +kernel) (Nat.le_of_ble_eq_true rfl) rfl ⟨rfl, (by simp), ⟨rfl, (by simp), trivial⟩⟩ (fun VV hF => ?_)
  have hX := hF.c
  refine ro_iload_n (i := 1) (q := 1) hX dX2_read_0 rfl rfl rfl ?_
  refine ro_callSv (q9 := 4) hX (p_reqPage_t (isR_t hp (by decide))) mw_X2_requirePage kl_X2_47 rfl rfl (Nat.le_of_ble_eq_true rfl) ⟨Nat.le_of_ble_eq_true rfl, Nat.le_of_ble_eq_true rfl⟩ dX2_read_1 ⟨Nat.le_of_ble_eq_true rfl, Nat.le_of_ble_eq_true rfl⟩ rfl ?_
  refine ro_aload_n (i := 0) (q := 5) hX dX2_read_4 rfl rfl rfl ?_
  refine ro_Pga0 (q9 := 8) hX kf_X2_12 dX2_read_5 rfl ?_
  refine ro_iload_n (i := 1) (q := 9) hX dX2_read_8 rfl rfl rfl ?_
  refine ro_callVi (q9 := 12) hX (s_isReachable (by unfold isB; decide) hp) mw_X1_isReachable kl_X2_70 (isB_lt (by unfold isB; decide)) (fun cy => cell1 (isB_kd (by unfold isB; decide)).2.2.1) rfl rfl rfl (Nat.le_of_ble_eq_true rfl) ⟨Nat.le_of_ble_eq_true rfl, Nat.le_of_ble_eq_true rfl⟩ dX2_read_9 ⟨Nat.le_of_ble_eq_true rfl, Nat.le_of_ble_eq_true rfl⟩ rfl ?_
  refine ro_callSv (q9 := 15) hX (p_reqState_t hc) mw_X2_requireState kl_X2_59 rfl rfl (Nat.le_of_ble_eq_true rfl) ⟨Nat.le_of_ble_eq_true rfl, Nat.le_of_ble_eq_true rfl⟩ dX2_read_12 ⟨Nat.le_of_ble_eq_true rfl, Nat.le_of_ble_eq_true rfl⟩ rfl ?_
  refine ro_aload_n (i := 0) (q := 16) hX dX2_read_15 rfl rfl rfl ?_
  refine ro_Pga0 (q9 := 19) hX kf_X2_12 dX2_read_16 rfl ?_
  refine ro_Sga (j := 5) (a := 6) (q9 := 22) ⟨by decide, rfl⟩ hX (by unfold isB; decide) kf_X2_76 dX2_read_19 rfl ?_
  refine ro_iload_n (i := 1) (q := 23) hX dX2_read_22 rfl rfl rfl ?_
  refine ro_Sald (a := 6) (n := p) (q9 := 24) ⟨by decide, by decide⟩ hX (by unfold isB; decide) rfl (show p < 30 from by omega) dX2_read_23 rfl ?_
  exact fin_i hF (Nat.le_of_ble_eq_true rfl) (Nat.le_of_ble_eq_true rfl) dX2_read_24 (by rfl) (by rfl)
set_option maxRecDepth 20000 in
set_option maxHeartbeats 2000000 in
theorem x_remove {p : Nat} (hp : p < 30) (hc : exS f p = true) (hT : ∀ i, i < 6 → isV (T.1 i)) {m : Nat} (hm : m ≤ 6) (hn : G 0 3 = nI m) : Does sz I_X2_remove [.ref (sz + 0), .int (nI p)] (patch G 1 7 f, T) 0 0 (.inl (some (bcI (cpS f p)))) (patch (rmG G f T m) 1 7 (drG f p), rmT T m) := by
  refine Does.of (L := [(0, .ref (sz + 0)), (1, .int (nI p))]) (by decide +kernel) (Nat.le_of_ble_eq_true rfl) rfl ⟨rfl, (by simp), ⟨rfl, (by simp), trivial⟩⟩ (fun VV hF => ?_)
  have hX := hF.c
  refine ro_iload_n (i := 1) (q := 1) hX dX2_remove_0 rfl rfl rfl ?_
  refine ro_callSv (q9 := 4) hX (p_reqPage_t (isR_t hp (by decide))) mw_X2_requirePage kl_X2_47 rfl rfl (Nat.le_of_ble_eq_true rfl) ⟨Nat.le_of_ble_eq_true rfl, Nat.le_of_ble_eq_true rfl⟩ dX2_remove_1 ⟨Nat.le_of_ble_eq_true rfl, Nat.le_of_ble_eq_true rfl⟩ rfl ?_
  refine ro_aload_n (i := 0) (q := 5) hX dX2_remove_4 rfl rfl rfl ?_
  refine ro_Pga0 (q9 := 8) hX kf_X2_12 dX2_remove_5 rfl ?_
  refine ro_iload_n (i := 1) (q := 9) hX dX2_remove_8 rfl rfl rfl ?_
  refine ro_callVi (q9 := 12) hX (s_exists (by unfold isB; decide) hp) mw_X1_exists kl_X2_80 (isB_lt (by unfold isB; decide)) (fun cy => cell1 (isB_kd (by unfold isB; decide)).2.2.1) rfl rfl rfl (Nat.le_of_ble_eq_true rfl) ⟨Nat.le_of_ble_eq_true rfl, Nat.le_of_ble_eq_true rfl⟩ dX2_remove_9 ⟨Nat.le_of_ble_eq_true rfl, Nat.le_of_ble_eq_true rfl⟩ rfl ?_
  refine ro_callSv (q9 := 15) hX (p_reqState_t hc) mw_X2_requireState kl_X2_59 rfl rfl (Nat.le_of_ble_eq_true rfl) ⟨Nat.le_of_ble_eq_true rfl, Nat.le_of_ble_eq_true rfl⟩ dX2_remove_12 ⟨Nat.le_of_ble_eq_true rfl, Nat.le_of_ble_eq_true rfl⟩ rfl ?_
  refine ro_aload_n (i := 0) (q := 16) hX dX2_remove_15 rfl rfl rfl ?_
  refine ro_callVv (q9 := 19) hX (p_remember hT hm hn) mw_X2_remember kl_X2_63 (by decide) (fun cy => cell2 (by decide +kernel)) rfl rfl rfl (Nat.le_of_ble_eq_true rfl) ⟨Nat.le_of_ble_eq_true rfl, Nat.le_of_ble_eq_true rfl⟩ dX2_remove_16 ⟨Nat.le_of_ble_eq_true rfl, Nat.le_of_ble_eq_true rfl⟩ rfl ?_
  refine ro_aload_n (i := 0) (q := 20) hX dX2_remove_19 rfl rfl rfl ?_
  refine ro_Pga0 (q9 := 23) hX kf_X2_12 dX2_remove_20 rfl ?_
  refine ro_iload_n (i := 1) (q := 24) hX dX2_remove_23 rfl rfl rfl ?_
  refine ro_callVi (q9 := 27) hX (s_dropPage (by unfold isB; decide) hp) mw_X1_dropPage kl_X2_83 (isB_lt (by unfold isB; decide)) (fun cy => cell1 (isB_kd (by unfold isB; decide)).2.2.1) rfl rfl rfl (Nat.le_of_ble_eq_true rfl) ⟨Nat.le_of_ble_eq_true rfl, Nat.le_of_ble_eq_true rfl⟩ dX2_remove_24 ⟨Nat.le_of_ble_eq_true rfl, Nat.le_of_ble_eq_true rfl⟩ rfl ?_
  exact fin_i hF (Nat.le_of_ble_eq_true rfl) (Nat.le_of_ble_eq_true rfl) dX2_remove_27 (by rfl) (by rfl)
set_option maxRecDepth 20000 in
set_option maxHeartbeats 2000000 in
theorem x_lend {h : Nat} (hh : h < 6) {y : Int32} (hy : inB y (nI 1) (nI 20) = true) (hc : cbegS f h = true) (hT : ∀ i, i < 6 → isV (T.1 i)) {m : Nat} (hm : m ≤ 6) (hn : G 0 3 = nI m) : Does sz I_X2_lend [.ref (sz + 0), .int (nI h), .int y] (patch G 1 7 f, T) 0 0 (.inl (some (sumS (beG f h y) 6))) (patch (rmG G f T m) 1 7 (seS (beG f h y)), rmT T m) := by
  refine Does.of (L := [(0, .ref (sz + 0)), (1, .int (nI h)), (2, .int y)]) (by decide +kernel) (Nat.le_of_ble_eq_true rfl) rfl ⟨rfl, (by simp), ⟨rfl, (by simp), ⟨rfl, (by simp), trivial⟩⟩⟩ (fun VV hF => ?_)
  have hX := hF.c
  refine ro_iload_n (i := 1) (q := 1) hX dX2_lend_0 rfl rfl rfl ?_
  refine ro_callSv (q9 := 4) hX (p_reqHost_t (isR_t hh (by decide))) mw_X2_requireHost kl_X2_87 rfl rfl (Nat.le_of_ble_eq_true rfl) ⟨Nat.le_of_ble_eq_true rfl, Nat.le_of_ble_eq_true rfl⟩ dX2_lend_1 ⟨Nat.le_of_ble_eq_true rfl, Nat.le_of_ble_eq_true rfl⟩ rfl ?_
  refine ro_iload_n (i := 2) (q := 5) hX dX2_lend_4 rfl rfl rfl ?_
  refine ro_iconst (v := nI 1) (q := 6) hX dX2_lend_5 rfl rfl ?_
  refine ro_bipush (v := nI 20) (q := 8) hX dX2_lend_6 rfl rfl ?_
  refine ro_callSv (q9 := 11) hX (p_reqRange_t hy) mw_X2_requireRange kl_X2_51 rfl rfl (Nat.le_of_ble_eq_true rfl) ⟨Nat.le_of_ble_eq_true rfl, Nat.le_of_ble_eq_true rfl⟩ dX2_lend_8 ⟨Nat.le_of_ble_eq_true rfl, Nat.le_of_ble_eq_true rfl⟩ rfl ?_
  refine ro_aload_n (i := 0) (q := 12) hX dX2_lend_11 rfl rfl rfl ?_
  refine ro_Pga0 (q9 := 15) hX kf_X2_12 dX2_lend_12 rfl ?_
  refine ro_iload_n (i := 1) (q := 16) hX dX2_lend_15 rfl rfl rfl ?_
  refine ro_callVi (q9 := 19) hX (s_canBegin (by unfold isB; decide) hh) mw_X1_canBegin kl_X2_90 (isB_lt (by unfold isB; decide)) (fun cy => cell1 (isB_kd (by unfold isB; decide)).2.2.1) rfl rfl rfl (Nat.le_of_ble_eq_true rfl) ⟨Nat.le_of_ble_eq_true rfl, Nat.le_of_ble_eq_true rfl⟩ dX2_lend_16 ⟨Nat.le_of_ble_eq_true rfl, Nat.le_of_ble_eq_true rfl⟩ rfl ?_
  refine ro_callSv (q9 := 22) hX (p_reqState_t hc) mw_X2_requireState kl_X2_59 rfl rfl (Nat.le_of_ble_eq_true rfl) ⟨Nat.le_of_ble_eq_true rfl, Nat.le_of_ble_eq_true rfl⟩ dX2_lend_19 ⟨Nat.le_of_ble_eq_true rfl, Nat.le_of_ble_eq_true rfl⟩ rfl ?_
  refine ro_aload_n (i := 0) (q := 23) hX dX2_lend_22 rfl rfl rfl ?_
  refine ro_callVv (q9 := 26) hX (p_remember hT hm hn) mw_X2_remember kl_X2_63 (by decide) (fun cy => cell2 (by decide +kernel)) rfl rfl rfl (Nat.le_of_ble_eq_true rfl) ⟨Nat.le_of_ble_eq_true rfl, Nat.le_of_ble_eq_true rfl⟩ dX2_lend_23 ⟨Nat.le_of_ble_eq_true rfl, Nat.le_of_ble_eq_true rfl⟩ rfl ?_
  refine ro_aload_n (i := 0) (q := 27) hX dX2_lend_26 rfl rfl rfl ?_
  refine ro_Pga0 (q9 := 30) hX kf_X2_12 dX2_lend_27 rfl ?_
  refine ro_iload_n (i := 1) (q := 31) hX dX2_lend_30 rfl rfl rfl ?_
  refine ro_iload_n (i := 2) (q := 32) hX dX2_lend_31 rfl rfl rfl ?_
  refine ro_callVi (q9 := 35) hX (s_beginLending (by unfold isB; decide) hh) mw_X1_beginLending kl_X2_93 (isB_lt (by unfold isB; decide)) (fun cy => cell1 (isB_kd (by unfold isB; decide)).2.2.1) rfl rfl rfl (Nat.le_of_ble_eq_true rfl) ⟨Nat.le_of_ble_eq_true rfl, Nat.le_of_ble_eq_true rfl⟩ dX2_lend_32 ⟨Nat.le_of_ble_eq_true rfl, Nat.le_of_ble_eq_true rfl⟩ rfl ?_
  exact fin_i hF (Nat.le_of_ble_eq_true rfl) (Nat.le_of_ble_eq_true rfl) dX2_lend_35 (by rfl) (by rfl)
set_option maxRecDepth 20000 in
set_option maxHeartbeats 2000000 in
theorem x_recall {h : Nat} (hh : h < 6) {y : Int32} (hy : inB y (nI 1) (nI 600) = true) (hc : opS f h = true) (hT : ∀ i, i < 6 → isV (T.1 i)) {m : Nat} (hm : m ≤ 6) (hn : G 0 3 = nI m) : Does sz I_X2_recall [.ref (sz + 0), .int (nI h), .int y] (patch G 1 7 f, T) 0 0 (.inl (some (hdS (cbG f h y) h))) (patch (rmG G f T m) 1 7 (cbG f h y), rmT T m) := by
  refine Does.of (L := [(0, .ref (sz + 0)), (1, .int (nI h)), (2, .int y)]) (by decide +kernel) (Nat.le_of_ble_eq_true rfl) rfl ⟨rfl, (by simp), ⟨rfl, (by simp), ⟨rfl, (by simp), trivial⟩⟩⟩ (fun VV hF => ?_)
  have hX := hF.c
  refine ro_iload_n (i := 1) (q := 1) hX dX2_recall_0 rfl rfl rfl ?_
  refine ro_callSv (q9 := 4) hX (p_reqHost_t (isR_t hh (by decide))) mw_X2_requireHost kl_X2_87 rfl rfl (Nat.le_of_ble_eq_true rfl) ⟨Nat.le_of_ble_eq_true rfl, Nat.le_of_ble_eq_true rfl⟩ dX2_recall_1 ⟨Nat.le_of_ble_eq_true rfl, Nat.le_of_ble_eq_true rfl⟩ rfl ?_
  refine ro_iload_n (i := 2) (q := 5) hX dX2_recall_4 rfl rfl rfl ?_
  refine ro_iconst (v := nI 1) (q := 6) hX dX2_recall_5 rfl rfl ?_
  refine ro_sipush (v := nI 600) (q := 9) hX dX2_recall_6 rfl rfl ?_
  refine ro_callSv (q9 := 12) hX (p_reqRange_t hy) mw_X2_requireRange kl_X2_51 rfl rfl (Nat.le_of_ble_eq_true rfl) ⟨Nat.le_of_ble_eq_true rfl, Nat.le_of_ble_eq_true rfl⟩ dX2_recall_9 ⟨Nat.le_of_ble_eq_true rfl, Nat.le_of_ble_eq_true rfl⟩ rfl ?_
  refine ro_aload_n (i := 0) (q := 13) hX dX2_recall_12 rfl rfl rfl ?_
  refine ro_Pga0 (q9 := 16) hX kf_X2_12 dX2_recall_13 rfl ?_
  refine ro_iload_n (i := 1) (q := 17) hX dX2_recall_16 rfl rfl rfl ?_
  refine ro_callVi (q9 := 20) hX (s_isOpen (by unfold isB; decide) hh) mw_X1_isOpen kl_X2_96 (isB_lt (by unfold isB; decide)) (fun cy => cell1 (isB_kd (by unfold isB; decide)).2.2.1) rfl rfl rfl (Nat.le_of_ble_eq_true rfl) ⟨Nat.le_of_ble_eq_true rfl, Nat.le_of_ble_eq_true rfl⟩ dX2_recall_17 ⟨Nat.le_of_ble_eq_true rfl, Nat.le_of_ble_eq_true rfl⟩ rfl ?_
  refine ro_callSv (q9 := 23) hX (p_reqState_t hc) mw_X2_requireState kl_X2_59 rfl rfl (Nat.le_of_ble_eq_true rfl) ⟨Nat.le_of_ble_eq_true rfl, Nat.le_of_ble_eq_true rfl⟩ dX2_recall_20 ⟨Nat.le_of_ble_eq_true rfl, Nat.le_of_ble_eq_true rfl⟩ rfl ?_
  refine ro_aload_n (i := 0) (q := 24) hX dX2_recall_23 rfl rfl rfl ?_
  refine ro_callVv (q9 := 27) hX (p_remember hT hm hn) mw_X2_remember kl_X2_63 (by decide) (fun cy => cell2 (by decide +kernel)) rfl rfl rfl (Nat.le_of_ble_eq_true rfl) ⟨Nat.le_of_ble_eq_true rfl, Nat.le_of_ble_eq_true rfl⟩ dX2_recall_24 ⟨Nat.le_of_ble_eq_true rfl, Nat.le_of_ble_eq_true rfl⟩ rfl ?_
  refine ro_aload_n (i := 0) (q := 28) hX dX2_recall_27 rfl rfl rfl ?_
  refine ro_Pga0 (q9 := 31) hX kf_X2_12 dX2_recall_28 rfl ?_
  refine ro_iload_n (i := 1) (q := 32) hX dX2_recall_31 rfl rfl rfl ?_
  refine ro_iload_n (i := 2) (q := 33) hX dX2_recall_32 rfl rfl rfl ?_
  refine ro_callVi (q9 := 36) hX (s_callBack (by unfold isB; decide) hh) mw_X1_callBack kl_X2_99 (isB_lt (by unfold isB; decide)) (fun cy => cell1 (isB_kd (by unfold isB; decide)).2.2.1) rfl rfl rfl (Nat.le_of_ble_eq_true rfl) ⟨Nat.le_of_ble_eq_true rfl, Nat.le_of_ble_eq_true rfl⟩ dX2_recall_33 ⟨Nat.le_of_ble_eq_true rfl, Nat.le_of_ble_eq_true rfl⟩ rfl ?_
  exact fin_i hF (Nat.le_of_ble_eq_true rfl) (Nat.le_of_ble_eq_true rfl) dX2_recall_36 (by rfl) (by rfl)
set_option maxRecDepth 20000 in
set_option maxHeartbeats 2000000 in
theorem x_disconnect {h : Nat} (hh : h < 6) (hc : cdetS f h = true) (hT : ∀ i, i < 6 → isV (T.1 i)) {m : Nat} (hm : m ≤ 6) (hn : G 0 3 = nI m) : Does sz I_X2_disconnect [.ref (sz + 0), .int (nI h)] (patch G 1 7 f, T) 0 0 (.inl (some (hdS (deG f h) h))) (patch (rmG G f T m) 1 7 (deG f h), rmT T m) := by
  refine Does.of (L := [(0, .ref (sz + 0)), (1, .int (nI h))]) (by decide +kernel) (Nat.le_of_ble_eq_true rfl) rfl ⟨rfl, (by simp), ⟨rfl, (by simp), trivial⟩⟩ (fun VV hF => ?_)
  have hX := hF.c
  refine ro_iload_n (i := 1) (q := 1) hX dX2_disconnect_0 rfl rfl rfl ?_
  refine ro_callSv (q9 := 4) hX (p_reqHost_t (isR_t hh (by decide))) mw_X2_requireHost kl_X2_87 rfl rfl (Nat.le_of_ble_eq_true rfl) ⟨Nat.le_of_ble_eq_true rfl, Nat.le_of_ble_eq_true rfl⟩ dX2_disconnect_1 ⟨Nat.le_of_ble_eq_true rfl, Nat.le_of_ble_eq_true rfl⟩ rfl ?_
  refine ro_aload_n (i := 0) (q := 5) hX dX2_disconnect_4 rfl rfl rfl ?_
  refine ro_Pga0 (q9 := 8) hX kf_X2_12 dX2_disconnect_5 rfl ?_
  refine ro_iload_n (i := 1) (q := 9) hX dX2_disconnect_8 rfl rfl rfl ?_
  refine ro_callVi (q9 := 12) hX (s_canDetach (by unfold isB; decide) hh) mw_X1_canDetach kl_X2_102 (isB_lt (by unfold isB; decide)) (fun cy => cell1 (isB_kd (by unfold isB; decide)).2.2.1) rfl rfl rfl (Nat.le_of_ble_eq_true rfl) ⟨Nat.le_of_ble_eq_true rfl, Nat.le_of_ble_eq_true rfl⟩ dX2_disconnect_9 ⟨Nat.le_of_ble_eq_true rfl, Nat.le_of_ble_eq_true rfl⟩ rfl ?_
  refine ro_callSv (q9 := 15) hX (p_reqState_t hc) mw_X2_requireState kl_X2_59 rfl rfl (Nat.le_of_ble_eq_true rfl) ⟨Nat.le_of_ble_eq_true rfl, Nat.le_of_ble_eq_true rfl⟩ dX2_disconnect_12 ⟨Nat.le_of_ble_eq_true rfl, Nat.le_of_ble_eq_true rfl⟩ rfl ?_
  refine ro_aload_n (i := 0) (q := 16) hX dX2_disconnect_15 rfl rfl rfl ?_
  refine ro_callVv (q9 := 19) hX (p_remember hT hm hn) mw_X2_remember kl_X2_63 (by decide) (fun cy => cell2 (by decide +kernel)) rfl rfl rfl (Nat.le_of_ble_eq_true rfl) ⟨Nat.le_of_ble_eq_true rfl, Nat.le_of_ble_eq_true rfl⟩ dX2_disconnect_16 ⟨Nat.le_of_ble_eq_true rfl, Nat.le_of_ble_eq_true rfl⟩ rfl ?_
  refine ro_aload_n (i := 0) (q := 20) hX dX2_disconnect_19 rfl rfl rfl ?_
  refine ro_Pga0 (q9 := 23) hX kf_X2_12 dX2_disconnect_20 rfl ?_
  refine ro_iload_n (i := 1) (q := 24) hX dX2_disconnect_23 rfl rfl rfl ?_
  refine ro_callVi (q9 := 27) hX (s_detach (by unfold isB; decide) hh) mw_X1_detach kl_X2_105 (isB_lt (by unfold isB; decide)) (fun cy => cell1 (isB_kd (by unfold isB; decide)).2.2.1) rfl rfl rfl (Nat.le_of_ble_eq_true rfl) ⟨Nat.le_of_ble_eq_true rfl, Nat.le_of_ble_eq_true rfl⟩ dX2_disconnect_24 ⟨Nat.le_of_ble_eq_true rfl, Nat.le_of_ble_eq_true rfl⟩ rfl ?_
  exact fin_i hF (Nat.le_of_ble_eq_true rfl) (Nat.le_of_ble_eq_true rfl) dX2_disconnect_27 (by rfl) (by rfl)
set_option maxRecDepth 20000 in
set_option maxHeartbeats 2000000 in
theorem x_reconnect {h : Nat} (hh : h < 6) (hc : cattS f h = true) (hT : ∀ i, i < 6 → isV (T.1 i)) {m : Nat} (hm : m ≤ 6) (hn : G 0 3 = nI m) : Does sz I_X2_reconnect [.ref (sz + 0), .int (nI h)] (patch G 1 7 f, T) 0 0 (.inl (some (bcI (suS f h)))) (patch (rmG G f T m) 1 7 (atG f h), rmT T m) := by
  refine Does.of (L := [(0, .ref (sz + 0)), (1, .int (nI h))]) (by decide +kernel) (Nat.le_of_ble_eq_true rfl) rfl ⟨rfl, (by simp), ⟨rfl, (by simp), trivial⟩⟩ (fun VV hF => ?_)
  have hX := hF.c
  refine ro_iload_n (i := 1) (q := 1) hX dX2_reconnect_0 rfl rfl rfl ?_
  refine ro_callSv (q9 := 4) hX (p_reqHost_t (isR_t hh (by decide))) mw_X2_requireHost kl_X2_87 rfl rfl (Nat.le_of_ble_eq_true rfl) ⟨Nat.le_of_ble_eq_true rfl, Nat.le_of_ble_eq_true rfl⟩ dX2_reconnect_1 ⟨Nat.le_of_ble_eq_true rfl, Nat.le_of_ble_eq_true rfl⟩ rfl ?_
  refine ro_aload_n (i := 0) (q := 5) hX dX2_reconnect_4 rfl rfl rfl ?_
  refine ro_Pga0 (q9 := 8) hX kf_X2_12 dX2_reconnect_5 rfl ?_
  refine ro_iload_n (i := 1) (q := 9) hX dX2_reconnect_8 rfl rfl rfl ?_
  refine ro_callVi (q9 := 12) hX (s_canAttach (by unfold isB; decide) hh) mw_X1_canAttach kl_X2_108 (isB_lt (by unfold isB; decide)) (fun cy => cell1 (isB_kd (by unfold isB; decide)).2.2.1) rfl rfl rfl (Nat.le_of_ble_eq_true rfl) ⟨Nat.le_of_ble_eq_true rfl, Nat.le_of_ble_eq_true rfl⟩ dX2_reconnect_9 ⟨Nat.le_of_ble_eq_true rfl, Nat.le_of_ble_eq_true rfl⟩ rfl ?_
  refine ro_callSv (q9 := 15) hX (p_reqState_t hc) mw_X2_requireState kl_X2_59 rfl rfl (Nat.le_of_ble_eq_true rfl) ⟨Nat.le_of_ble_eq_true rfl, Nat.le_of_ble_eq_true rfl⟩ dX2_reconnect_12 ⟨Nat.le_of_ble_eq_true rfl, Nat.le_of_ble_eq_true rfl⟩ rfl ?_
  refine ro_aload_n (i := 0) (q := 16) hX dX2_reconnect_15 rfl rfl rfl ?_
  refine ro_callVv (q9 := 19) hX (p_remember hT hm hn) mw_X2_remember kl_X2_63 (by decide) (fun cy => cell2 (by decide +kernel)) rfl rfl rfl (Nat.le_of_ble_eq_true rfl) ⟨Nat.le_of_ble_eq_true rfl, Nat.le_of_ble_eq_true rfl⟩ dX2_reconnect_16 ⟨Nat.le_of_ble_eq_true rfl, Nat.le_of_ble_eq_true rfl⟩ rfl ?_
  refine ro_aload_n (i := 0) (q := 20) hX dX2_reconnect_19 rfl rfl rfl ?_
  refine ro_Pga0 (q9 := 23) hX kf_X2_12 dX2_reconnect_20 rfl ?_
  refine ro_iload_n (i := 1) (q := 24) hX dX2_reconnect_23 rfl rfl rfl ?_
  refine ro_callVi (q9 := 27) hX (s_attach (by unfold isB; decide) hh) mw_X1_attach kl_X2_111 (isB_lt (by unfold isB; decide)) (fun cy => cell1 (isB_kd (by unfold isB; decide)).2.2.1) rfl rfl rfl (Nat.le_of_ble_eq_true rfl) ⟨Nat.le_of_ble_eq_true rfl, Nat.le_of_ble_eq_true rfl⟩ dX2_reconnect_24 ⟨Nat.le_of_ble_eq_true rfl, Nat.le_of_ble_eq_true rfl⟩ rfl ?_
  exact fin_i hF (Nat.le_of_ble_eq_true rfl) (Nat.le_of_ble_eq_true rfl) dX2_reconnect_27 (by rfl) (by rfl)
set_option maxRecDepth 20000 in
set_option maxHeartbeats 2000000 in
theorem x_crash {h : Nat} (hh : h < 6) (hc : cbrkS f h = true) (hT : ∀ i, i < 6 → isV (T.1 i)) {m : Nat} (hm : m ≤ 6) (hn : G 0 3 = nI m) : Does sz I_X2_crash [.ref (sz + 0), .int (nI h)] (patch G 1 7 f, T) 0 0 (.inl (some (hdS f h))) (patch (rmG G f T m) 1 7 (brG f h), rmT T m) := by
  refine Does.of (L := [(0, .ref (sz + 0)), (1, .int (nI h))]) (by decide +kernel) (Nat.le_of_ble_eq_true rfl) rfl ⟨rfl, (by simp), ⟨rfl, (by simp), trivial⟩⟩ (fun VV hF => ?_)
  have hX := hF.c
  refine ro_iload_n (i := 1) (q := 1) hX dX2_crash_0 rfl rfl rfl ?_
  refine ro_callSv (q9 := 4) hX (p_reqHost_t (isR_t hh (by decide))) mw_X2_requireHost kl_X2_87 rfl rfl (Nat.le_of_ble_eq_true rfl) ⟨Nat.le_of_ble_eq_true rfl, Nat.le_of_ble_eq_true rfl⟩ dX2_crash_1 ⟨Nat.le_of_ble_eq_true rfl, Nat.le_of_ble_eq_true rfl⟩ rfl ?_
  refine ro_aload_n (i := 0) (q := 5) hX dX2_crash_4 rfl rfl rfl ?_
  refine ro_Pga0 (q9 := 8) hX kf_X2_12 dX2_crash_5 rfl ?_
  refine ro_iload_n (i := 1) (q := 9) hX dX2_crash_8 rfl rfl rfl ?_
  refine ro_callVi (q9 := 12) hX (s_canBreak (by unfold isB; decide) hh) mw_X1_canBreak kl_X2_114 (isB_lt (by unfold isB; decide)) (fun cy => cell1 (isB_kd (by unfold isB; decide)).2.2.1) rfl rfl rfl (Nat.le_of_ble_eq_true rfl) ⟨Nat.le_of_ble_eq_true rfl, Nat.le_of_ble_eq_true rfl⟩ dX2_crash_9 ⟨Nat.le_of_ble_eq_true rfl, Nat.le_of_ble_eq_true rfl⟩ rfl ?_
  refine ro_callSv (q9 := 15) hX (p_reqState_t hc) mw_X2_requireState kl_X2_59 rfl rfl (Nat.le_of_ble_eq_true rfl) ⟨Nat.le_of_ble_eq_true rfl, Nat.le_of_ble_eq_true rfl⟩ dX2_crash_12 ⟨Nat.le_of_ble_eq_true rfl, Nat.le_of_ble_eq_true rfl⟩ rfl ?_
  refine ro_aload_n (i := 0) (q := 16) hX dX2_crash_15 rfl rfl rfl ?_
  refine ro_callVv (q9 := 19) hX (p_remember hT hm hn) mw_X2_remember kl_X2_63 (by decide) (fun cy => cell2 (by decide +kernel)) rfl rfl rfl (Nat.le_of_ble_eq_true rfl) ⟨Nat.le_of_ble_eq_true rfl, Nat.le_of_ble_eq_true rfl⟩ dX2_crash_16 ⟨Nat.le_of_ble_eq_true rfl, Nat.le_of_ble_eq_true rfl⟩ rfl ?_
  refine ro_aload_n (i := 0) (q := 20) hX dX2_crash_19 rfl rfl rfl ?_
  refine ro_Pga0 (q9 := 23) hX kf_X2_12 dX2_crash_20 rfl ?_
  refine ro_iload_n (i := 1) (q := 24) hX dX2_crash_23 rfl rfl rfl ?_
  refine ro_callVi (q9 := 27) hX (s_breakDown (by unfold isB; decide) hh) mw_X1_breakDown kl_X2_117 (isB_lt (by unfold isB; decide)) (fun cy => cell1 (isB_kd (by unfold isB; decide)).2.2.1) rfl rfl rfl (Nat.le_of_ble_eq_true rfl) ⟨Nat.le_of_ble_eq_true rfl, Nat.le_of_ble_eq_true rfl⟩ dX2_crash_24 ⟨Nat.le_of_ble_eq_true rfl, Nat.le_of_ble_eq_true rfl⟩ rfl ?_
  exact fin_i hF (Nat.le_of_ble_eq_true rfl) (Nat.le_of_ble_eq_true rfl) dX2_crash_27 (by rfl) (by rfl)
set_option maxRecDepth 20000 in
set_option maxHeartbeats 2000000 in
theorem x_pass {k : Nat} (hk : k ≤ 600) (hx : inB (nI k) (nI 1) (nI 600) = true) (hc : cadvS f (nI k) = true) (hT : ∀ i, i < 6 → isV (T.1 i)) {m : Nat} (hm : m ≤ 6) (hn : G 0 3 = nI m) : Does sz I_X2_pass [.ref (sz + 0), .int (nI k)] (patch G 1 7 f, T) 0 0 (.inl (some (avG (f 0 8 + nI k) k f 0 10 - f 0 10))) (patch (rmG G f T m) 1 7 (avG (f 0 8 + nI k) k f), rmT T m) := by
  refine Does.of (L := [(0, .ref (sz + 0)), (1, .int (nI k))]) (by decide +kernel) (Nat.le_of_ble_eq_true rfl) rfl ⟨rfl, (by simp), ⟨rfl, (by simp), trivial⟩⟩ (fun VV hF => ?_)
  have hX := hF.c
  refine ro_iload_n (i := 1) (q := 1) hX dX2_pass_0 rfl rfl rfl ?_
  refine ro_iconst (v := nI 1) (q := 2) hX dX2_pass_1 rfl rfl ?_
  refine ro_sipush (v := nI 600) (q := 5) hX dX2_pass_2 rfl rfl ?_
  refine ro_callSv (q9 := 8) hX (p_reqRange_t hx) mw_X2_requireRange kl_X2_51 rfl rfl (Nat.le_of_ble_eq_true rfl) ⟨Nat.le_of_ble_eq_true rfl, Nat.le_of_ble_eq_true rfl⟩ dX2_pass_5 ⟨Nat.le_of_ble_eq_true rfl, Nat.le_of_ble_eq_true rfl⟩ rfl ?_
  refine ro_aload_n (i := 0) (q := 9) hX dX2_pass_8 rfl rfl rfl ?_
  refine ro_Pga0 (q9 := 12) hX kf_X2_12 dX2_pass_9 rfl ?_
  refine ro_iload_n (i := 1) (q := 13) hX dX2_pass_12 rfl rfl rfl ?_
  refine ro_callVi (q9 := 16) hX (s_canAdvance (by unfold isB; decide)) mw_X1_canAdvance kl_X2_120 (isB_lt (by unfold isB; decide)) (fun cy => cell1 (isB_kd (by unfold isB; decide)).2.2.1) rfl rfl rfl (Nat.le_of_ble_eq_true rfl) ⟨Nat.le_of_ble_eq_true rfl, Nat.le_of_ble_eq_true rfl⟩ dX2_pass_13 ⟨Nat.le_of_ble_eq_true rfl, Nat.le_of_ble_eq_true rfl⟩ rfl ?_
  refine ro_callSv (q9 := 19) hX (p_reqState_t hc) mw_X2_requireState kl_X2_59 rfl rfl (Nat.le_of_ble_eq_true rfl) ⟨Nat.le_of_ble_eq_true rfl, Nat.le_of_ble_eq_true rfl⟩ dX2_pass_16 ⟨Nat.le_of_ble_eq_true rfl, Nat.le_of_ble_eq_true rfl⟩ rfl ?_
  refine ro_aload_n (i := 0) (q := 20) hX dX2_pass_19 rfl rfl rfl ?_
  refine ro_callVv (q9 := 23) hX (p_remember hT hm hn) mw_X2_remember kl_X2_63 (by decide) (fun cy => cell2 (by decide +kernel)) rfl rfl rfl (Nat.le_of_ble_eq_true rfl) ⟨Nat.le_of_ble_eq_true rfl, Nat.le_of_ble_eq_true rfl⟩ dX2_pass_20 ⟨Nat.le_of_ble_eq_true rfl, Nat.le_of_ble_eq_true rfl⟩ rfl ?_
  refine ro_aload_n (i := 0) (q := 24) hX dX2_pass_23 rfl rfl rfl ?_
  refine ro_Pga0 (q9 := 27) hX kf_X2_12 dX2_pass_24 rfl ?_
  refine ro_iload_n (i := 1) (q := 28) hX dX2_pass_27 rfl rfl rfl ?_
  refine ro_callVi (q9 := 31) hX (s_advance (by unfold isB; decide) (by omega)) mw_X1_advance kl_X2_123 (isB_lt (by unfold isB; decide)) (fun cy => cell1 (isB_kd (by unfold isB; decide)).2.2.1) rfl rfl rfl (Nat.le_of_ble_eq_true rfl) ⟨Nat.le_of_ble_eq_true rfl, Nat.le_of_ble_eq_true rfl⟩ dX2_pass_28 ⟨Nat.le_of_ble_eq_true rfl, Nat.le_of_ble_eq_true rfl⟩ rfl ?_
  exact fin_i hF (Nat.le_of_ble_eq_true rfl) (Nat.le_of_ble_eq_true rfl) dX2_pass_31 (by rfl) (by rfl)
set_option maxRecDepth 20000 in
set_option maxHeartbeats 2000000 in
theorem x_setTransferTime {x : Int32} (hx : inB x (nI 1) (nI 60) = true) (hT : ∀ i, i < 6 → isV (T.1 i)) {m : Nat} (hm : m ≤ 6) (hn : G 0 3 = nI m) : Does sz I_X2_setTransferTime [.ref (sz + 0), .int x] (patch G 1 7 f, T) 0 0 (.inl (some (f 0 9))) (patch (rmG G f T m) 1 7 (put f 0 9 x), rmT T m) := by
  refine Does.of (L := [(0, .ref (sz + 0)), (1, .int x)]) (by decide +kernel) (Nat.le_of_ble_eq_true rfl) rfl ⟨rfl, (by simp), ⟨rfl, (by simp), trivial⟩⟩ (fun VV hF => ?_)
  have hX := hF.c
  refine ro_iload_n (i := 1) (q := 1) hX dX2_setTransferTime_0 rfl rfl rfl ?_
  refine ro_iconst (v := nI 1) (q := 2) hX dX2_setTransferTime_1 rfl rfl ?_
  refine ro_bipush (v := nI 60) (q := 4) hX dX2_setTransferTime_2 rfl rfl ?_
  refine ro_callSv (q9 := 7) hX (p_reqRange_t hx) mw_X2_requireRange kl_X2_51 rfl rfl (Nat.le_of_ble_eq_true rfl) ⟨Nat.le_of_ble_eq_true rfl, Nat.le_of_ble_eq_true rfl⟩ dX2_setTransferTime_4 ⟨Nat.le_of_ble_eq_true rfl, Nat.le_of_ble_eq_true rfl⟩ rfl ?_
  refine ro_aload_n (i := 0) (q := 8) hX dX2_setTransferTime_7 rfl rfl rfl ?_
  refine ro_callVv (q9 := 11) hX (p_remember hT hm hn) mw_X2_remember kl_X2_63 (by decide) (fun cy => cell2 (by decide +kernel)) rfl rfl rfl (Nat.le_of_ble_eq_true rfl) ⟨Nat.le_of_ble_eq_true rfl, Nat.le_of_ble_eq_true rfl⟩ dX2_setTransferTime_8 ⟨Nat.le_of_ble_eq_true rfl, Nat.le_of_ble_eq_true rfl⟩ rfl ?_
  refine ro_aload_n (i := 0) (q := 12) hX dX2_setTransferTime_11 rfl rfl rfl ?_
  refine ro_Pga0 (q9 := 15) hX kf_X2_12 dX2_setTransferTime_12 rfl ?_
  refine ro_Sgi (j := 9) (q9 := 18) ⟨by decide, by decide⟩ hX (by unfold isB; decide) kf_X2_126 dX2_setTransferTime_15 rfl ?_
  refine ro_istore_n (i := 2) (q := 19) hX dX2_setTransferTime_18 rfl (Nat.le_of_ble_eq_true rfl) rfl ?_
  refine ro_aload_n (i := 0) (q := 20) hX dX2_setTransferTime_19 rfl rfl rfl ?_
  refine ro_Pga0 (q9 := 23) hX kf_X2_12 dX2_setTransferTime_20 rfl ?_
  refine ro_iload_n (i := 1) (q := 24) hX dX2_setTransferTime_23 rfl rfl rfl ?_
  refine ro_Spi (j := 9) (q9 := 27) ⟨by decide, by decide⟩ hX (by unfold isB; decide) kf_X2_126 dX2_setTransferTime_24 rfl ?_
  refine ro_iload_n (i := 2) (q := 28) hX dX2_setTransferTime_27 rfl rfl rfl ?_
  exact fin_i hF (Nat.le_of_ble_eq_true rfl) (Nat.le_of_ble_eq_true rfl) dX2_setTransferTime_28 (by rfl) (by rfl)
end
