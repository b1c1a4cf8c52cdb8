section
variable {sz r : Nat} {G : Nat → Nat → Int32} {T : (Nat → Nat) × Int64} {f : SV}
set_option maxRecDepth 20000 in
set_option maxHeartbeats 2000000 in
theorem x_status {p : Nat} (hp : p < 30) : Does sz I_X2_status [.ref (sz + 0), .int (nI p)] (patch G 1 7 f, T) 0 0 (.inl (some (stS f p))) (patch G 1 7 f, T) := by
  refine Does.of (L := [(0, .ref (sz + 0)), (1, .int (nI p))]) (by decide +kernel) (Nat.le_of_ble_eq_true rfl) rfl ⟨rfl, (by simp), ⟨rfl, (by simp), trivial⟩⟩ (fun VV hF => ?_)
  have hX := hF.c
  refine ro_iload_n (i := 1) (q := 1) hX dX2_status_0 rfl rfl rfl ?_
  refine ro_callSv (q9 := 4) hX (p_reqPage_t (isR_t hp (by decide))) mw_X2_requirePage kl_X2_47 rfl rfl (Nat.le_of_ble_eq_true rfl) ⟨Nat.le_of_ble_eq_true rfl, Nat.le_of_ble_eq_true rfl⟩ dX2_status_1 ⟨Nat.le_of_ble_eq_true rfl, Nat.le_of_ble_eq_true rfl⟩ rfl ?_
  refine ro_aload_n (i := 0) (q := 5) hX dX2_status_4 rfl rfl rfl ?_
  refine ro_Pga0 (q9 := 8) hX kf_X2_12 dX2_status_5 rfl ?_
  refine ro_iload_n (i := 1) (q := 9) hX dX2_status_8 rfl rfl rfl ?_
  refine ro_callVi (q9 := 12) hX (s_statusOf (by unfold isB; decide) hp) mw_X1_statusOf kl_X2_173 (isB_lt (by unfold isB; decide)) (fun cy => cell1 (isB_kd (by unfold isB; decide)).2.2.1) rfl rfl rfl (Nat.le_of_ble_eq_true rfl) ⟨Nat.le_of_ble_eq_true rfl, Nat.le_of_ble_eq_true rfl⟩ dX2_status_9 ⟨Nat.le_of_ble_eq_true rfl, Nat.le_of_ble_eq_true rfl⟩ rfl ?_
  exact fin_i hF (Nat.le_of_ble_eq_true rfl) (Nat.le_of_ble_eq_true rfl) dX2_status_12 (by rfl) (by rfl)
set_option maxRecDepth 20000 in
set_option maxHeartbeats 2000000 in
theorem x_copies {p : Nat} (hp : p < 30) : Does sz I_X2_copies [.ref (sz + 0), .int (nI p)] (patch G 1 7 f, T) 0 0 (.inl (some (cpS f p))) (patch G 1 7 f, T) := by
  refine Does.of (L := [(0, .ref (sz + 0)), (1, .int (nI p))]) (by decide +kernel) (Nat.le_of_ble_eq_true rfl) rfl ⟨rfl, (by simp), ⟨rfl, (by simp), trivial⟩⟩ (fun VV hF => ?_)
  have hX := hF.c
  refine ro_iload_n (i := 1) (q := 1) hX dX2_copies_0 rfl rfl rfl ?_
  refine ro_callSv (q9 := 4) hX (p_reqPage_t (isR_t hp (by decide))) mw_X2_requirePage kl_X2_47 rfl rfl (Nat.le_of_ble_eq_true rfl) ⟨Nat.le_of_ble_eq_true rfl, Nat.le_of_ble_eq_true rfl⟩ dX2_copies_1 ⟨Nat.le_of_ble_eq_true rfl, Nat.le_of_ble_eq_true rfl⟩ rfl ?_
  refine ro_aload_n (i := 0) (q := 5) hX dX2_copies_4 rfl rfl rfl ?_
  refine ro_Pga0 (q9 := 8) hX kf_X2_12 dX2_copies_5 rfl ?_
  refine ro_iload_n (i := 1) (q := 9) hX dX2_copies_8 rfl rfl rfl ?_
  refine ro_callVi (q9 := 12) hX (s_copySet (by unfold isB; decide) hp) mw_X1_copySet kl_X2_176 (isB_lt (by unfold isB; decide)) (fun cy => cell1 (isB_kd (by unfold isB; decide)).2.2.1) rfl rfl rfl (Nat.le_of_ble_eq_true rfl) ⟨Nat.le_of_ble_eq_true rfl, Nat.le_of_ble_eq_true rfl⟩ dX2_copies_9 ⟨Nat.le_of_ble_eq_true rfl, Nat.le_of_ble_eq_true rfl⟩ rfl ?_
  exact fin_i hF (Nat.le_of_ble_eq_true rfl) (Nat.le_of_ble_eq_true rfl) dX2_copies_12 (by rfl) (by rfl)
set_option maxRecDepth 20000 in
set_option maxHeartbeats 2000000 in
theorem x_countStatus {x : Int32} (hx : inB x (nI 0) (nI 2) = true) (hc : ¬ x = -2) : Does sz I_X2_countStatus [.ref (sz + 0), .int x] (patch G 1 7 f, T) 0 0 (.inl (some (nI (cntS f x 30)))) (patch G 1 7 f, T) := by
  refine Does.of (L := [(0, .ref (sz + 0)), (1, .int x)]) (by decide +kernel) (Nat.le_of_ble_eq_true rfl) rfl ⟨rfl, (by simp), ⟨rfl, (by simp), trivial⟩⟩ (fun VV hF => ?_)
  have hX := hF.c
  refine ro_iload_n (i := 1) (q := 1) hX dX2_countStatus_0 rfl rfl rfl ?_
  refine ro_bipush (v := (-2)) (q := 3) hX dX2_countStatus_1 rfl rfl ?_
  refine ro_icmp_eq (tgt := 12) (q := 6) hX dX2_countStatus_3 (by decide) rfl (fun q => absurd q (hc)) (fun _ => ?_)
  refine ro_iload_n (i := 1) (q := 7) hX dX2_countStatus_6 rfl rfl rfl ?_
  refine ro_iconst (v := nI 0) (q := 8) hX dX2_countStatus_7 rfl rfl ?_
  refine ro_iconst (v := nI 2) (q := 9) hX dX2_countStatus_8 rfl rfl ?_
  refine ro_callSv (q9 := 12) hX (p_reqRange_t hx) mw_X2_requireRange kl_X2_51 rfl rfl (Nat.le_of_ble_eq_true rfl) ⟨Nat.le_of_ble_eq_true rfl, Nat.le_of_ble_eq_true rfl⟩ dX2_countStatus_9 ⟨Nat.le_of_ble_eq_true rfl, Nat.le_of_ble_eq_true rfl⟩ rfl ?_
  refine ro_aload_n (i := 0) (q := 13) hX dX2_countStatus_12 rfl rfl rfl ?_
  refine ro_Pga0 (q9 := 16) hX kf_X2_12 dX2_countStatus_13 rfl ?_
  refine ro_iload_n (i := 1) (q := 17) hX dX2_countStatus_16 rfl rfl rfl ?_
  refine ro_callVi (q9 := 20) hX (s_pagesWithStatus (by unfold isB; decide)) mw_X1_pagesWithStatus kl_X2_179 (isB_lt (by unfold isB; decide)) (fun cy => cell1 (isB_kd (by unfold isB; decide)).2.2.1) rfl rfl rfl (Nat.le_of_ble_eq_true rfl) ⟨Nat.le_of_ble_eq_true rfl, Nat.le_of_ble_eq_true rfl⟩ dX2_countStatus_17 ⟨Nat.le_of_ble_eq_true rfl, Nat.le_of_ble_eq_true rfl⟩ rfl ?_
  exact fin_i hF (Nat.le_of_ble_eq_true rfl) (Nat.le_of_ble_eq_true rfl) dX2_countStatus_20 (by rfl) (by rfl)
set_option maxRecDepth 20000 in
set_option maxHeartbeats 2000000 in
theorem x_countStatus_b {x : Int32} (hc : x = -2) : Does sz I_X2_countStatus [.ref (sz + 0), .int x] (patch G 1 7 f, T) 0 0 (.inl (some (nI (cntS f x 30)))) (patch G 1 7 f, T) := by
  refine Does.of (L := [(0, .ref (sz + 0)), (1, .int x)]) (by decide +kernel) (Nat.le_of_ble_eq_true rfl) rfl ⟨rfl, (by simp), ⟨rfl, (by simp), trivial⟩⟩ (fun VV hF => ?_)
  have hX := hF.c
  refine ro_iload_n (i := 1) (q := 1) hX dX2_countStatus_0 rfl rfl rfl ?_
  refine ro_bipush (v := (-2)) (q := 3) hX dX2_countStatus_1 rfl rfl ?_
  refine ro_icmp_eq (tgt := 12) (q := 6) hX dX2_countStatus_3 (by decide) rfl (fun _ => ?_) (fun q => absurd (hc) q)
  refine ro_aload_n (i := 0) (q := 13) hX dX2_countStatus_12 rfl rfl rfl ?_
  refine ro_Pga0 (q9 := 16) hX kf_X2_12 dX2_countStatus_13 rfl ?_
  refine ro_iload_n (i := 1) (q := 17) hX dX2_countStatus_16 rfl rfl rfl ?_
  refine ro_callVi (q9 := 20) hX (s_pagesWithStatus (by unfold isB; decide)) mw_X1_pagesWithStatus kl_X2_179 (isB_lt (by unfold isB; decide)) (fun cy => cell1 (isB_kd (by unfold isB; decide)).2.2.1) rfl rfl rfl (Nat.le_of_ble_eq_true rfl) ⟨Nat.le_of_ble_eq_true rfl, Nat.le_of_ble_eq_true rfl⟩ dX2_countStatus_17 ⟨Nat.le_of_ble_eq_true rfl, Nat.le_of_ble_eq_true rfl⟩ rfl ?_
  exact fin_i hF (Nat.le_of_ble_eq_true rfl) (Nat.le_of_ble_eq_true rfl) dX2_countStatus_20 (by rfl) (by rfl)
set_option maxRecDepth 20000 in
set_option maxHeartbeats 2000000 in
theorem x_mode {h : Nat} (hh : h < 6) : Does sz I_X2_mode [.ref (sz + 0), .int (nI h)] (patch G 1 7 f, T) 0 0 (.inl (some (f 1 h))) (patch G 1 7 f, T) := by
  refine Does.of (L := [(0, .ref (sz + 0)), (1, .int (nI h))]) (by decide +kernel) (Nat.le_of_ble_eq_true rfl) rfl ⟨rfl, (by simp), ⟨rfl, (by simp), trivial⟩⟩ (fun VV hF => ?_)
  have hX := hF.c
  refine ro_iload_n (i := 1) (q := 1) hX dX2_mode_0 rfl rfl rfl ?_
  refine ro_callSv (q9 := 4) hX (p_reqHost_t (isR_t hh (by decide))) mw_X2_requireHost kl_X2_87 rfl rfl (Nat.le_of_ble_eq_true rfl) ⟨Nat.le_of_ble_eq_true rfl, Nat.le_of_ble_eq_true rfl⟩ dX2_mode_1 ⟨Nat.le_of_ble_eq_true rfl, Nat.le_of_ble_eq_true rfl⟩ rfl ?_
  refine ro_aload_n (i := 0) (q := 5) hX dX2_mode_4 rfl rfl rfl ?_
  refine ro_Pga0 (q9 := 8) hX kf_X2_12 dX2_mode_5 rfl ?_
  refine ro_Sga (j := 0) (a := 1) (q9 := 11) ⟨by decide, rfl⟩ hX (by unfold isB; decide) kf_X2_182 dX2_mode_8 rfl ?_
  refine ro_iload_n (i := 1) (q := 12) hX dX2_mode_11 rfl rfl rfl ?_
  refine ro_Sald (a := 1) (n := h) (q9 := 13) ⟨by decide, by decide⟩ hX (by unfold isB; decide) rfl (show h < 6 from by omega) dX2_mode_12 rfl ?_
  exact fin_i hF (Nat.le_of_ble_eq_true rfl) (Nat.le_of_ble_eq_true rfl) dX2_mode_13 (by rfl) (by rfl)
set_option maxRecDepth 20000 in
set_option maxHeartbeats 2000000 in
theorem x_isConnected {h : Nat} (hh : h < 6) : Does sz I_X2_isConnected [.ref (sz + 0), .int (nI h)] (patch G 1 7 f, T) 0 0 (.inl (some (bi (tb (f 0 7) (nI h))))) (patch G 1 7 f, T) := by
  refine Does.of (L := [(0, .ref (sz + 0)), (1, .int (nI h))]) (by decide +kernel) (Nat.le_of_ble_eq_true rfl) rfl ⟨rfl, (by simp), ⟨rfl, (by simp), trivial⟩⟩ (fun VV hF => ?_)
  have hX := hF.c
  refine ro_iload_n (i := 1) (q := 1) hX dX2_isConnected_0 rfl rfl rfl ?_
  refine ro_callSv (q9 := 4) hX (p_reqHost_t (isR_t hh (by decide))) mw_X2_requireHost kl_X2_87 rfl rfl (Nat.le_of_ble_eq_true rfl) ⟨Nat.le_of_ble_eq_true rfl, Nat.le_of_ble_eq_true rfl⟩ dX2_isConnected_1 ⟨Nat.le_of_ble_eq_true rfl, Nat.le_of_ble_eq_true rfl⟩ rfl ?_
  refine ro_aload_n (i := 0) (q := 5) hX dX2_isConnected_4 rfl rfl rfl ?_
  refine ro_Pga0 (q9 := 8) hX kf_X2_12 dX2_isConnected_5 rfl ?_
  refine ro_Sgi (j := 7) (q9 := 11) ⟨by decide, by decide⟩ hX (by unfold isB; decide) kf_X2_185 dX2_isConnected_8 rfl ?_
  refine ro_iload_n (i := 1) (q := 12) hX dX2_isConnected_11 rfl rfl rfl ?_
  refine ro_callSi (q9 := 15) hX (s_has) mw_X2_has kl_X2_169 rfl rfl (Nat.le_of_ble_eq_true rfl) ⟨Nat.le_of_ble_eq_true rfl, Nat.le_of_ble_eq_true rfl⟩ dX2_isConnected_12 ⟨Nat.le_of_ble_eq_true rfl, Nat.le_of_ble_eq_true rfl⟩ rfl ?_
  exact fin_z hF (Nat.le_of_ble_eq_true rfl) (Nat.le_of_ble_eq_true rfl) dX2_isConnected_15 (bi_nar _) (by rfl) (by rfl)
set_option maxRecDepth 20000 in
set_option maxHeartbeats 2000000 in
theorem x_usedRoom {h : Nat} (hh : h < 6) : Does sz I_X2_usedRoom [.ref (sz + 0), .int (nI h)] (patch G 1 7 f, T) 0 0 (.inl (some (usS f h))) (patch G 1 7 f, T) := by
  refine Does.of (L := [(0, .ref (sz + 0)), (1, .int (nI h))]) (by decide +kernel) (Nat.le_of_ble_eq_true rfl) rfl ⟨rfl, (by simp), ⟨rfl, (by simp), trivial⟩⟩ (fun VV hF => ?_)
  have hX := hF.c
  refine ro_iload_n (i := 1) (q := 1) hX dX2_usedRoom_0 rfl rfl rfl ?_
  refine ro_callSv (q9 := 4) hX (p_reqHost_t (isR_t hh (by decide))) mw_X2_requireHost kl_X2_87 rfl rfl (Nat.le_of_ble_eq_true rfl) ⟨Nat.le_of_ble_eq_true rfl, Nat.le_of_ble_eq_true rfl⟩ dX2_usedRoom_1 ⟨Nat.le_of_ble_eq_true rfl, Nat.le_of_ble_eq_true rfl⟩ rfl ?_
  refine ro_aload_n (i := 0) (q := 5) hX dX2_usedRoom_4 rfl rfl rfl ?_
  refine ro_Pga0 (q9 := 8) hX kf_X2_12 dX2_usedRoom_5 rfl ?_
  refine ro_iload_n (i := 1) (q := 9) hX dX2_usedRoom_8 rfl rfl rfl ?_
  refine ro_callVi (q9 := 12) hX (s_usedOn (by unfold isB; decide) hh) mw_X1_usedOn kl_X2_188 (isB_lt (by unfold isB; decide)) (fun cy => cell1 (isB_kd (by unfold isB; decide)).2.2.1) rfl rfl rfl (Nat.le_of_ble_eq_true rfl) ⟨Nat.le_of_ble_eq_true rfl, Nat.le_of_ble_eq_true rfl⟩ dX2_usedRoom_9 ⟨Nat.le_of_ble_eq_true rfl, Nat.le_of_ble_eq_true rfl⟩ rfl ?_
  exact fin_i hF (Nat.le_of_ble_eq_true rfl) (Nat.le_of_ble_eq_true rfl) dX2_usedRoom_12 (by rfl) (by rfl)
set_option maxRecDepth 20000 in
set_option maxHeartbeats 2000000 in
theorem x_freeRoom {h : Nat} (hh : h < 6) : Does sz I_X2_freeRoom [.ref (sz + 0), .int (nI h)] (patch G 1 7 f, T) 0 0 (.inl (some (rmS f h))) (patch G 1 7 f, T) := by
  refine Does.of (L := [(0, .ref (sz + 0)), (1, .int (nI h))]) (by decide +kernel) (Nat.le_of_ble_eq_true rfl) rfl ⟨rfl, (by simp), ⟨rfl, (by simp), trivial⟩⟩ (fun VV hF => ?_)
  have hX := hF.c
  refine ro_iload_n (i := 1) (q := 1) hX dX2_freeRoom_0 rfl rfl rfl ?_
  refine ro_callSv (q9 := 4) hX (p_reqHost_t (isR_t hh (by decide))) mw_X2_requireHost kl_X2_87 rfl rfl (Nat.le_of_ble_eq_true rfl) ⟨Nat.le_of_ble_eq_true rfl, Nat.le_of_ble_eq_true rfl⟩ dX2_freeRoom_1 ⟨Nat.le_of_ble_eq_true rfl, Nat.le_of_ble_eq_true rfl⟩ rfl ?_
  refine ro_aload_n (i := 0) (q := 5) hX dX2_freeRoom_4 rfl rfl rfl ?_
  refine ro_Pga0 (q9 := 8) hX kf_X2_12 dX2_freeRoom_5 rfl ?_
  refine ro_iload_n (i := 1) (q := 9) hX dX2_freeRoom_8 rfl rfl rfl ?_
  refine ro_callVi (q9 := 12) hX (s_roomOn (by unfold isB; decide) hh) mw_X1_roomOn kl_X2_191 (isB_lt (by unfold isB; decide)) (fun cy => cell1 (isB_kd (by unfold isB; decide)).2.2.1) rfl rfl rfl (Nat.le_of_ble_eq_true rfl) ⟨Nat.le_of_ble_eq_true rfl, Nat.le_of_ble_eq_true rfl⟩ dX2_freeRoom_9 ⟨Nat.le_of_ble_eq_true rfl, Nat.le_of_ble_eq_true rfl⟩ rfl ?_
  exact fin_i hF (Nat.le_of_ble_eq_true rfl) (Nat.le_of_ble_eq_true rfl) dX2_freeRoom_12 (by rfl) (by rfl)
set_option maxRecDepth 20000 in
set_option maxHeartbeats 2000000 in
theorem x_deadlineIn {h : Nat} (hh : h < 6) : Does sz I_X2_deadlineIn [.ref (sz + 0), .int (nI h)] (patch G 1 7 f, T) 0 0 (.inl (some (if f 1 h = nI 2 then f 3 h - f 0 8 else -1))) (patch G 1 7 f, T) := by
  refine Does.of (L := [(0, .ref (sz + 0)), (1, .int (nI h))]) (by decide +kernel) (Nat.le_of_ble_eq_true rfl) rfl ⟨rfl, (by simp), ⟨rfl, (by simp), trivial⟩⟩ (fun VV hF => ?_)
  have hX := hF.c
  refine ro_iload_n (i := 1) (q := 1) hX dX2_deadlineIn_0 rfl rfl rfl ?_
  refine ro_callSv (q9 := 4) hX (p_reqHost_t (isR_t hh (by decide))) mw_X2_requireHost kl_X2_87 rfl rfl (Nat.le_of_ble_eq_true rfl) ⟨Nat.le_of_ble_eq_true rfl, Nat.le_of_ble_eq_true rfl⟩ dX2_deadlineIn_1 ⟨Nat.le_of_ble_eq_true rfl, Nat.le_of_ble_eq_true rfl⟩ rfl ?_
  refine ro_aload_n (i := 0) (q := 5) hX dX2_deadlineIn_4 rfl rfl rfl ?_
  refine ro_Pga0 (q9 := 8) hX kf_X2_12 dX2_deadlineIn_5 rfl ?_
  refine ro_Sga (j := 0) (a := 1) (q9 := 11) ⟨by decide, rfl⟩ hX (by unfold isB; decide) kf_X2_182 dX2_deadlineIn_8 rfl ?_
  refine ro_iload_n (i := 1) (q := 12) hX dX2_deadlineIn_11 rfl rfl rfl ?_
  refine ro_Sald (a := 1) (n := h) (q9 := 13) ⟨by decide, by decide⟩ hX (by unfold isB; decide) rfl (show h < 6 from by omega) dX2_deadlineIn_12 rfl ?_
  refine ro_iconst (v := nI 2) (q := 14) hX dX2_deadlineIn_13 rfl rfl ?_
  refine ro_icmp_ne (tgt := 37) (q := 17) hX dX2_deadlineIn_14 (by decide) rfl (fun q1 => ?_) (fun q1 => ?_)
  · skip
    refine ro_iconst (v := (-1)) (q := 38) hX dX2_deadlineIn_37 rfl rfl ?_
    exact fin_i hF (Nat.le_of_ble_eq_true rfl) (Nat.le_of_ble_eq_true rfl) dX2_deadlineIn_38 (by first | with_reducible rfl | (simp [*]; done) | ((repeat' split) <;> first | with_reducible rfl | contradiction | (simp_all; done)) | rfl) (by rfl)
  · skip
    refine ro_aload_n (i := 0) (q := 18) hX dX2_deadlineIn_17 rfl rfl rfl ?_
    refine ro_Pga0 (q9 := 21) hX kf_X2_12 dX2_deadlineIn_18 rfl ?_
    refine ro_Sga (j := 2) (a := 3) (q9 := 24) ⟨by decide, rfl⟩ hX (by unfold isB; decide) kf_X2_194 dX2_deadlineIn_21 rfl ?_
    refine ro_iload_n (i := 1) (q := 25) hX dX2_deadlineIn_24 rfl rfl rfl ?_
    refine ro_Sald (a := 3) (n := h) (q9 := 26) ⟨by decide, by decide⟩ hX (by unfold isB; decide) rfl (show h < 6 from by omega) dX2_deadlineIn_25 rfl ?_
    refine ro_aload_n (i := 0) (q := 27) hX dX2_deadlineIn_26 rfl rfl rfl ?_
    refine ro_Pga0 (q9 := 30) hX kf_X2_12 dX2_deadlineIn_27 rfl ?_
    refine ro_Sgi (j := 8) (q9 := 33) ⟨by decide, by decide⟩ hX (by unfold isB; decide) kf_X2_166 dX2_deadlineIn_30 rfl ?_
    refine ro_isub (q := 34) hX dX2_deadlineIn_33 rfl ?_
    refine ro_goto (tgt := 38) hX dX2_deadlineIn_34 (by decide) ?_
    exact fin_i hF (Nat.le_of_ble_eq_true rfl) (Nat.le_of_ble_eq_true rfl) dX2_deadlineIn_38 (by first | with_reducible rfl | (simp [*]; done) | ((repeat' split) <;> first | with_reducible rfl | contradiction | (simp_all; done)) | rfl) (by rfl)
set_option maxRecDepth 20000 in
set_option maxHeartbeats 2000000 in
theorem x_replica {h : Nat} (hh : h < 6) {p : Nat} (hp : p < 30) : Does sz I_X2_replica [.ref (sz + 0), .int (nI h), .int (nI p)] (patch G 1 7 f, T) 0 0 (.inl (some (if tb (f 4 h) (nI p) then nI 1 else if tb (f 5 h) (nI p) then nI 2 else nI 0))) (patch G 1 7 f, T) := by
  refine Does.of (L := [(0, .ref (sz + 0)), (1, .int (nI h)), (2, .int (nI p))]) (by decide +kernel) (Nat.le_of_ble_eq_true rfl) rfl ⟨rfl, (by simp), ⟨rfl, (by simp), ⟨rfl, (by simp), trivial⟩⟩⟩ (fun VV hF => ?_)
  have hX := hF.c
  refine ro_iload_n (i := 1) (q := 1) hX dX2_replica_0 rfl rfl rfl ?_
  refine ro_callSv (q9 := 4) hX (p_reqHost_t (isR_t hh (by decide))) mw_X2_requireHost kl_X2_87 rfl rfl (Nat.le_of_ble_eq_true rfl) ⟨Nat.le_of_ble_eq_true rfl, Nat.le_of_ble_eq_true rfl⟩ dX2_replica_1 ⟨Nat.le_of_ble_eq_true rfl, Nat.le_of_ble_eq_true rfl⟩ rfl ?_
  refine ro_iload_n (i := 2) (q := 5) hX dX2_replica_4 rfl rfl rfl ?_
  refine ro_callSv (q9 := 8) hX (p_reqPage_t (isR_t hp (by decide))) mw_X2_requirePage kl_X2_47 rfl rfl (Nat.le_of_ble_eq_true rfl) ⟨Nat.le_of_ble_eq_true rfl, Nat.le_of_ble_eq_true rfl⟩ dX2_replica_5 ⟨Nat.le_of_ble_eq_true rfl, Nat.le_of_ble_eq_true rfl⟩ rfl ?_
  refine ro_aload_n (i := 0) (q := 9) hX dX2_replica_8 rfl rfl rfl ?_
  refine ro_Pga0 (q9 := 12) hX kf_X2_12 dX2_replica_9 rfl ?_
  refine ro_Sga (j := 3) (a := 4) (q9 := 15) ⟨by decide, rfl⟩ hX (by unfold isB; decide) kf_X2_197 dX2_replica_12 rfl ?_
  refine ro_iload_n (i := 1) (q := 16) hX dX2_replica_15 rfl rfl rfl ?_
  refine ro_Sald (a := 4) (n := h) (q9 := 17) ⟨by decide, by decide⟩ hX (by unfold isB; decide) rfl (show h < 6 from by omega) dX2_replica_16 rfl ?_
  refine ro_iload_n (i := 2) (q := 18) hX dX2_replica_17 rfl rfl rfl ?_
  refine ro_callSi (q9 := 21) hX (s_has) mw_X2_has kl_X2_169 rfl rfl (Nat.le_of_ble_eq_true rfl) ⟨Nat.le_of_ble_eq_true rfl, Nat.le_of_ble_eq_true rfl⟩ dX2_replica_18 ⟨Nat.le_of_ble_eq_true rfl, Nat.le_of_ble_eq_true rfl⟩ rfl ?_
  refine ro_ifb_eq (tgt := 26) (q := 24) hX dX2_replica_21 (by decide) rfl (fun q1 => ?_) (fun q1 => ?_)
  · skip
    refine ro_aload_n (i := 0) (q := 27) hX dX2_replica_26 rfl rfl rfl ?_
    refine ro_Pga0 (q9 := 30) hX kf_X2_12 dX2_replica_27 rfl ?_
    refine ro_Sga (j := 4) (a := 5) (q9 := 33) ⟨by decide, rfl⟩ hX (by unfold isB; decide) kf_X2_200 dX2_replica_30 rfl ?_
    refine ro_iload_n (i := 1) (q := 34) hX dX2_replica_33 rfl rfl rfl ?_
    refine ro_Sald (a := 5) (n := h) (q9 := 35) ⟨by decide, by decide⟩ hX (by unfold isB; decide) rfl (show h < 6 from by omega) dX2_replica_34 rfl ?_
    refine ro_iload_n (i := 2) (q := 36) hX dX2_replica_35 rfl rfl rfl ?_
    refine ro_callSi (q9 := 39) hX (s_has) mw_X2_has kl_X2_169 rfl rfl (Nat.le_of_ble_eq_true rfl) ⟨Nat.le_of_ble_eq_true rfl, Nat.le_of_ble_eq_true rfl⟩ dX2_replica_36 ⟨Nat.le_of_ble_eq_true rfl, Nat.le_of_ble_eq_true rfl⟩ rfl ?_
    refine ro_ifb_eq (tgt := 46) (q := 42) hX dX2_replica_39 (by decide) rfl (fun q2 => ?_) (fun q2 => ?_)
    · skip
      refine ro_iconst (v := nI 0) (q := 47) hX dX2_replica_46 rfl rfl ?_
      exact fin_i hF (Nat.le_of_ble_eq_true rfl) (Nat.le_of_ble_eq_true rfl) dX2_replica_47 (by first | with_reducible rfl | (simp [*]; done) | ((repeat' split) <;> first | with_reducible rfl | contradiction | (simp_all; done)) | rfl) (by rfl)
    · skip
      refine ro_iconst (v := nI 2) (q := 43) hX dX2_replica_42 rfl rfl ?_
      refine ro_goto (tgt := 47) hX dX2_replica_43 (by decide) ?_
      exact fin_i hF (Nat.le_of_ble_eq_true rfl) (Nat.le_of_ble_eq_true rfl) dX2_replica_47 (by first | with_reducible rfl | (simp [*]; done) | ((repeat' split) <;> first | with_reducible rfl | contradiction | (simp_all; done)) | rfl) (by rfl)
  · skip
    refine ro_iconst (v := nI 1) (q := 25) hX dX2_replica_24 rfl rfl ?_
    exact fin_i hF (Nat.le_of_ble_eq_true rfl) (Nat.le_of_ble_eq_true rfl) dX2_replica_25 (by first | with_reducible rfl | (simp [*]; done) | ((repeat' split) <;> first | with_reducible rfl | contradiction | (simp_all; done)) | rfl) (by rfl)
set_option maxRecDepth 20000 in
set_option maxHeartbeats 2000000 in
theorem x_transfer_w0 : Does sz I_X2_transfer [.ref (sz + 0), .int (nI 0)] (patch G 1 7 f, T) 0 0 (.inl (some (if f 0 11 = -1 then -1 else f 0 11))) (patch G 1 7 f, T) := by
  refine Does.of (L := [(0, .ref (sz + 0)), (1, .int (nI 0))]) (by decide +kernel) (Nat.le_of_ble_eq_true rfl) rfl ⟨rfl, (by simp), ⟨rfl, (by simp), trivial⟩⟩ (fun VV hF => ?_)
  have hX := hF.c
  refine ro_iload_n (i := 1) (q := 1) hX dX2_transfer_0 rfl rfl rfl ?_
  refine ro_iconst (v := nI 0) (q := 2) hX dX2_transfer_1 rfl rfl ?_
  refine ro_iconst (v := nI 3) (q := 3) hX dX2_transfer_2 rfl rfl ?_
  refine ro_callSv (q9 := 6) hX (p_reqRange_t (by decide +kernel)) mw_X2_requireRange kl_X2_51 rfl rfl (Nat.le_of_ble_eq_true rfl) ⟨Nat.le_of_ble_eq_true rfl, Nat.le_of_ble_eq_true rfl⟩ dX2_transfer_3 ⟨Nat.le_of_ble_eq_true rfl, Nat.le_of_ble_eq_true rfl⟩ rfl ?_
  refine ro_aload_n (i := 0) (q := 7) hX dX2_transfer_6 rfl rfl rfl ?_
  refine ro_Pga0 (q9 := 10) hX kf_X2_12 dX2_transfer_7 rfl ?_
  refine ro_Sgi (j := 11) (q9 := 13) ⟨by decide, by decide⟩ hX (by unfold isB; decide) kf_X2_203 dX2_transfer_10 rfl ?_
  refine ro_iconst (v := (-1)) (q := 14) hX dX2_transfer_13 rfl rfl ?_
  refine ro_icmp_ne (tgt := 19) (q := 17) hX dX2_transfer_14 (by decide) rfl (fun q1 => ?_) (fun q1 => ?_)
  · skip
    refine ro_iload_n (i := 1) (q := 20) hX dX2_transfer_19 rfl rfl rfl ?_
    refine ro_tableIn (tgt := 48) (off := 28) hX dX2_transfer_20 (by decide) (by decide) (by decide +kernel) (by decide) ?_
    refine ro_aload_n (i := 0) (q := 49) hX dX2_transfer_48 rfl rfl rfl ?_
    refine ro_Pga0 (q9 := 52) hX kf_X2_12 dX2_transfer_49 rfl ?_
    refine ro_Sgi (j := 11) (q9 := 55) ⟨by decide, by decide⟩ hX (by unfold isB; decide) kf_X2_203 dX2_transfer_52 rfl ?_
    exact fin_i hF (Nat.le_of_ble_eq_true rfl) (Nat.le_of_ble_eq_true rfl) dX2_transfer_55 (by first | with_reducible rfl | (simp [*]; done) | ((repeat' split) <;> first | with_reducible rfl | contradiction | (simp_all; done)) | rfl) (by rfl)
  · skip
    refine ro_iconst (v := (-1)) (q := 18) hX dX2_transfer_17 rfl rfl ?_
    exact fin_i hF (Nat.le_of_ble_eq_true rfl) (Nat.le_of_ble_eq_true rfl) dX2_transfer_18 (by first | with_reducible rfl | (simp [*]; done) | ((repeat' split) <;> first | with_reducible rfl | contradiction | (simp_all; done)) | rfl) (by rfl)
set_option maxRecDepth 20000 in
set_option maxHeartbeats 2000000 in
theorem x_transfer_w1 : Does sz I_X2_transfer [.ref (sz + 0), .int (nI 1)] (patch G 1 7 f, T) 0 0 (.inl (some (if f 0 11 = -1 then -1 else f 0 12))) (patch G 1 7 f, T) := by
  refine Does.of (L := [(0, .ref (sz + 0)), (1, .int (nI 1))]) (by decide +kernel) (Nat.le_of_ble_eq_true rfl) rfl ⟨rfl, (by simp), ⟨rfl, (by simp), trivial⟩⟩ (fun VV hF => ?_)
  have hX := hF.c
  refine ro_iload_n (i := 1) (q := 1) hX dX2_transfer_0 rfl rfl rfl ?_
  refine ro_iconst (v := nI 0) (q := 2) hX dX2_transfer_1 rfl rfl ?_
  refine ro_iconst (v := nI 3) (q := 3) hX dX2_transfer_2 rfl rfl ?_
  refine ro_callSv (q9 := 6) hX (p_reqRange_t (by decide +kernel)) mw_X2_requireRange kl_X2_51 rfl rfl (Nat.le_of_ble_eq_true rfl) ⟨Nat.le_of_ble_eq_true rfl, Nat.le_of_ble_eq_true rfl⟩ dX2_transfer_3 ⟨Nat.le_of_ble_eq_true rfl, Nat.le_of_ble_eq_true rfl⟩ rfl ?_
  refine ro_aload_n (i := 0) (q := 7) hX dX2_transfer_6 rfl rfl rfl ?_
  refine ro_Pga0 (q9 := 10) hX kf_X2_12 dX2_transfer_7 rfl ?_
  refine ro_Sgi (j := 11) (q9 := 13) ⟨by decide, by decide⟩ hX (by unfold isB; decide) kf_X2_203 dX2_transfer_10 rfl ?_
  refine ro_iconst (v := (-1)) (q := 14) hX dX2_transfer_13 rfl rfl ?_
  refine ro_icmp_ne (tgt := 19) (q := 17) hX dX2_transfer_14 (by decide) rfl (fun q1 => ?_) (fun q1 => ?_)
  · skip
    refine ro_iload_n (i := 1) (q := 20) hX dX2_transfer_19 rfl rfl rfl ?_
    refine ro_tableIn (tgt := 56) (off := 36) hX dX2_transfer_20 (by decide) (by decide) (by decide +kernel) (by decide) ?_
    refine ro_aload_n (i := 0) (q := 57) hX dX2_transfer_56 rfl rfl rfl ?_
    refine ro_Pga0 (q9 := 60) hX kf_X2_12 dX2_transfer_57 rfl ?_
    refine ro_Sgi (j := 12) (q9 := 63) ⟨by decide, by decide⟩ hX (by unfold isB; decide) kf_X2_206 dX2_transfer_60 rfl ?_
    exact fin_i hF (Nat.le_of_ble_eq_true rfl) (Nat.le_of_ble_eq_true rfl) dX2_transfer_63 (by first | with_reducible rfl | (simp [*]; done) | ((repeat' split) <;> first | with_reducible rfl | contradiction | (simp_all; done)) | rfl) (by rfl)
  · skip
    refine ro_iconst (v := (-1)) (q := 18) hX dX2_transfer_17 rfl rfl ?_
    exact fin_i hF (Nat.le_of_ble_eq_true rfl) (Nat.le_of_ble_eq_true rfl) dX2_transfer_18 (by first | with_reducible rfl | (simp [*]; done) | ((repeat' split) <;> first | with_reducible rfl | contradiction | (simp_all; done)) | rfl) (by rfl)
set_option maxRecDepth 20000 in
set_option maxHeartbeats 2000000 in
theorem x_transfer_w2 : Does sz I_X2_transfer [.ref (sz + 0), .int (nI 2)] (patch G 1 7 f, T) 0 0 (.inl (some (if f 0 11 = -1 then -1 else f 0 13))) (patch G 1 7 f, T) := by
  refine Does.of (L := [(0, .ref (sz + 0)), (1, .int (nI 2))]) (by decide +kernel) (Nat.le_of_ble_eq_true rfl) rfl ⟨rfl, (by simp), ⟨rfl, (by simp), trivial⟩⟩ (fun VV hF => ?_)
  have hX := hF.c
  refine ro_iload_n (i := 1) (q := 1) hX dX2_transfer_0 rfl rfl rfl ?_
  refine ro_iconst (v := nI 0) (q := 2) hX dX2_transfer_1 rfl rfl ?_
  refine ro_iconst (v := nI 3) (q := 3) hX dX2_transfer_2 rfl rfl ?_
  refine ro_callSv (q9 := 6) hX (p_reqRange_t (by decide +kernel)) mw_X2_requireRange kl_X2_51 rfl rfl (Nat.le_of_ble_eq_true rfl) ⟨Nat.le_of_ble_eq_true rfl, Nat.le_of_ble_eq_true rfl⟩ dX2_transfer_3 ⟨Nat.le_of_ble_eq_true rfl, Nat.le_of_ble_eq_true rfl⟩ rfl ?_
  refine ro_aload_n (i := 0) (q := 7) hX dX2_transfer_6 rfl rfl rfl ?_
  refine ro_Pga0 (q9 := 10) hX kf_X2_12 dX2_transfer_7 rfl ?_
  refine ro_Sgi (j := 11) (q9 := 13) ⟨by decide, by decide⟩ hX (by unfold isB; decide) kf_X2_203 dX2_transfer_10 rfl ?_
  refine ro_iconst (v := (-1)) (q := 14) hX dX2_transfer_13 rfl rfl ?_
  refine ro_icmp_ne (tgt := 19) (q := 17) hX dX2_transfer_14 (by decide) rfl (fun q1 => ?_) (fun q1 => ?_)
  · skip
    refine ro_iload_n (i := 1) (q := 20) hX dX2_transfer_19 rfl rfl rfl ?_
    refine ro_tableIn (tgt := 64) (off := 44) hX dX2_transfer_20 (by decide) (by decide) (by decide +kernel) (by decide) ?_
    refine ro_aload_n (i := 0) (q := 65) hX dX2_transfer_64 rfl rfl rfl ?_
    refine ro_Pga0 (q9 := 68) hX kf_X2_12 dX2_transfer_65 rfl ?_
    refine ro_Sgi (j := 13) (q9 := 71) ⟨by decide, by decide⟩ hX (by unfold isB; decide) kf_X2_209 dX2_transfer_68 rfl ?_
    exact fin_i hF (Nat.le_of_ble_eq_true rfl) (Nat.le_of_ble_eq_true rfl) dX2_transfer_71 (by first | with_reducible rfl | (simp [*]; done) | ((repeat' split) <;> first | with_reducible rfl | contradiction | (simp_all; done)) | rfl) (by rfl)
  · skip
    refine ro_iconst (v := (-1)) (q := 18) hX dX2_transfer_17 rfl rfl ?_
    exact fin_i hF (Nat.le_of_ble_eq_true rfl) (Nat.le_of_ble_eq_true rfl) dX2_transfer_18 (by first | with_reducible rfl | (simp [*]; done) | ((repeat' split) <;> first | with_reducible rfl | contradiction | (simp_all; done)) | rfl) (by rfl)
set_option maxRecDepth 20000 in
set_option maxHeartbeats 2000000 in
theorem x_transfer_w3 : Does sz I_X2_transfer [.ref (sz + 0), .int (nI 3)] (patch G 1 7 f, T) 0 0 (.inl (some (if f 0 11 = -1 then -1 else f 0 14 - f 0 8))) (patch G 1 7 f, T) := by
  refine Does.of (L := [(0, .ref (sz + 0)), (1, .int (nI 3))]) (by decide +kernel) (Nat.le_of_ble_eq_true rfl) rfl ⟨rfl, (by simp), ⟨rfl, (by simp), trivial⟩⟩ (fun VV hF => ?_)
  have hX := hF.c
  refine ro_iload_n (i := 1) (q := 1) hX dX2_transfer_0 rfl rfl rfl ?_
  refine ro_iconst (v := nI 0) (q := 2) hX dX2_transfer_1 rfl rfl ?_
  refine ro_iconst (v := nI 3) (q := 3) hX dX2_transfer_2 rfl rfl ?_
  refine ro_callSv (q9 := 6) hX (p_reqRange_t (by decide +kernel)) mw_X2_requireRange kl_X2_51 rfl rfl (Nat.le_of_ble_eq_true rfl) ⟨Nat.le_of_ble_eq_true rfl, Nat.le_of_ble_eq_true rfl⟩ dX2_transfer_3 ⟨Nat.le_of_ble_eq_true rfl, Nat.le_of_ble_eq_true rfl⟩ rfl ?_
  refine ro_aload_n (i := 0) (q := 7) hX dX2_transfer_6 rfl rfl rfl ?_
  refine ro_Pga0 (q9 := 10) hX kf_X2_12 dX2_transfer_7 rfl ?_
  refine ro_Sgi (j := 11) (q9 := 13) ⟨by decide, by decide⟩ hX (by unfold isB; decide) kf_X2_203 dX2_transfer_10 rfl ?_
  refine ro_iconst (v := (-1)) (q := 14) hX dX2_transfer_13 rfl rfl ?_
  refine ro_icmp_ne (tgt := 19) (q := 17) hX dX2_transfer_14 (by decide) rfl (fun q1 => ?_) (fun q1 => ?_)
  · skip
    refine ro_iload_n (i := 1) (q := 20) hX dX2_transfer_19 rfl rfl rfl ?_
    refine ro_tableOut (tgt := 72) hX dX2_transfer_20 (by decide) (by decide) ?_
    refine ro_aload_n (i := 0) (q := 73) hX dX2_transfer_72 rfl rfl rfl ?_
    refine ro_Pga0 (q9 := 76) hX kf_X2_12 dX2_transfer_73 rfl ?_
    refine ro_Sgi (j := 14) (q9 := 79) ⟨by decide, by decide⟩ hX (by unfold isB; decide) kf_X2_212 dX2_transfer_76 rfl ?_
    refine ro_aload_n (i := 0) (q := 80) hX dX2_transfer_79 rfl rfl rfl ?_
    refine ro_Pga0 (q9 := 83) hX kf_X2_12 dX2_transfer_80 rfl ?_
    refine ro_Sgi (j := 8) (q9 := 86) ⟨by decide, by decide⟩ hX (by unfold isB; decide) kf_X2_166 dX2_transfer_83 rfl ?_
    refine ro_isub (q := 87) hX dX2_transfer_86 rfl ?_
    exact fin_i hF (Nat.le_of_ble_eq_true rfl) (Nat.le_of_ble_eq_true rfl) dX2_transfer_87 (by first | with_reducible rfl | (simp [*]; done) | ((repeat' split) <;> first | with_reducible rfl | contradiction | (simp_all; done)) | rfl) (by rfl)
  · skip
    refine ro_iconst (v := (-1)) (q := 18) hX dX2_transfer_17 rfl rfl ?_
    exact fin_i hF (Nat.le_of_ble_eq_true rfl) (Nat.le_of_ble_eq_true rfl) dX2_transfer_18 (by first | with_reducible rfl | (simp [*]; done) | ((repeat' split) <;> first | with_reducible rfl | contradiction | (simp_all; done)) | rfl) (by rfl)
set_option maxRecDepth 20000 in
set_option maxHeartbeats 2000000 in
theorem x_completedTransfers : Does sz I_X2_completedTransfers [.ref (sz + 0)] (patch G 1 7 f, T) 0 0 (.inl (some (f 0 10))) (patch G 1 7 f, T) := by
  refine Does.of (L := [(0, .ref (sz + 0))]) (by decide +kernel) (Nat.le_of_ble_eq_true rfl) rfl ⟨rfl, (by simp), trivial⟩ (fun VV hF => ?_)
  have hX := hF.c
  refine ro_aload_n (i := 0) (q := 1) hX dX2_completedTransfers_0 rfl rfl rfl ?_
  refine ro_Pga0 (q9 := 4) hX kf_X2_12 dX2_completedTransfers_1 rfl ?_
  refine ro_Sgi (j := 10) (q9 := 7) ⟨by decide, by decide⟩ hX (by unfold isB; decide) kf_X2_215 dX2_completedTransfers_4 rfl ?_
  exact fin_i hF (Nat.le_of_ble_eq_true rfl) (Nat.le_of_ble_eq_true rfl) dX2_completedTransfers_7 (by rfl) (by rfl)
set_option maxRecDepth 20000 in
set_option maxHeartbeats 2000000 in
theorem x_time : Does sz I_X2_time [.ref (sz + 0)] (patch G 1 7 f, T) 0 0 (.inl (some (f 0 8))) (patch G 1 7 f, T) := by
  refine Does.of (L := [(0, .ref (sz + 0))]) (by decide +kernel) (Nat.le_of_ble_eq_true rfl) rfl ⟨rfl, (by simp), trivial⟩ (fun VV hF => ?_)
  have hX := hF.c
  refine ro_aload_n (i := 0) (q := 1) hX dX2_time_0 rfl rfl rfl ?_
  refine ro_Pga0 (q9 := 4) hX kf_X2_12 dX2_time_1 rfl ?_
  refine ro_Sgi (j := 8) (q9 := 7) ⟨by decide, by decide⟩ hX (by unfold isB; decide) kf_X2_166 dX2_time_4 rfl ?_
  exact fin_i hF (Nat.le_of_ble_eq_true rfl) (Nat.le_of_ble_eq_true rfl) dX2_time_7 (by rfl) (by rfl)
set_option maxRecDepth 20000 in
set_option maxHeartbeats 2000000 in
theorem x_savedStates : Does sz I_X2_savedStates [.ref (sz + 0)] (patch G 1 7 f, T) 0 0 (.inl (some (G 0 3))) (patch G 1 7 f, T) := by
  refine Does.of (L := [(0, .ref (sz + 0))]) (by decide +kernel) (Nat.le_of_ble_eq_true rfl) rfl ⟨rfl, (by simp), trivial⟩ (fun VV hF => ?_)
  have hX := hF.c
  refine ro_aload_n (i := 0) (q := 1) hX dX2_savedStates_0 rfl rfl rfl ?_
  refine ro_Pgi (j := 3) (q9 := 4) (by decide) hX kf_X2_23 dX2_savedStates_1 rfl ?_
  exact fin_i hF (Nat.le_of_ble_eq_true rfl) (Nat.le_of_ble_eq_true rfl) dX2_savedStates_4 (by rfl) (by rfl)
end
