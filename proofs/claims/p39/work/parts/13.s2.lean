section
variable {sz r : Nat} {G : Nat → Nat → Int32} {T : (Nat → Nat) × Int64} {f : SV}
set_option maxRecDepth 20000 in
set_option maxHeartbeats 2000000 in
theorem s_isOpen (hB : isB r) {h : Nat} (hh : h < 6) : Does sz I_X1_isOpen [.ref (sz + r), .int (nI h)] (patch G r 7 f, T) 0 0 (.inl (some (bi (opS f h)))) (patch G r 7 f, T) := by
  refine Does.of (L := [(0, .ref (sz + r)), (1, .int (nI h))]) (by decide +kernel) (Nat.le_of_ble_eq_true rfl) rfl ⟨rfl, (by simp), ⟨rfl, (by simp), trivial⟩⟩ (fun VV hF => ?_)
  have hX := hF.c
  refine ro_iload_n (i := 1) (q := 1) hX dX1_isOpen_0 rfl rfl rfl ?_
  refine ro_callSi (q9 := 4) hX (s_isHost_t (by omega)) mw_X1_isHost kl_X1_82 rfl rfl (Nat.le_of_ble_eq_true rfl) ⟨Nat.le_of_ble_eq_true rfl, Nat.le_of_ble_eq_true rfl⟩ dX1_isOpen_1 ⟨Nat.le_of_ble_eq_true rfl, Nat.le_of_ble_eq_true rfl⟩ rfl ?_
  refine ro_if_eq (tgt := 32) (q := 7) hX dX1_isOpen_4 (by decide) rfl (fun q => absurd q (by decide)) (fun _ => ?_)
  refine ro_aload_n (i := 0) (q := 8) hX dX1_isOpen_7 rfl rfl rfl ?_
  refine ro_Sga (j := 0) (a := 1) (q9 := 11) ⟨by decide, rfl⟩ hX hB kf_X1_9 dX1_isOpen_8 rfl ?_
  refine ro_iload_n (i := 1) (q := 12) hX dX1_isOpen_11 rfl rfl rfl ?_
  refine ro_Sald (a := 1) (n := h) (q9 := 13) ⟨by decide, by decide⟩ hX hB rfl (show h < 6 from by omega) dX1_isOpen_12 rfl ?_
  refine ro_iconst (v := nI 1) (q := 14) hX dX1_isOpen_13 rfl rfl ?_
  refine ro_icmp_ne (tgt := 32) (q := 17) hX dX1_isOpen_14 (by decide) rfl (fun q1 => ?_) (fun q1 => ?_)
  · skip
    refine ro_iconst (v := nI 0) (q := 33) hX dX1_isOpen_32 rfl rfl ?_
    exact fin_z hF (Nat.le_of_ble_eq_true rfl) (Nat.le_of_ble_eq_true rfl) dX1_isOpen_33 rfl (by first | with_reducible rfl | (simp [opS, bi, setL_s, setL_t, setL_0, dropL_0, dropL_c, *]; done) | (simp only [opS, bi, setL_s, setL_t, setL_0, dropL_0, dropL_c]; (repeat' split) <;> first | with_reducible rfl | contradiction | (simp_all; done)) | rfl) (by first | with_reducible rfl | (simp [opS, bi, setL_s, setL_t, setL_0, dropL_0, dropL_c, *]; done) | (simp only [opS, bi, setL_s, setL_t, setL_0, dropL_0, dropL_c]; (repeat' split) <;> first | with_reducible rfl | contradiction | (simp_all; done)) | rfl)
  · skip
    refine ro_aload_n (i := 0) (q := 18) hX dX1_isOpen_17 rfl rfl rfl ?_
    refine ro_Sgi (j := 7) (q9 := 21) ⟨by decide, by decide⟩ hX hB kf_X1_34 dX1_isOpen_18 rfl ?_
    refine ro_iload_n (i := 1) (q := 22) hX dX1_isOpen_21 rfl rfl rfl ?_
    refine ro_callSNi (q9 := 25) hX (s_has) mw_X2_has kl_X1_68 rfl rfl (Nat.le_of_ble_eq_true rfl) ⟨Nat.le_of_ble_eq_true rfl, Nat.le_of_ble_eq_true rfl⟩ dX1_isOpen_22 ⟨Nat.le_of_ble_eq_true rfl, Nat.le_of_ble_eq_true rfl⟩ rfl ?_
    refine ro_ifb_eq (tgt := 32) (q := 28) hX dX1_isOpen_25 (by decide) rfl (fun q2 => ?_) (fun q2 => ?_)
    · skip
      refine ro_iconst (v := nI 0) (q := 33) hX dX1_isOpen_32 rfl rfl ?_
      exact fin_z hF (Nat.le_of_ble_eq_true rfl) (Nat.le_of_ble_eq_true rfl) dX1_isOpen_33 rfl (by first | with_reducible rfl | (simp [opS, bi, setL_s, setL_t, setL_0, dropL_0, dropL_c, *]; done) | (simp only [opS, bi, setL_s, setL_t, setL_0, dropL_0, dropL_c]; (repeat' split) <;> first | with_reducible rfl | contradiction | (simp_all; done)) | rfl) (by first | with_reducible rfl | (simp [opS, bi, setL_s, setL_t, setL_0, dropL_0, dropL_c, *]; done) | (simp only [opS, bi, setL_s, setL_t, setL_0, dropL_0, dropL_c]; (repeat' split) <;> first | with_reducible rfl | contradiction | (simp_all; done)) | rfl)
    · skip
      refine ro_iconst (v := nI 1) (q := 29) hX dX1_isOpen_28 rfl rfl ?_
      refine ro_goto (tgt := 33) hX dX1_isOpen_29 (by decide) ?_
      exact fin_z hF (Nat.le_of_ble_eq_true rfl) (Nat.le_of_ble_eq_true rfl) dX1_isOpen_33 rfl (by first | with_reducible rfl | (simp [opS, bi, setL_s, setL_t, setL_0, dropL_0, dropL_c, *]; done) | (simp only [opS, bi, setL_s, setL_t, setL_0, dropL_0, dropL_c]; (repeat' split) <;> first | with_reducible rfl | contradiction | (simp_all; done)) | rfl) (by first | with_reducible rfl | (simp [opS, bi, setL_s, setL_t, setL_0, dropL_0, dropL_c, *]; done) | (simp only [opS, bi, setL_s, setL_t, setL_0, dropL_0, dropL_c]; (repeat' split) <;> first | with_reducible rfl | contradiction | (simp_all; done)) | rfl)
set_option maxRecDepth 20000 in
set_option maxHeartbeats 2000000 in
theorem s_heldOn (hB : isB r) {h : Nat} (hh : h < 6) : Does sz I_X1_heldOn [.ref (sz + r), .int (nI h)] (patch G r 7 f, T) 0 0 (.inl (some (hdS f h))) (patch G r 7 f, T) := by
  refine Does.of (L := [(0, .ref (sz + r)), (1, .int (nI h))]) (by decide +kernel) (Nat.le_of_ble_eq_true rfl) rfl ⟨rfl, (by simp), ⟨rfl, (by simp), trivial⟩⟩ (fun VV hF => ?_)
  have hX := hF.c
  refine ro_iload_n (i := 1) (q := 1) hX dX1_heldOn_0 rfl rfl rfl ?_
  refine ro_callSi (q9 := 4) hX (s_isHost_t (by omega)) mw_X1_isHost kl_X1_82 rfl rfl (Nat.le_of_ble_eq_true rfl) ⟨Nat.le_of_ble_eq_true rfl, Nat.le_of_ble_eq_true rfl⟩ dX1_heldOn_1 ⟨Nat.le_of_ble_eq_true rfl, Nat.le_of_ble_eq_true rfl⟩ rfl ?_
  refine ro_if_eq (tgt := 26) (q := 7) hX dX1_heldOn_4 (by decide) rfl (fun q => absurd q (by decide)) (fun _ => ?_)
  refine ro_aload_n (i := 0) (q := 8) hX dX1_heldOn_7 rfl rfl rfl ?_
  refine ro_Sga (j := 3) (a := 4) (q9 := 11) ⟨by decide, rfl⟩ hX hB kf_X1_21 dX1_heldOn_8 rfl ?_
  refine ro_iload_n (i := 1) (q := 12) hX dX1_heldOn_11 rfl rfl rfl ?_
  refine ro_Sald (a := 4) (n := h) (q9 := 13) ⟨by decide, by decide⟩ hX hB rfl (show h < 6 from by omega) dX1_heldOn_12 rfl ?_
  refine ro_aload_n (i := 0) (q := 14) hX dX1_heldOn_13 rfl rfl rfl ?_
  refine ro_Sga (j := 4) (a := 5) (q9 := 17) ⟨by decide, rfl⟩ hX hB kf_X1_24 dX1_heldOn_14 rfl ?_
  refine ro_iload_n (i := 1) (q := 18) hX dX1_heldOn_17 rfl rfl rfl ?_
  refine ro_Sald (a := 5) (n := h) (q9 := 19) ⟨by decide, by decide⟩ hX hB rfl (show h < 6 from by omega) dX1_heldOn_18 rfl ?_
  refine ro_ior (q := 20) hX dX1_heldOn_19 rfl ?_
  refine ro_callSi (q9 := 23) hX (s_bitCount) mw_J6_bitCount_0f7a4 kl_X1_89 rfl rfl (Nat.le_of_ble_eq_true rfl) ⟨Nat.le_of_ble_eq_true rfl, Nat.le_of_ble_eq_true rfl⟩ dX1_heldOn_20 ⟨Nat.le_of_ble_eq_true rfl, Nat.le_of_ble_eq_true rfl⟩ rfl ?_
  refine ro_goto (tgt := 27) hX dX1_heldOn_23 (by decide) ?_
  exact fin_i hF (Nat.le_of_ble_eq_true rfl) (Nat.le_of_ble_eq_true rfl) dX1_heldOn_27 (by rfl) (by rfl)
set_option maxRecDepth 20000 in
set_option maxHeartbeats 2000000 in
theorem s_usedOn (hB : isB r) {h : Nat} (hh : h < 6) : Does sz I_X1_usedOn [.ref (sz + r), .int (nI h)] (patch G r 7 f, T) 0 0 (.inl (some (usS f h))) (patch G r 7 f, T) := by
  refine Does.of (L := [(0, .ref (sz + r)), (1, .int (nI h))]) (by decide +kernel) (Nat.le_of_ble_eq_true rfl) rfl ⟨rfl, (by simp), ⟨rfl, (by simp), trivial⟩⟩ (fun VV hF => ?_)
  have hX := hF.c
  refine ro_aload_n (i := 0) (q := 1) hX dX1_usedOn_0 rfl rfl rfl ?_
  refine ro_Sgi (j := 13) (q9 := 4) ⟨by decide, by decide⟩ hX hB kf_X1_52 dX1_usedOn_1 rfl ?_
  refine ro_iload_n (i := 1) (q := 5) hX dX1_usedOn_4 rfl rfl rfl ?_
  refine ro_icmp_ne (tgt := 12) (q := 8) hX dX1_usedOn_5 (by decide) rfl (fun q1 => ?_) (fun q1 => ?_)
  · skip
    refine ro_iconst (v := nI 0) (q := 13) hX dX1_usedOn_12 rfl rfl ?_
    refine ro_istore_n (i := 2) (q := 14) hX dX1_usedOn_13 rfl (Nat.le_of_ble_eq_true rfl) rfl ?_
    refine ro_iload_n (i := 1) (q := 15) hX dX1_usedOn_14 rfl rfl rfl ?_
    refine ro_callSi (q9 := 18) hX (s_isHost_t (by omega)) mw_X1_isHost kl_X1_82 rfl rfl (Nat.le_of_ble_eq_true rfl) ⟨Nat.le_of_ble_eq_true rfl, Nat.le_of_ble_eq_true rfl⟩ dX1_usedOn_15 ⟨Nat.le_of_ble_eq_true rfl, Nat.le_of_ble_eq_true rfl⟩ rfl ?_
    refine ro_if_eq (tgt := 42) (q := 21) hX dX1_usedOn_18 (by decide) rfl (fun q => absurd q (by decide)) (fun _ => ?_)
    refine ro_aload_n (i := 0) (q := 22) hX dX1_usedOn_21 rfl rfl rfl ?_
    refine ro_Sga (j := 3) (a := 4) (q9 := 25) ⟨by decide, rfl⟩ hX hB kf_X1_21 dX1_usedOn_22 rfl ?_
    refine ro_iload_n (i := 1) (q := 26) hX dX1_usedOn_25 rfl rfl rfl ?_
    refine ro_Sald (a := 4) (n := h) (q9 := 27) ⟨by decide, by decide⟩ hX hB rfl (show h < 6 from by omega) dX1_usedOn_26 rfl ?_
    refine ro_aload_n (i := 0) (q := 28) hX dX1_usedOn_27 rfl rfl rfl ?_
    refine ro_Sga (j := 4) (a := 5) (q9 := 31) ⟨by decide, rfl⟩ hX hB kf_X1_24 dX1_usedOn_28 rfl ?_
    refine ro_iload_n (i := 1) (q := 32) hX dX1_usedOn_31 rfl rfl rfl ?_
    refine ro_Sald (a := 5) (n := h) (q9 := 33) ⟨by decide, by decide⟩ hX hB rfl (show h < 6 from by omega) dX1_usedOn_32 rfl ?_
    refine ro_ior (q := 34) hX dX1_usedOn_33 rfl ?_
    refine ro_callSi (q9 := 37) hX (s_bitCount) mw_J6_bitCount_0f7a4 kl_X1_89 rfl rfl (Nat.le_of_ble_eq_true rfl) ⟨Nat.le_of_ble_eq_true rfl, Nat.le_of_ble_eq_true rfl⟩ dX1_usedOn_34 ⟨Nat.le_of_ble_eq_true rfl, Nat.le_of_ble_eq_true rfl⟩ rfl ?_
    refine ro_iload_n (i := 2) (q := 38) hX dX1_usedOn_37 rfl rfl rfl ?_
    refine ro_iadd (q := 39) hX dX1_usedOn_38 rfl ?_
    refine ro_goto (tgt := 43) hX dX1_usedOn_39 (by decide) ?_
    exact fin_i hF (Nat.le_of_ble_eq_true rfl) (Nat.le_of_ble_eq_true rfl) dX1_usedOn_43 (by first | with_reducible rfl | (simp [usS, setL_s, setL_t, setL_0, dropL_0, dropL_c, *]; done) | (simp only [usS, setL_s, setL_t, setL_0, dropL_0, dropL_c]; (repeat' split) <;> first | with_reducible rfl | contradiction | (simp_all; done)) | rfl) (by first | with_reducible rfl | (simp [usS, setL_s, setL_t, setL_0, dropL_0, dropL_c, *]; done) | (simp only [usS, setL_s, setL_t, setL_0, dropL_0, dropL_c]; (repeat' split) <;> first | with_reducible rfl | contradiction | (simp_all; done)) | rfl)
  · skip
    refine ro_iconst (v := nI 1) (q := 9) hX dX1_usedOn_8 rfl rfl ?_
    refine ro_goto (tgt := 13) hX dX1_usedOn_9 (by decide) ?_
    refine ro_istore_n (i := 2) (q := 14) hX dX1_usedOn_13 rfl (Nat.le_of_ble_eq_true rfl) rfl ?_
    refine ro_iload_n (i := 1) (q := 15) hX dX1_usedOn_14 rfl rfl rfl ?_
    refine ro_callSi (q9 := 18) hX (s_isHost_t (by omega)) mw_X1_isHost kl_X1_82 rfl rfl (Nat.le_of_ble_eq_true rfl) ⟨Nat.le_of_ble_eq_true rfl, Nat.le_of_ble_eq_true rfl⟩ dX1_usedOn_15 ⟨Nat.le_of_ble_eq_true rfl, Nat.le_of_ble_eq_true rfl⟩ rfl ?_
    refine ro_if_eq (tgt := 42) (q := 21) hX dX1_usedOn_18 (by decide) rfl (fun q => absurd q (by decide)) (fun _ => ?_)
    refine ro_aload_n (i := 0) (q := 22) hX dX1_usedOn_21 rfl rfl rfl ?_
    refine ro_Sga (j := 3) (a := 4) (q9 := 25) ⟨by decide, rfl⟩ hX hB kf_X1_21 dX1_usedOn_22 rfl ?_
    refine ro_iload_n (i := 1) (q := 26) hX dX1_usedOn_25 rfl rfl rfl ?_
    refine ro_Sald (a := 4) (n := h) (q9 := 27) ⟨by decide, by decide⟩ hX hB rfl (show h < 6 from by omega) dX1_usedOn_26 rfl ?_
    refine ro_aload_n (i := 0) (q := 28) hX dX1_usedOn_27 rfl rfl rfl ?_
    refine ro_Sga (j := 4) (a := 5) (q9 := 31) ⟨by decide, rfl⟩ hX hB kf_X1_24 dX1_usedOn_28 rfl ?_
    refine ro_iload_n (i := 1) (q := 32) hX dX1_usedOn_31 rfl rfl rfl ?_
    refine ro_Sald (a := 5) (n := h) (q9 := 33) ⟨by decide, by decide⟩ hX hB rfl (show h < 6 from by omega) dX1_usedOn_32 rfl ?_
    refine ro_ior (q := 34) hX dX1_usedOn_33 rfl ?_
    refine ro_callSi (q9 := 37) hX (s_bitCount) mw_J6_bitCount_0f7a4 kl_X1_89 rfl rfl (Nat.le_of_ble_eq_true rfl) ⟨Nat.le_of_ble_eq_true rfl, Nat.le_of_ble_eq_true rfl⟩ dX1_usedOn_34 ⟨Nat.le_of_ble_eq_true rfl, Nat.le_of_ble_eq_true rfl⟩ rfl ?_
    refine ro_iload_n (i := 2) (q := 38) hX dX1_usedOn_37 rfl rfl rfl ?_
    refine ro_iadd (q := 39) hX dX1_usedOn_38 rfl ?_
    refine ro_goto (tgt := 43) hX dX1_usedOn_39 (by decide) ?_
    exact fin_i hF (Nat.le_of_ble_eq_true rfl) (Nat.le_of_ble_eq_true rfl) dX1_usedOn_43 (by first | with_reducible rfl | (simp [usS, setL_s, setL_t, setL_0, dropL_0, dropL_c, *]; done) | (simp only [usS, setL_s, setL_t, setL_0, dropL_0, dropL_c]; (repeat' split) <;> first | with_reducible rfl | contradiction | (simp_all; done)) | rfl) (by first | with_reducible rfl | (simp [usS, setL_s, setL_t, setL_0, dropL_0, dropL_c, *]; done) | (simp only [usS, setL_s, setL_t, setL_0, dropL_0, dropL_c]; (repeat' split) <;> first | with_reducible rfl | contradiction | (simp_all; done)) | rfl)
set_option maxRecDepth 20000 in
set_option maxHeartbeats 2000000 in
theorem s_roomOn (hB : isB r) {h : Nat} (hh : h < 6) : Does sz I_X1_roomOn [.ref (sz + r), .int (nI h)] (patch G r 7 f, T) 0 0 (.inl (some (rmS f h))) (patch G r 7 f, T) := by
  refine Does.of (L := [(0, .ref (sz + r)), (1, .int (nI h))]) (by decide +kernel) (Nat.le_of_ble_eq_true rfl) rfl ⟨rfl, (by simp), ⟨rfl, (by simp), trivial⟩⟩ (fun VV hF => ?_)
  have hX := hF.c
  refine ro_aload_n (i := 0) (q := 1) hX dX1_roomOn_0 rfl rfl rfl ?_
  refine ro_iload_n (i := 1) (q := 2) hX dX1_roomOn_1 rfl rfl rfl ?_
  refine ro_callVi (q9 := 5) hX (s_isOpen hB (by omega)) mw_X1_isOpen kl_X1_97 (isB_lt hB) (fun cy => cell1 (isB_kd hB).2.2.1) rfl rfl rfl (Nat.le_of_ble_eq_true rfl) ⟨Nat.le_of_ble_eq_true rfl, Nat.le_of_ble_eq_true rfl⟩ dX1_roomOn_2 ⟨Nat.le_of_ble_eq_true rfl, Nat.le_of_ble_eq_true rfl⟩ rfl ?_
  refine ro_ifb_eq (tgt := 23) (q := 8) hX dX1_roomOn_5 (by decide) rfl (fun q1 => ?_) (fun q1 => ?_)
  · skip
    refine ro_iconst (v := nI 0) (q := 24) hX dX1_roomOn_23 rfl rfl ?_
    exact fin_i hF (Nat.le_of_ble_eq_true rfl) (Nat.le_of_ble_eq_true rfl) dX1_roomOn_24 (by first | with_reducible rfl | (simp [rmS, setL_s, setL_t, setL_0, dropL_0, dropL_c, *]; done) | (simp only [rmS, setL_s, setL_t, setL_0, dropL_0, dropL_c]; (repeat' split) <;> first | with_reducible rfl | contradiction | (simp_all; done)) | rfl) (by first | with_reducible rfl | (simp [rmS, setL_s, setL_t, setL_0, dropL_0, dropL_c, *]; done) | (simp only [rmS, setL_s, setL_t, setL_0, dropL_0, dropL_c]; (repeat' split) <;> first | with_reducible rfl | contradiction | (simp_all; done)) | rfl)
  · skip
    refine ro_aload_n (i := 0) (q := 9) hX dX1_roomOn_8 rfl rfl rfl ?_
    refine ro_Sga (j := 1) (a := 2) (q9 := 12) ⟨by decide, rfl⟩ hX hB kf_X1_15 dX1_roomOn_9 rfl ?_
    refine ro_iload_n (i := 1) (q := 13) hX dX1_roomOn_12 rfl rfl rfl ?_
    refine ro_Sald (a := 2) (n := h) (q9 := 14) ⟨by decide, by decide⟩ hX hB rfl (show h < 6 from by omega) dX1_roomOn_13 rfl ?_
    refine ro_aload_n (i := 0) (q := 15) hX dX1_roomOn_14 rfl rfl rfl ?_
    refine ro_iload_n (i := 1) (q := 16) hX dX1_roomOn_15 rfl rfl rfl ?_
    refine ro_callVi (q9 := 19) hX (s_usedOn hB (by omega)) mw_X1_usedOn kl_X1_100 (isB_lt hB) (fun cy => cell1 (isB_kd hB).2.2.1) rfl rfl rfl (Nat.le_of_ble_eq_true rfl) ⟨Nat.le_of_ble_eq_true rfl, Nat.le_of_ble_eq_true rfl⟩ dX1_roomOn_16 ⟨Nat.le_of_ble_eq_true rfl, Nat.le_of_ble_eq_true rfl⟩ rfl ?_
    refine ro_isub (q := 20) hX dX1_roomOn_19 rfl ?_
    refine ro_goto (tgt := 24) hX dX1_roomOn_20 (by decide) ?_
    exact fin_i hF (Nat.le_of_ble_eq_true rfl) (Nat.le_of_ble_eq_true rfl) dX1_roomOn_24 (by first | with_reducible rfl | (simp [rmS, setL_s, setL_t, setL_0, dropL_0, dropL_c, *]; done) | (simp only [rmS, setL_s, setL_t, setL_0, dropL_0, dropL_c]; (repeat' split) <;> first | with_reducible rfl | contradiction | (simp_all; done)) | rfl) (by first | with_reducible rfl | (simp [rmS, setL_s, setL_t, setL_0, dropL_0, dropL_c, *]; done) | (simp only [rmS, setL_s, setL_t, setL_0, dropL_0, dropL_c]; (repeat' split) <;> first | with_reducible rfl | contradiction | (simp_all; done)) | rfl)
set_option maxRecDepth 20000 in
set_option maxHeartbeats 2000000 in
theorem s_bestHost (hB : isB r) {p : Nat} (hp : p < 30) : Does sz I_X1_bestHost [.ref (sz + r), .int (nI p)] (patch G r 7 f, T) 0 0 (.inl (some (oN (bestO f p)))) (patch G r 7 f, T) := by
  refine Does.of (L := [(0, .ref (sz + r)), (1, .int (nI p))]) (by decide +kernel) (Nat.le_of_ble_eq_true rfl) rfl ⟨rfl, (by simp), ⟨rfl, (by simp), trivial⟩⟩ (fun VV hF => ?_)
  have hX := hF.c
  refine ro_iconst (v := (-1)) (q := 1) hX dX1_bestHost_0 rfl rfl ?_
  refine ro_istore_n (i := 2) (q := 2) hX dX1_bestHost_1 rfl (Nat.le_of_ble_eq_true rfl) rfl ?_
  refine ro_iconst (v := nI 0) (q := 3) hX dX1_bestHost_2 rfl rfl ?_
  refine ro_istore_n (i := 3) (q := 4) hX dX1_bestHost_3 rfl (Nat.le_of_ble_eq_true rfl) rfl ?_
  refine ro_iconst (v := nI 0) (q := 5) hX dX1_bestHost_4 rfl rfl ?_
  refine ro_istore (i := 4) (q := 7) hX dX1_bestHost_5 (Nat.le_of_ble_eq_true rfl) rfl ?_
  refine vv_LM (L' := [(0, .ref (sz + r)), (1, .int (nI p)), (2, .int (oN (bhS f p 0).1)), (3, .int (bhS f p 0).2), (4, .int (nI 0))]) (M' := (patch G r 7 f, T)) (by first | with_reducible rfl | (simp [bhS, oN, setL_s, setL_t, setL_0, dropL_0, dropL_c, *]; done) | (simp only [bhS, oN, setL_s, setL_t, setL_0, dropL_0, dropL_c]; (repeat' split) <;> first | with_reducible rfl | contradiction | (simp_all; done)) | rfl) (by first | with_reducible rfl | (simp [bhS, oN, setL_s, setL_t, setL_0, dropL_0, dropL_c, *]; done) | (simp only [bhS, oN, setL_s, setL_t, setL_0, dropL_0, dropL_c]; (repeat' split) <;> first | with_reducible rfl | contradiction | (simp_all; done)) | rfl) ?_
  refine down_ind (P := fun k7 => VV 0 0 7 [(0, .ref (sz + r)), (1, .int (nI p)), (2, .int (oN (bhS f p k7).1)), (3, .int (bhS f p k7).2), (4, .int (nI k7))] [] (patch G r 7 f, T)) (6) (fun k7 hk7 ih7 => ?_) ?_
  · have ih7 : VV 0 0 7 [(0, .ref (sz + r)), (1, .int (nI p)), (2, .int (oN (bhS f p (k7 + 1)).1)), (3, .int (bhS f p (k7 + 1)).2), (4, .int (nI (k7 + 1)))] [] (patch G r 7 f, T) := ih7
    show VV 0 0 7 [(0, .ref (sz + r)), (1, .int (nI p)), (2, .int (oN (bhS f p k7).1)), (3, .int (bhS f p k7).2), (4, .int (nI k7))] [] (patch G r 7 f, T)
    refine ro_iload (i := 4) (q := 9) hX dX1_bestHost_7 rfl rfl ?_
    refine ro_bipush (v := nI 6) (q := 11) hX dX1_bestHost_9 rfl rfl ?_
    refine ro_icmp_ge (tgt := 62) (q := 14) hX dX1_bestHost_11 (by decide) rfl (fun q => absurd q (by first | exact ni_nle (by omega) (by omega) | exact ni_lt (by omega) (by omega))) (fun _ => ?_)
    refine ro_aload_n (i := 0) (q := 15) hX dX1_bestHost_14 rfl rfl rfl ?_
    refine ro_iload (i := 4) (q := 17) hX dX1_bestHost_15 rfl rfl ?_
    refine ro_callVi (q9 := 20) hX (s_roomOn hB (by omega)) mw_X1_roomOn kl_X1_103 (isB_lt hB) (fun cy => cell1 (isB_kd hB).2.2.1) rfl rfl rfl (Nat.le_of_ble_eq_true rfl) ⟨Nat.le_of_ble_eq_true rfl, Nat.le_of_ble_eq_true rfl⟩ dX1_bestHost_17 ⟨Nat.le_of_ble_eq_true rfl, Nat.le_of_ble_eq_true rfl⟩ rfl ?_
    refine ro_istore (i := 5) (q := 22) hX dX1_bestHost_20 (Nat.le_of_ble_eq_true rfl) rfl ?_
    refine ro_iload (i := 5) (q := 24) hX dX1_bestHost_22 rfl rfl ?_
    refine ro_iload_n (i := 3) (q := 25) hX dX1_bestHost_24 rfl rfl rfl ?_
    refine ro_icmp_le (tgt := 56) (q := 28) hX dX1_bestHost_25 (by decide) rfl (fun q1 => ?_) (fun q1 => ?_)
    · skip
      refine ro_iinc (i := 4) (v := nI (k7 + 1)) (q := 59) hX dX1_bestHost_56 rfl (ni_inc _) (Nat.le_of_ble_eq_true rfl) rfl ?_
      refine ro_goto (tgt := 7) hX dX1_bestHost_59 (by decide) ?_
      refine ro_drop [5] hX rfl ?_
      exact vv_LM (by first | with_reducible rfl | (simp [bhS, oN, setL_s, setL_t, setL_0, dropL_0, dropL_c, *]; done) | (simp only [bhS, oN, setL_s, setL_t, setL_0, dropL_0, dropL_c]; (repeat' split) <;> first | with_reducible rfl | contradiction | (simp_all; done)) | rfl) (by first | with_reducible rfl | (simp [bhS, oN, setL_s, setL_t, setL_0, dropL_0, dropL_c, *]; done) | (simp only [bhS, oN, setL_s, setL_t, setL_0, dropL_0, dropL_c]; (repeat' split) <;> first | with_reducible rfl | contradiction | (simp_all; done)) | rfl) ih7
    · skip
      refine ro_aload_n (i := 0) (q := 29) hX dX1_bestHost_28 rfl rfl rfl ?_
      refine ro_Sga (j := 3) (a := 4) (q9 := 32) ⟨by decide, rfl⟩ hX hB kf_X1_21 dX1_bestHost_29 rfl ?_
      refine ro_iload (i := 4) (q := 34) hX dX1_bestHost_32 rfl rfl ?_
      refine ro_Sald (a := 4) (n := k7) (q9 := 35) ⟨by decide, by decide⟩ hX hB rfl (show k7 < 6 from by omega) dX1_bestHost_34 rfl ?_
      refine ro_aload_n (i := 0) (q := 36) hX dX1_bestHost_35 rfl rfl rfl ?_
      refine ro_Sga (j := 4) (a := 5) (q9 := 39) ⟨by decide, rfl⟩ hX hB kf_X1_24 dX1_bestHost_36 rfl ?_
      refine ro_iload (i := 4) (q := 41) hX dX1_bestHost_39 rfl rfl ?_
      refine ro_Sald (a := 5) (n := k7) (q9 := 42) ⟨by decide, by decide⟩ hX hB rfl (show k7 < 6 from by omega) dX1_bestHost_41 rfl ?_
      refine ro_ior (q := 43) hX dX1_bestHost_42 rfl ?_
      refine ro_iload_n (i := 1) (q := 44) hX dX1_bestHost_43 rfl rfl rfl ?_
      refine ro_callSNi (q9 := 47) hX (s_has) mw_X2_has kl_X1_68 rfl rfl (Nat.le_of_ble_eq_true rfl) ⟨Nat.le_of_ble_eq_true rfl, Nat.le_of_ble_eq_true rfl⟩ dX1_bestHost_44 ⟨Nat.le_of_ble_eq_true rfl, Nat.le_of_ble_eq_true rfl⟩ rfl ?_
      refine ro_ifb_ne (tgt := 56) (q := 50) hX dX1_bestHost_47 (by decide) rfl (fun q2 => ?_) (fun q2 => ?_)
      · skip
        refine ro_iinc (i := 4) (v := nI (k7 + 1)) (q := 59) hX dX1_bestHost_56 rfl (ni_inc _) (Nat.le_of_ble_eq_true rfl) rfl ?_
        refine ro_goto (tgt := 7) hX dX1_bestHost_59 (by decide) ?_
        refine ro_drop [5] hX rfl ?_
        exact vv_LM (by first | with_reducible rfl | (simp [bhS, oN, setL_s, setL_t, setL_0, dropL_0, dropL_c, *]; done) | (simp only [bhS, oN, setL_s, setL_t, setL_0, dropL_0, dropL_c]; (repeat' split) <;> first | with_reducible rfl | contradiction | (simp_all; done)) | rfl) (by first | with_reducible rfl | (simp [bhS, oN, setL_s, setL_t, setL_0, dropL_0, dropL_c, *]; done) | (simp only [bhS, oN, setL_s, setL_t, setL_0, dropL_0, dropL_c]; (repeat' split) <;> first | with_reducible rfl | contradiction | (simp_all; done)) | rfl) ih7
      · skip
        refine ro_iload (i := 5) (q := 52) hX dX1_bestHost_50 rfl rfl ?_
        refine ro_istore_n (i := 3) (q := 53) hX dX1_bestHost_52 rfl (Nat.le_of_ble_eq_true rfl) rfl ?_
        refine ro_iload (i := 4) (q := 55) hX dX1_bestHost_53 rfl rfl ?_
        refine ro_istore_n (i := 2) (q := 56) hX dX1_bestHost_55 rfl (Nat.le_of_ble_eq_true rfl) rfl ?_
        refine ro_iinc (i := 4) (v := nI (k7 + 1)) (q := 59) hX dX1_bestHost_56 rfl (ni_inc _) (Nat.le_of_ble_eq_true rfl) rfl ?_
        refine ro_goto (tgt := 7) hX dX1_bestHost_59 (by decide) ?_
        refine ro_drop [5] hX rfl ?_
        exact vv_LM (by first | with_reducible rfl | (simp [bhS, oN, setL_s, setL_t, setL_0, dropL_0, dropL_c, *]; done) | (simp only [bhS, oN, setL_s, setL_t, setL_0, dropL_0, dropL_c]; (repeat' split) <;> first | with_reducible rfl | contradiction | (simp_all; done)) | rfl) (by first | with_reducible rfl | (simp [bhS, oN, setL_s, setL_t, setL_0, dropL_0, dropL_c, *]; done) | (simp only [bhS, oN, setL_s, setL_t, setL_0, dropL_0, dropL_c]; (repeat' split) <;> first | with_reducible rfl | contradiction | (simp_all; done)) | rfl) ih7
  · show VV 0 0 7 [(0, .ref (sz + r)), (1, .int (nI p)), (2, .int (oN (bhS f p 6).1)), (3, .int (bhS f p 6).2), (4, .int (nI 6))] [] (patch G r 7 f, T)
    refine ro_iload (i := 4) (q := 9) hX dX1_bestHost_7 rfl rfl ?_
    refine ro_bipush (v := nI 6) (q := 11) hX dX1_bestHost_9 rfl rfl ?_
    refine ro_icmp_ge (tgt := 62) (q := 14) hX dX1_bestHost_11 (by decide) rfl (fun _ => ?_) (fun q => absurd (by decide) q)
    refine ro_iload_n (i := 2) (q := 63) hX dX1_bestHost_62 rfl rfl rfl ?_
    exact fin_i hF (Nat.le_of_ble_eq_true rfl) (Nat.le_of_ble_eq_true rfl) dX1_bestHost_63 (by rfl) (by rfl)
set_option maxRecDepth 20000 in
set_option maxHeartbeats 2000000 in
theorem s_statusOf (hB : isB r) {p : Nat} (hp : p < 30) : Does sz I_X1_statusOf [.ref (sz + r), .int (nI p)] (patch G r 7 f, T) 0 0 (.inl (some (stS f p))) (patch G r 7 f, T) := by
  refine Does.of (L := [(0, .ref (sz + r)), (1, .int (nI p))]) (by decide +kernel) (Nat.le_of_ble_eq_true rfl) rfl ⟨rfl, (by simp), ⟨rfl, (by simp), trivial⟩⟩ (fun VV hF => ?_)
  have hX := hF.c
  refine ro_aload_n (i := 0) (q := 1) hX dX1_statusOf_0 rfl rfl rfl ?_
  refine ro_iload_n (i := 1) (q := 2) hX dX1_statusOf_1 rfl rfl rfl ?_
  refine ro_callVi (q9 := 5) hX (s_exists hB (by omega)) mw_X1_exists kl_X1_72 (isB_lt hB) (fun cy => cell1 (isB_kd hB).2.2.1) rfl rfl rfl (Nat.le_of_ble_eq_true rfl) ⟨Nat.le_of_ble_eq_true rfl, Nat.le_of_ble_eq_true rfl⟩ dX1_statusOf_2 ⟨Nat.le_of_ble_eq_true rfl, Nat.le_of_ble_eq_true rfl⟩ rfl ?_
  refine ro_ifb_ne (tgt := 10) (q := 8) hX dX1_statusOf_5 (by decide) rfl (fun q1 => ?_) (fun q1 => ?_)
  · skip
    refine ro_aload_n (i := 0) (q := 11) hX dX1_statusOf_10 rfl rfl rfl ?_
    refine ro_iload_n (i := 1) (q := 12) hX dX1_statusOf_11 rfl rfl rfl ?_
    refine ro_callVi (q9 := 15) hX (s_copySet hB (by omega)) mw_X1_copySet kl_X1_75 (isB_lt hB) (fun cy => cell1 (isB_kd hB).2.2.1) rfl rfl rfl (Nat.le_of_ble_eq_true rfl) ⟨Nat.le_of_ble_eq_true rfl, Nat.le_of_ble_eq_true rfl⟩ dX1_statusOf_12 ⟨Nat.le_of_ble_eq_true rfl, Nat.le_of_ble_eq_true rfl⟩ rfl ?_
    refine ro_callSi (q9 := 18) hX (s_bitCount) mw_J6_bitCount_0f7a4 kl_X1_89 rfl rfl (Nat.le_of_ble_eq_true rfl) ⟨Nat.le_of_ble_eq_true rfl, Nat.le_of_ble_eq_true rfl⟩ dX1_statusOf_15 ⟨Nat.le_of_ble_eq_true rfl, Nat.le_of_ble_eq_true rfl⟩ rfl ?_
    refine ro_istore_n (i := 2) (q := 19) hX dX1_statusOf_18 rfl (Nat.le_of_ble_eq_true rfl) rfl ?_
    refine ro_iload_n (i := 2) (q := 20) hX dX1_statusOf_19 rfl rfl rfl ?_
    refine ro_if_le (tgt := 34) (q := 23) hX dX1_statusOf_20 (by decide) rfl (fun q2 => ?_) (fun q2 => ?_)
    · skip
      refine ro_aload_n (i := 0) (q := 35) hX dX1_statusOf_34 rfl rfl rfl ?_
      refine ro_iload_n (i := 1) (q := 36) hX dX1_statusOf_35 rfl rfl rfl ?_
      refine ro_callVi (q9 := 39) hX (s_freshSet hB (by omega)) mw_X1_freshSet kl_X1_86 (isB_lt hB) (fun cy => cell1 (isB_kd hB).2.2.1) rfl rfl rfl (Nat.le_of_ble_eq_true rfl) ⟨Nat.le_of_ble_eq_true rfl, Nat.le_of_ble_eq_true rfl⟩ dX1_statusOf_36 ⟨Nat.le_of_ble_eq_true rfl, Nat.le_of_ble_eq_true rfl⟩ rfl ?_
      refine ro_if_eq (tgt := 46) (q := 42) hX dX1_statusOf_39 (by decide) rfl (fun q3 => ?_) (fun q3 => ?_)
      · skip
        refine ro_bipush (v := (-2)) (q := 48) hX dX1_statusOf_46 rfl rfl ?_
        exact fin_i hF (Nat.le_of_ble_eq_true rfl) (Nat.le_of_ble_eq_true rfl) dX1_statusOf_48 (by first | with_reducible rfl | (simp [stS, setL_s, setL_t, setL_0, dropL_0, dropL_c, *]; done) | (simp only [stS, setL_s, setL_t, setL_0, dropL_0, dropL_c]; (repeat' split) <;> first | with_reducible rfl | contradiction | (simp_all; done)) | rfl) (by first | with_reducible rfl | (simp [stS, setL_s, setL_t, setL_0, dropL_0, dropL_c, *]; done) | (simp only [stS, setL_s, setL_t, setL_0, dropL_0, dropL_c]; (repeat' split) <;> first | with_reducible rfl | contradiction | (simp_all; done)) | rfl)
      · skip
        refine ro_iconst (v := nI 0) (q := 43) hX dX1_statusOf_42 rfl rfl ?_
        refine ro_goto (tgt := 48) hX dX1_statusOf_43 (by decide) ?_
        exact fin_i hF (Nat.le_of_ble_eq_true rfl) (Nat.le_of_ble_eq_true rfl) dX1_statusOf_48 (by first | with_reducible rfl | (simp [stS, setL_s, setL_t, setL_0, dropL_0, dropL_c, *]; done) | (simp only [stS, setL_s, setL_t, setL_0, dropL_0, dropL_c]; (repeat' split) <;> first | with_reducible rfl | contradiction | (simp_all; done)) | rfl) (by first | with_reducible rfl | (simp [stS, setL_s, setL_t, setL_0, dropL_0, dropL_c, *]; done) | (simp only [stS, setL_s, setL_t, setL_0, dropL_0, dropL_c]; (repeat' split) <;> first | with_reducible rfl | contradiction | (simp_all; done)) | rfl)
    · skip
      refine ro_iload_n (i := 2) (q := 24) hX dX1_statusOf_23 rfl rfl rfl ?_
      refine ro_iconst (v := nI 1) (q := 25) hX dX1_statusOf_24 rfl rfl ?_
      refine ro_icmp_ne (tgt := 32) (q := 28) hX dX1_statusOf_25 (by decide) rfl (fun q4 => ?_) (fun q4 => ?_)
      · skip
        refine ro_iconst (v := nI 2) (q := 33) hX dX1_statusOf_32 rfl rfl ?_
        exact fin_i hF (Nat.le_of_ble_eq_true rfl) (Nat.le_of_ble_eq_true rfl) dX1_statusOf_33 (by first | with_reducible rfl | (simp [stS, setL_s, setL_t, setL_0, dropL_0, dropL_c, *]; done) | (simp only [stS, setL_s, setL_t, setL_0, dropL_0, dropL_c]; (repeat' split) <;> first | with_reducible rfl | contradiction | (simp_all; done)) | rfl) (by first | with_reducible rfl | (simp [stS, setL_s, setL_t, setL_0, dropL_0, dropL_c, *]; done) | (simp only [stS, setL_s, setL_t, setL_0, dropL_0, dropL_c]; (repeat' split) <;> first | with_reducible rfl | contradiction | (simp_all; done)) | rfl)
      · skip
        refine ro_iconst (v := nI 1) (q := 29) hX dX1_statusOf_28 rfl rfl ?_
        refine ro_goto (tgt := 33) hX dX1_statusOf_29 (by decide) ?_
        exact fin_i hF (Nat.le_of_ble_eq_true rfl) (Nat.le_of_ble_eq_true rfl) dX1_statusOf_33 (by first | with_reducible rfl | (simp [stS, setL_s, setL_t, setL_0, dropL_0, dropL_c, *]; done) | (simp only [stS, setL_s, setL_t, setL_0, dropL_0, dropL_c]; (repeat' split) <;> first | with_reducible rfl | contradiction | (simp_all; done)) | rfl) (by first | with_reducible rfl | (simp [stS, setL_s, setL_t, setL_0, dropL_0, dropL_c, *]; done) | (simp only [stS, setL_s, setL_t, setL_0, dropL_0, dropL_c]; (repeat' split) <;> first | with_reducible rfl | contradiction | (simp_all; done)) | rfl)
  · skip
    refine ro_iconst (v := (-1)) (q := 9) hX dX1_statusOf_8 rfl rfl ?_
    exact fin_i hF (Nat.le_of_ble_eq_true rfl) (Nat.le_of_ble_eq_true rfl) dX1_statusOf_9 (by first | with_reducible rfl | (simp [stS, setL_s, setL_t, setL_0, dropL_0, dropL_c, *]; done) | (simp only [stS, setL_s, setL_t, setL_0, dropL_0, dropL_c]; (repeat' split) <;> first | with_reducible rfl | contradiction | (simp_all; done)) | rfl) (by first | with_reducible rfl | (simp [stS, setL_s, setL_t, setL_0, dropL_0, dropL_c, *]; done) | (simp only [stS, setL_s, setL_t, setL_0, dropL_0, dropL_c]; (repeat' split) <;> first | with_reducible rfl | contradiction | (simp_all; done)) | rfl)
set_option maxRecDepth 20000 in
set_option maxHeartbeats 2000000 in
theorem s_pagesWithStatus (hB : isB r) {x : Int32} : Does sz I_X1_pagesWithStatus [.ref (sz + r), .int x] (patch G r 7 f, T) 0 0 (.inl (some (nI (cntS f x 30)))) (patch G r 7 f, T) := by
  refine Does.of (L := [(0, .ref (sz + r)), (1, .int x)]) (by decide +kernel) (Nat.le_of_ble_eq_true rfl) rfl ⟨rfl, (by simp), ⟨rfl, (by simp), trivial⟩⟩ (fun VV hF => ?_)
  have hX := hF.c
  refine ro_iconst (v := nI 0) (q := 1) hX dX1_pagesWithStatus_0 rfl rfl ?_
  refine ro_istore_n (i := 2) (q := 2) hX dX1_pagesWithStatus_1 rfl (Nat.le_of_ble_eq_true rfl) rfl ?_
  refine ro_iconst (v := nI 0) (q := 3) hX dX1_pagesWithStatus_2 rfl rfl ?_
  refine ro_istore_n (i := 3) (q := 4) hX dX1_pagesWithStatus_3 rfl (Nat.le_of_ble_eq_true rfl) rfl ?_
  refine vv_LM (L' := [(0, .ref (sz + r)), (1, .int x), (2, .int (nI (cntS f x 0))), (3, .int (nI 0))]) (M' := (patch G r 7 f, T)) (by first | with_reducible rfl | (simp [cntS, setL_s, setL_t, setL_0, dropL_0, dropL_c, *]; done) | (simp only [cntS, setL_s, setL_t, setL_0, dropL_0, dropL_c]; (repeat' split) <;> first | with_reducible rfl | contradiction | (simp_all; done)) | rfl) (by first | with_reducible rfl | (simp [cntS, setL_s, setL_t, setL_0, dropL_0, dropL_c, *]; done) | (simp only [cntS, setL_s, setL_t, setL_0, dropL_0, dropL_c]; (repeat' split) <;> first | with_reducible rfl | contradiction | (simp_all; done)) | rfl) ?_
  refine down_ind (P := fun k4 => VV 0 0 4 [(0, .ref (sz + r)), (1, .int x), (2, .int (nI (cntS f x k4))), (3, .int (nI k4))] [] (patch G r 7 f, T)) (30) (fun k4 hk4 ih4 => ?_) ?_
  · have ih4 : VV 0 0 4 [(0, .ref (sz + r)), (1, .int x), (2, .int (nI (cntS f x (k4 + 1)))), (3, .int (nI (k4 + 1)))] [] (patch G r 7 f, T) := ih4
    show VV 0 0 4 [(0, .ref (sz + r)), (1, .int x), (2, .int (nI (cntS f x k4))), (3, .int (nI k4))] [] (patch G r 7 f, T)
    refine ro_iload_n (i := 3) (q := 5) hX dX1_pagesWithStatus_4 rfl rfl rfl ?_
    refine ro_bipush (v := nI 30) (q := 7) hX dX1_pagesWithStatus_5 rfl rfl ?_
    refine ro_icmp_ge (tgt := 28) (q := 10) hX dX1_pagesWithStatus_7 (by decide) rfl (fun q => absurd q (by first | exact ni_nle (by omega) (by omega) | exact ni_lt (by omega) (by omega))) (fun _ => ?_)
    refine ro_aload_n (i := 0) (q := 11) hX dX1_pagesWithStatus_10 rfl rfl rfl ?_
    refine ro_iload_n (i := 3) (q := 12) hX dX1_pagesWithStatus_11 rfl rfl rfl ?_
    refine ro_callVi (q9 := 15) hX (s_statusOf hB (by omega)) mw_X1_statusOf kl_X1_94 (isB_lt hB) (fun cy => cell1 (isB_kd hB).2.2.1) rfl rfl rfl (Nat.le_of_ble_eq_true rfl) ⟨Nat.le_of_ble_eq_true rfl, Nat.le_of_ble_eq_true rfl⟩ dX1_pagesWithStatus_12 ⟨Nat.le_of_ble_eq_true rfl, Nat.le_of_ble_eq_true rfl⟩ rfl ?_
    refine ro_iload_n (i := 1) (q := 16) hX dX1_pagesWithStatus_15 rfl rfl rfl ?_
    refine ro_icmp_ne (tgt := 22) (q := 19) hX dX1_pagesWithStatus_16 (by decide) rfl (fun q1 => ?_) (fun q1 => ?_)
    · skip
      refine ro_iinc (i := 3) (v := nI (k4 + 1)) (q := 25) hX dX1_pagesWithStatus_22 rfl (ni_inc _) (Nat.le_of_ble_eq_true rfl) rfl ?_
      refine ro_goto (tgt := 4) hX dX1_pagesWithStatus_25 (by decide) ?_
      exact vv_LM (by first | with_reducible rfl | (simp [cntS, setL_s, setL_t, setL_0, dropL_0, dropL_c, *]; done) | (simp only [cntS, setL_s, setL_t, setL_0, dropL_0, dropL_c]; (repeat' split) <;> first | with_reducible rfl | contradiction | (simp_all; done)) | rfl) (by first | with_reducible rfl | (simp [cntS, setL_s, setL_t, setL_0, dropL_0, dropL_c, *]; done) | (simp only [cntS, setL_s, setL_t, setL_0, dropL_0, dropL_c]; (repeat' split) <;> first | with_reducible rfl | contradiction | (simp_all; done)) | rfl) ih4
    · skip
      refine ro_iinc (i := 2) (v := nI ((cntS f x k4) + 1)) (q := 22) hX dX1_pagesWithStatus_19 rfl (ni_inc _) (Nat.le_of_ble_eq_true rfl) rfl ?_
      refine ro_iinc (i := 3) (v := nI (k4 + 1)) (q := 25) hX dX1_pagesWithStatus_22 rfl (ni_inc _) (Nat.le_of_ble_eq_true rfl) rfl ?_
      refine ro_goto (tgt := 4) hX dX1_pagesWithStatus_25 (by decide) ?_
      exact vv_LM (by first | with_reducible rfl | (simp [cntS, setL_s, setL_t, setL_0, dropL_0, dropL_c, *]; done) | (simp only [cntS, setL_s, setL_t, setL_0, dropL_0, dropL_c]; (repeat' split) <;> first | with_reducible rfl | contradiction | (simp_all; done)) | rfl) (by first | with_reducible rfl | (simp [cntS, setL_s, setL_t, setL_0, dropL_0, dropL_c, *]; done) | (simp only [cntS, setL_s, setL_t, setL_0, dropL_0, dropL_c]; (repeat' split) <;> first | with_reducible rfl | contradiction | (simp_all; done)) | rfl) ih4
  · show VV 0 0 4 [(0, .ref (sz + r)), (1, .int x), (2, .int (nI (cntS f x 30))), (3, .int (nI 30))] [] (patch G r 7 f, T)
    refine ro_iload_n (i := 3) (q := 5) hX dX1_pagesWithStatus_4 rfl rfl rfl ?_
    refine ro_bipush (v := nI 30) (q := 7) hX dX1_pagesWithStatus_5 rfl rfl ?_
    refine ro_icmp_ge (tgt := 28) (q := 10) hX dX1_pagesWithStatus_7 (by decide) rfl (fun _ => ?_) (fun q => absurd (by decide) q)
    refine ro_iload_n (i := 2) (q := 29) hX dX1_pagesWithStatus_28 rfl rfl rfl ?_
    exact fin_i hF (Nat.le_of_ble_eq_true rfl) (Nat.le_of_ble_eq_true rfl) dX1_pagesWithStatus_29 (by rfl) (by rfl)
set_option maxRecDepth 20000 in
set_option maxHeartbeats 2000000 in
theorem s_isReachable (hB : isB r) {p : Nat} (hp : p < 30) : Does sz I_X1_isReachable [.ref (sz + r), .int (nI p)] (patch G r 7 f, T) 0 0 (.inl (some (bi (reS f p)))) (patch G r 7 f, T) := by
  refine Does.of (L := [(0, .ref (sz + r)), (1, .int (nI p))]) (by decide +kernel) (Nat.le_of_ble_eq_true rfl) rfl ⟨rfl, (by simp), ⟨rfl, (by simp), trivial⟩⟩ (fun VV hF => ?_)
  have hX := hF.c
  refine ro_aload_n (i := 0) (q := 1) hX dX1_isReachable_0 rfl rfl rfl ?_
  refine ro_iload_n (i := 1) (q := 2) hX dX1_isReachable_1 rfl rfl rfl ?_
  refine ro_callVi (q9 := 5) hX (s_exists hB (by omega)) mw_X1_exists kl_X1_72 (isB_lt hB) (fun cy => cell1 (isB_kd hB).2.2.1) rfl rfl rfl (Nat.le_of_ble_eq_true rfl) ⟨Nat.le_of_ble_eq_true rfl, Nat.le_of_ble_eq_true rfl⟩ dX1_isReachable_2 ⟨Nat.le_of_ble_eq_true rfl, Nat.le_of_ble_eq_true rfl⟩ rfl ?_
  refine ro_ifb_eq (tgt := 20) (q := 8) hX dX1_isReachable_5 (by decide) rfl (fun q1 => ?_) (fun q1 => ?_)
  · skip
    refine ro_iconst (v := nI 0) (q := 21) hX dX1_isReachable_20 rfl rfl ?_
    exact fin_z hF (Nat.le_of_ble_eq_true rfl) (Nat.le_of_ble_eq_true rfl) dX1_isReachable_21 rfl (by first | with_reducible rfl | (simp [reS, bi, setL_s, setL_t, setL_0, dropL_0, dropL_c, *]; done) | (simp only [reS, bi, setL_s, setL_t, setL_0, dropL_0, dropL_c]; (repeat' split) <;> first | with_reducible rfl | contradiction | (simp_all; done)) | rfl) (by first | with_reducible rfl | (simp [reS, bi, setL_s, setL_t, setL_0, dropL_0, dropL_c, *]; done) | (simp only [reS, bi, setL_s, setL_t, setL_0, dropL_0, dropL_c]; (repeat' split) <;> first | with_reducible rfl | contradiction | (simp_all; done)) | rfl)
  · skip
    refine ro_aload_n (i := 0) (q := 9) hX dX1_isReachable_8 rfl rfl rfl ?_
    refine ro_iload_n (i := 1) (q := 10) hX dX1_isReachable_9 rfl rfl rfl ?_
    refine ro_callVi (q9 := 13) hX (s_copySet hB (by omega)) mw_X1_copySet kl_X1_75 (isB_lt hB) (fun cy => cell1 (isB_kd hB).2.2.1) rfl rfl rfl (Nat.le_of_ble_eq_true rfl) ⟨Nat.le_of_ble_eq_true rfl, Nat.le_of_ble_eq_true rfl⟩ dX1_isReachable_10 ⟨Nat.le_of_ble_eq_true rfl, Nat.le_of_ble_eq_true rfl⟩ rfl ?_
    refine ro_if_eq (tgt := 20) (q := 16) hX dX1_isReachable_13 (by decide) rfl (fun q2 => ?_) (fun q2 => ?_)
    · skip
      refine ro_iconst (v := nI 0) (q := 21) hX dX1_isReachable_20 rfl rfl ?_
      exact fin_z hF (Nat.le_of_ble_eq_true rfl) (Nat.le_of_ble_eq_true rfl) dX1_isReachable_21 rfl (by first | with_reducible rfl | (simp [reS, bi, setL_s, setL_t, setL_0, dropL_0, dropL_c, *]; done) | (simp only [reS, bi, setL_s, setL_t, setL_0, dropL_0, dropL_c]; (repeat' split) <;> first | with_reducible rfl | contradiction | (simp_all; done)) | rfl) (by first | with_reducible rfl | (simp [reS, bi, setL_s, setL_t, setL_0, dropL_0, dropL_c, *]; done) | (simp only [reS, bi, setL_s, setL_t, setL_0, dropL_0, dropL_c]; (repeat' split) <;> first | with_reducible rfl | contradiction | (simp_all; done)) | rfl)
    · skip
      refine ro_iconst (v := nI 1) (q := 17) hX dX1_isReachable_16 rfl rfl ?_
      refine ro_goto (tgt := 21) hX dX1_isReachable_17 (by decide) ?_
      exact fin_z hF (Nat.le_of_ble_eq_true rfl) (Nat.le_of_ble_eq_true rfl) dX1_isReachable_21 rfl (by first | with_reducible rfl | (simp [reS, bi, setL_s, setL_t, setL_0, dropL_0, dropL_c, *]; done) | (simp only [reS, bi, setL_s, setL_t, setL_0, dropL_0, dropL_c]; (repeat' split) <;> first | with_reducible rfl | contradiction | (simp_all; done)) | rfl) (by first | with_reducible rfl | (simp [reS, bi, setL_s, setL_t, setL_0, dropL_0, dropL_c, *]; done) | (simp only [reS, bi, setL_s, setL_t, setL_0, dropL_0, dropL_c]; (repeat' split) <;> first | with_reducible rfl | contradiction | (simp_all; done)) | rfl)
set_option maxRecDepth 20000 in
set_option maxHeartbeats 2000000 in
theorem s_canAdd (hB : isB r) {p : Nat} (hp : p < 30) : Does sz I_X1_canAdd [.ref (sz + r), .int (nI p)] (patch G r 7 f, T) 0 0 (.inl (some (bi (caddS f p)))) (patch G r 7 f, T) := by
  refine Does.of (L := [(0, .ref (sz + r)), (1, .int (nI p))]) (by decide +kernel) (Nat.le_of_ble_eq_true rfl) rfl ⟨rfl, (by simp), ⟨rfl, (by simp), trivial⟩⟩ (fun VV hF => ?_)
  have hX := hF.c
  refine ro_iload_n (i := 1) (q := 1) hX dX1_canAdd_0 rfl rfl rfl ?_
  refine ro_callSi (q9 := 4) hX (s_isPage_t (by omega)) mw_X1_isPage kl_X1_64 rfl rfl (Nat.le_of_ble_eq_true rfl) ⟨Nat.le_of_ble_eq_true rfl, Nat.le_of_ble_eq_true rfl⟩ dX1_canAdd_1 ⟨Nat.le_of_ble_eq_true rfl, Nat.le_of_ble_eq_true rfl⟩ rfl ?_
  refine ro_if_eq (tgt := 28) (q := 7) hX dX1_canAdd_4 (by decide) rfl (fun q => absurd q (by decide)) (fun _ => ?_)
  refine ro_aload_n (i := 0) (q := 8) hX dX1_canAdd_7 rfl rfl rfl ?_
  refine ro_iload_n (i := 1) (q := 9) hX dX1_canAdd_8 rfl rfl rfl ?_
  refine ro_callVi (q9 := 12) hX (s_exists hB (by omega)) mw_X1_exists kl_X1_72 (isB_lt hB) (fun cy => cell1 (isB_kd hB).2.2.1) rfl rfl rfl (Nat.le_of_ble_eq_true rfl) ⟨Nat.le_of_ble_eq_true rfl, Nat.le_of_ble_eq_true rfl⟩ dX1_canAdd_9 ⟨Nat.le_of_ble_eq_true rfl, Nat.le_of_ble_eq_true rfl⟩ rfl ?_
  refine ro_ifb_ne (tgt := 28) (q := 15) hX dX1_canAdd_12 (by decide) rfl (fun q1 => ?_) (fun q1 => ?_)
  · skip
    refine ro_iconst (v := nI 0) (q := 29) hX dX1_canAdd_28 rfl rfl ?_
    exact fin_z hF (Nat.le_of_ble_eq_true rfl) (Nat.le_of_ble_eq_true rfl) dX1_canAdd_29 rfl (by first | with_reducible rfl | (simp [caddS, bi, setL_s, setL_t, setL_0, dropL_0, dropL_c, *]; done) | (simp only [caddS, bi, setL_s, setL_t, setL_0, dropL_0, dropL_c]; (repeat' split) <;> first | with_reducible rfl | contradiction | (simp_all; done)) | rfl) (by first | with_reducible rfl | (simp [caddS, bi, setL_s, setL_t, setL_0, dropL_0, dropL_c, *]; done) | (simp only [caddS, bi, setL_s, setL_t, setL_0, dropL_0, dropL_c]; (repeat' split) <;> first | with_reducible rfl | contradiction | (simp_all; done)) | rfl)
  · skip
    refine ro_aload_n (i := 0) (q := 16) hX dX1_canAdd_15 rfl rfl rfl ?_
    refine ro_iload_n (i := 1) (q := 17) hX dX1_canAdd_16 rfl rfl rfl ?_
    refine ro_callVi (q9 := 20) hX (s_bestHost hB (by omega)) mw_X1_bestHost kl_X1_79 (isB_lt hB) (fun cy => cell1 (isB_kd hB).2.2.1) rfl rfl rfl (Nat.le_of_ble_eq_true rfl) ⟨Nat.le_of_ble_eq_true rfl, Nat.le_of_ble_eq_true rfl⟩ dX1_canAdd_17 ⟨Nat.le_of_ble_eq_true rfl, Nat.le_of_ble_eq_true rfl⟩ rfl ?_
    refine ro_iconst (v := (-1)) (q := 21) hX dX1_canAdd_20 rfl rfl ?_
    refine ro_icmp_eq (tgt := 28) (q := 24) hX dX1_canAdd_21 (by decide) rfl (fun q2 => ?_) (fun q2 => ?_)
    · rw [oNb] at q2
      refine ro_iconst (v := nI 0) (q := 29) hX dX1_canAdd_28 rfl rfl ?_
      exact fin_z hF (Nat.le_of_ble_eq_true rfl) (Nat.le_of_ble_eq_true rfl) dX1_canAdd_29 rfl (by first | with_reducible rfl | (simp [caddS, bi, setL_s, setL_t, setL_0, dropL_0, dropL_c, *]; done) | (simp only [caddS, bi, setL_s, setL_t, setL_0, dropL_0, dropL_c]; (repeat' split) <;> first | with_reducible rfl | contradiction | (simp_all; done)) | rfl) (by first | with_reducible rfl | (simp [caddS, bi, setL_s, setL_t, setL_0, dropL_0, dropL_c, *]; done) | (simp only [caddS, bi, setL_s, setL_t, setL_0, dropL_0, dropL_c]; (repeat' split) <;> first | with_reducible rfl | contradiction | (simp_all; done)) | rfl)
    · rw [oNb] at q2
      refine ro_iconst (v := nI 1) (q := 25) hX dX1_canAdd_24 rfl rfl ?_
      refine ro_goto (tgt := 29) hX dX1_canAdd_25 (by decide) ?_
      exact fin_z hF (Nat.le_of_ble_eq_true rfl) (Nat.le_of_ble_eq_true rfl) dX1_canAdd_29 rfl (by first | with_reducible rfl | (simp [caddS, bi, setL_s, setL_t, setL_0, dropL_0, dropL_c, *]; done) | (simp only [caddS, bi, setL_s, setL_t, setL_0, dropL_0, dropL_c]; (repeat' split) <;> first | with_reducible rfl | contradiction | (simp_all; done)) | rfl) (by first | with_reducible rfl | (simp [caddS, bi, setL_s, setL_t, setL_0, dropL_0, dropL_c, *]; done) | (simp only [caddS, bi, setL_s, setL_t, setL_0, dropL_0, dropL_c]; (repeat' split) <;> first | with_reducible rfl | contradiction | (simp_all; done)) | rfl)
set_option maxRecDepth 20000 in
set_option maxHeartbeats 2000000 in
theorem s_canBegin (hB : isB r) {h : Nat} (hh : h < 6) : Does sz I_X1_canBegin [.ref (sz + r), .int (nI h)] (patch G r 7 f, T) 0 0 (.inl (some (bi (cbegS f h)))) (patch G r 7 f, T) := by
  refine Does.of (L := [(0, .ref (sz + r)), (1, .int (nI h))]) (by decide +kernel) (Nat.le_of_ble_eq_true rfl) rfl ⟨rfl, (by simp), ⟨rfl, (by simp), trivial⟩⟩ (fun VV hF => ?_)
  have hX := hF.c
  refine ro_iload_n (i := 1) (q := 1) hX dX1_canBegin_0 rfl rfl rfl ?_
  refine ro_callSi (q9 := 4) hX (s_isHost_t (by omega)) mw_X1_isHost kl_X1_82 rfl rfl (Nat.le_of_ble_eq_true rfl) ⟨Nat.le_of_ble_eq_true rfl, Nat.le_of_ble_eq_true rfl⟩ dX1_canBegin_1 ⟨Nat.le_of_ble_eq_true rfl, Nat.le_of_ble_eq_true rfl⟩ rfl ?_
  refine ro_if_eq (tgt := 31) (q := 7) hX dX1_canBegin_4 (by decide) rfl (fun q => absurd q (by decide)) (fun _ => ?_)
  refine ro_aload_n (i := 0) (q := 8) hX dX1_canBegin_7 rfl rfl rfl ?_
  refine ro_Sga (j := 0) (a := 1) (q9 := 11) ⟨by decide, rfl⟩ hX hB kf_X1_9 dX1_canBegin_8 rfl ?_
  refine ro_iload_n (i := 1) (q := 12) hX dX1_canBegin_11 rfl rfl rfl ?_
  refine ro_Sald (a := 1) (n := h) (q9 := 13) ⟨by decide, by decide⟩ hX hB rfl (show h < 6 from by omega) dX1_canBegin_12 rfl ?_
  refine ro_if_ne (tgt := 31) (q := 16) hX dX1_canBegin_13 (by decide) rfl (fun q1 => ?_) (fun q1 => ?_)
  · skip
    refine ro_iconst (v := nI 0) (q := 32) hX dX1_canBegin_31 rfl rfl ?_
    exact fin_z hF (Nat.le_of_ble_eq_true rfl) (Nat.le_of_ble_eq_true rfl) dX1_canBegin_32 rfl (by first | with_reducible rfl | (simp [cbegS, bi, setL_s, setL_t, setL_0, dropL_0, dropL_c, *]; done) | (simp only [cbegS, bi, setL_s, setL_t, setL_0, dropL_0, dropL_c]; (repeat' split) <;> first | with_reducible rfl | contradiction | (simp_all; done)) | rfl) (by first | with_reducible rfl | (simp [cbegS, bi, setL_s, setL_t, setL_0, dropL_0, dropL_c, *]; done) | (simp only [cbegS, bi, setL_s, setL_t, setL_0, dropL_0, dropL_c]; (repeat' split) <;> first | with_reducible rfl | contradiction | (simp_all; done)) | rfl)
  · skip
    refine ro_aload_n (i := 0) (q := 17) hX dX1_canBegin_16 rfl rfl rfl ?_
    refine ro_Sgi (j := 7) (q9 := 20) ⟨by decide, by decide⟩ hX hB kf_X1_34 dX1_canBegin_17 rfl ?_
    refine ro_iload_n (i := 1) (q := 21) hX dX1_canBegin_20 rfl rfl rfl ?_
    refine ro_callSNi (q9 := 24) hX (s_has) mw_X2_has kl_X1_68 rfl rfl (Nat.le_of_ble_eq_true rfl) ⟨Nat.le_of_ble_eq_true rfl, Nat.le_of_ble_eq_true rfl⟩ dX1_canBegin_21 ⟨Nat.le_of_ble_eq_true rfl, Nat.le_of_ble_eq_true rfl⟩ rfl ?_
    refine ro_ifb_eq (tgt := 31) (q := 27) hX dX1_canBegin_24 (by decide) rfl (fun q2 => ?_) (fun q2 => ?_)
    · skip
      refine ro_iconst (v := nI 0) (q := 32) hX dX1_canBegin_31 rfl rfl ?_
      exact fin_z hF (Nat.le_of_ble_eq_true rfl) (Nat.le_of_ble_eq_true rfl) dX1_canBegin_32 rfl (by first | with_reducible rfl | (simp [cbegS, bi, setL_s, setL_t, setL_0, dropL_0, dropL_c, *]; done) | (simp only [cbegS, bi, setL_s, setL_t, setL_0, dropL_0, dropL_c]; (repeat' split) <;> first | with_reducible rfl | contradiction | (simp_all; done)) | rfl) (by first | with_reducible rfl | (simp [cbegS, bi, setL_s, setL_t, setL_0, dropL_0, dropL_c, *]; done) | (simp only [cbegS, bi, setL_s, setL_t, setL_0, dropL_0, dropL_c]; (repeat' split) <;> first | with_reducible rfl | contradiction | (simp_all; done)) | rfl)
    · skip
      refine ro_iconst (v := nI 1) (q := 28) hX dX1_canBegin_27 rfl rfl ?_
      refine ro_goto (tgt := 32) hX dX1_canBegin_28 (by decide) ?_
      exact fin_z hF (Nat.le_of_ble_eq_true rfl) (Nat.le_of_ble_eq_true rfl) dX1_canBegin_32 rfl (by first | with_reducible rfl | (simp [cbegS, bi, setL_s, setL_t, setL_0, dropL_0, dropL_c, *]; done) | (simp only [cbegS, bi, setL_s, setL_t, setL_0, dropL_0, dropL_c]; (repeat' split) <;> first | with_reducible rfl | contradiction | (simp_all; done)) | rfl) (by first | with_reducible rfl | (simp [cbegS, bi, setL_s, setL_t, setL_0, dropL_0, dropL_c, *]; done) | (simp only [cbegS, bi, setL_s, setL_t, setL_0, dropL_0, dropL_c]; (repeat' split) <;> first | with_reducible rfl | contradiction | (simp_all; done)) | rfl)
set_option maxRecDepth 20000 in
set_option maxHeartbeats 2000000 in
theorem s_canDetach (hB : isB r) {h : Nat} (hh : h < 6) : Does sz I_X1_canDetach [.ref (sz + r), .int (nI h)] (patch G r 7 f, T) 0 0 (.inl (some (bi (cdetS f h)))) (patch G r 7 f, T) := by
  refine Does.of (L := [(0, .ref (sz + r)), (1, .int (nI h))]) (by decide +kernel) (Nat.le_of_ble_eq_true rfl) rfl ⟨rfl, (by simp), ⟨rfl, (by simp), trivial⟩⟩ (fun VV hF => ?_)
  have hX := hF.c
  refine ro_iload_n (i := 1) (q := 1) hX dX1_canDetach_0 rfl rfl rfl ?_
  refine ro_callSi (q9 := 4) hX (s_isHost_t (by omega)) mw_X1_isHost kl_X1_82 rfl rfl (Nat.le_of_ble_eq_true rfl) ⟨Nat.le_of_ble_eq_true rfl, Nat.le_of_ble_eq_true rfl⟩ dX1_canDetach_1 ⟨Nat.le_of_ble_eq_true rfl, Nat.le_of_ble_eq_true rfl⟩ rfl ?_
  refine ro_if_eq (tgt := 31) (q := 7) hX dX1_canDetach_4 (by decide) rfl (fun q => absurd q (by decide)) (fun _ => ?_)
  refine ro_aload_n (i := 0) (q := 8) hX dX1_canDetach_7 rfl rfl rfl ?_
  refine ro_Sga (j := 0) (a := 1) (q9 := 11) ⟨by decide, rfl⟩ hX hB kf_X1_9 dX1_canDetach_8 rfl ?_
  refine ro_iload_n (i := 1) (q := 12) hX dX1_canDetach_11 rfl rfl rfl ?_
  refine ro_Sald (a := 1) (n := h) (q9 := 13) ⟨by decide, by decide⟩ hX hB rfl (show h < 6 from by omega) dX1_canDetach_12 rfl ?_
  refine ro_if_eq (tgt := 31) (q := 16) hX dX1_canDetach_13 (by decide) rfl (fun q1 => ?_) (fun q1 => ?_)
  · skip
    refine ro_iconst (v := nI 0) (q := 32) hX dX1_canDetach_31 rfl rfl ?_
    exact fin_z hF (Nat.le_of_ble_eq_true rfl) (Nat.le_of_ble_eq_true rfl) dX1_canDetach_32 rfl (by first | with_reducible rfl | (simp [cdetS, bi, setL_s, setL_t, setL_0, dropL_0, dropL_c, *]; done) | (simp only [cdetS, bi, setL_s, setL_t, setL_0, dropL_0, dropL_c]; (repeat' split) <;> first | with_reducible rfl | contradiction | (simp_all; done)) | rfl) (by first | with_reducible rfl | (simp [cdetS, bi, setL_s, setL_t, setL_0, dropL_0, dropL_c, *]; done) | (simp only [cdetS, bi, setL_s, setL_t, setL_0, dropL_0, dropL_c]; (repeat' split) <;> first | with_reducible rfl | contradiction | (simp_all; done)) | rfl)
  · skip
    refine ro_aload_n (i := 0) (q := 17) hX dX1_canDetach_16 rfl rfl rfl ?_
    refine ro_Sgi (j := 7) (q9 := 20) ⟨by decide, by decide⟩ hX hB kf_X1_34 dX1_canDetach_17 rfl ?_
    refine ro_iload_n (i := 1) (q := 21) hX dX1_canDetach_20 rfl rfl rfl ?_
    refine ro_callSNi (q9 := 24) hX (s_has) mw_X2_has kl_X1_68 rfl rfl (Nat.le_of_ble_eq_true rfl) ⟨Nat.le_of_ble_eq_true rfl, Nat.le_of_ble_eq_true rfl⟩ dX1_canDetach_21 ⟨Nat.le_of_ble_eq_true rfl, Nat.le_of_ble_eq_true rfl⟩ rfl ?_
    refine ro_ifb_eq (tgt := 31) (q := 27) hX dX1_canDetach_24 (by decide) rfl (fun q2 => ?_) (fun q2 => ?_)
    · skip
      refine ro_iconst (v := nI 0) (q := 32) hX dX1_canDetach_31 rfl rfl ?_
      exact fin_z hF (Nat.le_of_ble_eq_true rfl) (Nat.le_of_ble_eq_true rfl) dX1_canDetach_32 rfl (by first | with_reducible rfl | (simp [cdetS, bi, setL_s, setL_t, setL_0, dropL_0, dropL_c, *]; done) | (simp only [cdetS, bi, setL_s, setL_t, setL_0, dropL_0, dropL_c]; (repeat' split) <;> first | with_reducible rfl | contradiction | (simp_all; done)) | rfl) (by first | with_reducible rfl | (simp [cdetS, bi, setL_s, setL_t, setL_0, dropL_0, dropL_c, *]; done) | (simp only [cdetS, bi, setL_s, setL_t, setL_0, dropL_0, dropL_c]; (repeat' split) <;> first | with_reducible rfl | contradiction | (simp_all; done)) | rfl)
    · skip
      refine ro_iconst (v := nI 1) (q := 28) hX dX1_canDetach_27 rfl rfl ?_
      refine ro_goto (tgt := 32) hX dX1_canDetach_28 (by decide) ?_
      exact fin_z hF (Nat.le_of_ble_eq_true rfl) (Nat.le_of_ble_eq_true rfl) dX1_canDetach_32 rfl (by first | with_reducible rfl | (simp [cdetS, bi, setL_s, setL_t, setL_0, dropL_0, dropL_c, *]; done) | (simp only [cdetS, bi, setL_s, setL_t, setL_0, dropL_0, dropL_c]; (repeat' split) <;> first | with_reducible rfl | contradiction | (simp_all; done)) | rfl) (by first | with_reducible rfl | (simp [cdetS, bi, setL_s, setL_t, setL_0, dropL_0, dropL_c, *]; done) | (simp only [cdetS, bi, setL_s, setL_t, setL_0, dropL_0, dropL_c]; (repeat' split) <;> first | with_reducible rfl | contradiction | (simp_all; done)) | rfl)
set_option maxRecDepth 20000 in
set_option maxHeartbeats 2000000 in
theorem s_canAttach (hB : isB r) {h : Nat} (hh : h < 6) : Does sz I_X1_canAttach [.ref (sz + r), .int (nI h)] (patch G r 7 f, T) 0 0 (.inl (some (bi (cattS f h)))) (patch G r 7 f, T) := by
  refine Does.of (L := [(0, .ref (sz + r)), (1, .int (nI h))]) (by decide +kernel) (Nat.le_of_ble_eq_true rfl) rfl ⟨rfl, (by simp), ⟨rfl, (by simp), trivial⟩⟩ (fun VV hF => ?_)
  have hX := hF.c
  refine ro_iload_n (i := 1) (q := 1) hX dX1_canAttach_0 rfl rfl rfl ?_
  refine ro_callSi (q9 := 4) hX (s_isHost_t (by omega)) mw_X1_isHost kl_X1_82 rfl rfl (Nat.le_of_ble_eq_true rfl) ⟨Nat.le_of_ble_eq_true rfl, Nat.le_of_ble_eq_true rfl⟩ dX1_canAttach_1 ⟨Nat.le_of_ble_eq_true rfl, Nat.le_of_ble_eq_true rfl⟩ rfl ?_
  refine ro_if_eq (tgt := 22) (q := 7) hX dX1_canAttach_4 (by decide) rfl (fun q => absurd q (by decide)) (fun _ => ?_)
  refine ro_aload_n (i := 0) (q := 8) hX dX1_canAttach_7 rfl rfl rfl ?_
  refine ro_Sgi (j := 7) (q9 := 11) ⟨by decide, by decide⟩ hX hB kf_X1_34 dX1_canAttach_8 rfl ?_
  refine ro_iload_n (i := 1) (q := 12) hX dX1_canAttach_11 rfl rfl rfl ?_
  refine ro_callSNi (q9 := 15) hX (s_has) mw_X2_has kl_X1_68 rfl rfl (Nat.le_of_ble_eq_true rfl) ⟨Nat.le_of_ble_eq_true rfl, Nat.le_of_ble_eq_true rfl⟩ dX1_canAttach_12 ⟨Nat.le_of_ble_eq_true rfl, Nat.le_of_ble_eq_true rfl⟩ rfl ?_
  refine ro_ifb_ne (tgt := 22) (q := 18) hX dX1_canAttach_15 (by decide) rfl (fun q1 => ?_) (fun q1 => ?_)
  · skip
    refine ro_iconst (v := nI 0) (q := 23) hX dX1_canAttach_22 rfl rfl ?_
    exact fin_z hF (Nat.le_of_ble_eq_true rfl) (Nat.le_of_ble_eq_true rfl) dX1_canAttach_23 rfl (by first | with_reducible rfl | (simp [cattS, bi, setL_s, setL_t, setL_0, dropL_0, dropL_c, *]; done) | (simp only [cattS, bi, setL_s, setL_t, setL_0, dropL_0, dropL_c]; (repeat' split) <;> first | with_reducible rfl | contradiction | (simp_all; done)) | rfl) (by first | with_reducible rfl | (simp [cattS, bi, setL_s, setL_t, setL_0, dropL_0, dropL_c, *]; done) | (simp only [cattS, bi, setL_s, setL_t, setL_0, dropL_0, dropL_c]; (repeat' split) <;> first | with_reducible rfl | contradiction | (simp_all; done)) | rfl)
  · skip
    refine ro_iconst (v := nI 1) (q := 19) hX dX1_canAttach_18 rfl rfl ?_
    refine ro_goto (tgt := 23) hX dX1_canAttach_19 (by decide) ?_
    exact fin_z hF (Nat.le_of_ble_eq_true rfl) (Nat.le_of_ble_eq_true rfl) dX1_canAttach_23 rfl (by first | with_reducible rfl | (simp [cattS, bi, setL_s, setL_t, setL_0, dropL_0, dropL_c, *]; done) | (simp only [cattS, bi, setL_s, setL_t, setL_0, dropL_0, dropL_c]; (repeat' split) <;> first | with_reducible rfl | contradiction | (simp_all; done)) | rfl) (by first | with_reducible rfl | (simp [cattS, bi, setL_s, setL_t, setL_0, dropL_0, dropL_c, *]; done) | (simp only [cattS, bi, setL_s, setL_t, setL_0, dropL_0, dropL_c]; (repeat' split) <;> first | with_reducible rfl | contradiction | (simp_all; done)) | rfl)
set_option maxRecDepth 20000 in
set_option maxHeartbeats 2000000 in
theorem s_canBreak (hB : isB r) {h : Nat} (hh : h < 6) : Does sz I_X1_canBreak [.ref (sz + r), .int (nI h)] (patch G r 7 f, T) 0 0 (.inl (some (bi (cbrkS f h)))) (patch G r 7 f, T) := by
  refine Does.of (L := [(0, .ref (sz + r)), (1, .int (nI h))]) (by decide +kernel) (Nat.le_of_ble_eq_true rfl) rfl ⟨rfl, (by simp), ⟨rfl, (by simp), trivial⟩⟩ (fun VV hF => ?_)
  have hX := hF.c
  refine ro_iload_n (i := 1) (q := 1) hX dX1_canBreak_0 rfl rfl rfl ?_
  refine ro_callSi (q9 := 4) hX (s_isHost_t (by omega)) mw_X1_isHost kl_X1_82 rfl rfl (Nat.le_of_ble_eq_true rfl) ⟨Nat.le_of_ble_eq_true rfl, Nat.le_of_ble_eq_true rfl⟩ dX1_canBreak_1 ⟨Nat.le_of_ble_eq_true rfl, Nat.le_of_ble_eq_true rfl⟩ rfl ?_
  refine ro_if_eq (tgt := 20) (q := 7) hX dX1_canBreak_4 (by decide) rfl (fun q => absurd q (by decide)) (fun _ => ?_)
  refine ro_aload_n (i := 0) (q := 8) hX dX1_canBreak_7 rfl rfl rfl ?_
  refine ro_Sga (j := 0) (a := 1) (q9 := 11) ⟨by decide, rfl⟩ hX hB kf_X1_9 dX1_canBreak_8 rfl ?_
  refine ro_iload_n (i := 1) (q := 12) hX dX1_canBreak_11 rfl rfl rfl ?_
  refine ro_Sald (a := 1) (n := h) (q9 := 13) ⟨by decide, by decide⟩ hX hB rfl (show h < 6 from by omega) dX1_canBreak_12 rfl ?_
  refine ro_if_eq (tgt := 20) (q := 16) hX dX1_canBreak_13 (by decide) rfl (fun q1 => ?_) (fun q1 => ?_)
  · skip
    refine ro_iconst (v := nI 0) (q := 21) hX dX1_canBreak_20 rfl rfl ?_
    exact fin_z hF (Nat.le_of_ble_eq_true rfl) (Nat.le_of_ble_eq_true rfl) dX1_canBreak_21 rfl (by first | with_reducible rfl | (simp [cbrkS, bi, setL_s, setL_t, setL_0, dropL_0, dropL_c, *]; done) | (simp only [cbrkS, bi, setL_s, setL_t, setL_0, dropL_0, dropL_c]; (repeat' split) <;> first | with_reducible rfl | contradiction | (simp_all; done)) | rfl) (by first | with_reducible rfl | (simp [cbrkS, bi, setL_s, setL_t, setL_0, dropL_0, dropL_c, *]; done) | (simp only [cbrkS, bi, setL_s, setL_t, setL_0, dropL_0, dropL_c]; (repeat' split) <;> first | with_reducible rfl | contradiction | (simp_all; done)) | rfl)
  · skip
    refine ro_iconst (v := nI 1) (q := 17) hX dX1_canBreak_16 rfl rfl ?_
    refine ro_goto (tgt := 21) hX dX1_canBreak_17 (by decide) ?_
    exact fin_z hF (Nat.le_of_ble_eq_true rfl) (Nat.le_of_ble_eq_true rfl) dX1_canBreak_21 rfl (by first | with_reducible rfl | (simp [cbrkS, bi, setL_s, setL_t, setL_0, dropL_0, dropL_c, *]; done) | (simp only [cbrkS, bi, setL_s, setL_t, setL_0, dropL_0, dropL_c]; (repeat' split) <;> first | with_reducible rfl | contradiction | (simp_all; done)) | rfl) (by first | with_reducible rfl | (simp [cbrkS, bi, setL_s, setL_t, setL_0, dropL_0, dropL_c, *]; done) | (simp only [cbrkS, bi, setL_s, setL_t, setL_0, dropL_0, dropL_c]; (repeat' split) <;> first | with_reducible rfl | contradiction | (simp_all; done)) | rfl)
set_option maxRecDepth 20000 in
set_option maxHeartbeats 2000000 in
theorem s_canAdvance (hB : isB r) {x : Int32} : Does sz I_X1_canAdvance [.ref (sz + r), .int x] (patch G r 7 f, T) 0 0 (.inl (some (bi (cadvS f x)))) (patch G r 7 f, T) := by
  refine Does.of (L := [(0, .ref (sz + r)), (1, .int x)]) (by decide +kernel) (Nat.le_of_ble_eq_true rfl) rfl ⟨rfl, (by simp), ⟨rfl, (by simp), trivial⟩⟩ (fun VV hF => ?_)
  have hX := hF.c
  refine ro_iload_n (i := 1) (q := 1) hX dX1_canAdvance_0 rfl rfl rfl ?_
  refine ro_ldc (v := nI 1000000) (q := 3) hX kc_X1_85 dX1_canAdvance_1 rfl ?_
  refine ro_aload_n (i := 0) (q := 4) hX dX1_canAdvance_3 rfl rfl rfl ?_
  refine ro_Sgi (j := 8) (q9 := 7) ⟨by decide, by decide⟩ hX hB kf_X1_37 dX1_canAdvance_4 rfl ?_
  refine ro_isub (q := 8) hX dX1_canAdvance_7 rfl ?_
  refine ro_icmp_gt (tgt := 15) (q := 11) hX dX1_canAdvance_8 (by decide) rfl (fun q1 => ?_) (fun q1 => ?_)
  · skip
    refine ro_iconst (v := nI 0) (q := 16) hX dX1_canAdvance_15 rfl rfl ?_
    exact fin_z hF (Nat.le_of_ble_eq_true rfl) (Nat.le_of_ble_eq_true rfl) dX1_canAdvance_16 rfl (by first | with_reducible rfl | (simp [cadvS, bi, setL_s, setL_t, setL_0, dropL_0, dropL_c, *]; done) | (simp only [cadvS, bi, setL_s, setL_t, setL_0, dropL_0, dropL_c]; (repeat' split) <;> first | with_reducible rfl | contradiction | (simp_all; done)) | rfl) (by first | with_reducible rfl | (simp [cadvS, bi, setL_s, setL_t, setL_0, dropL_0, dropL_c, *]; done) | (simp only [cadvS, bi, setL_s, setL_t, setL_0, dropL_0, dropL_c]; (repeat' split) <;> first | with_reducible rfl | contradiction | (simp_all; done)) | rfl)
  · skip
    refine ro_iconst (v := nI 1) (q := 12) hX dX1_canAdvance_11 rfl rfl ?_
    refine ro_goto (tgt := 16) hX dX1_canAdvance_12 (by decide) ?_
    exact fin_z hF (Nat.le_of_ble_eq_true rfl) (Nat.le_of_ble_eq_true rfl) dX1_canAdvance_16 rfl (by first | with_reducible rfl | (simp [cadvS, bi, setL_s, setL_t, setL_0, dropL_0, dropL_c, *]; done) | (simp only [cadvS, bi, setL_s, setL_t, setL_0, dropL_0, dropL_c]; (repeat' split) <;> first | with_reducible rfl | contradiction | (simp_all; done)) | rfl) (by first | with_reducible rfl | (simp [cadvS, bi, setL_s, setL_t, setL_0, dropL_0, dropL_c, *]; done) | (simp only [cadvS, bi, setL_s, setL_t, setL_0, dropL_0, dropL_c]; (repeat' split) <;> first | with_reducible rfl | contradiction | (simp_all; done)) | rfl)
set_option maxRecDepth 20000 in
set_option maxHeartbeats 2000000 in
theorem s_isAtRest (hB : isB r) : Does sz I_X1_isAtRest [.ref (sz + r)] (patch G r 7 f, T) 0 0 (.inl (some (bi (restS f)))) (patch G r 7 f, T) := by
  refine Does.of (L := [(0, .ref (sz + r))]) (by decide +kernel) (Nat.le_of_ble_eq_true rfl) rfl ⟨rfl, (by simp), trivial⟩ (fun VV hF => ?_)
  have hX := hF.c
  refine ro_iconst (v := nI 0) (q := 1) hX dX1_isAtRest_0 rfl rfl ?_
  refine ro_istore_n (i := 1) (q := 2) hX dX1_isAtRest_1 rfl (Nat.le_of_ble_eq_true rfl) rfl ?_
  refine vv_LM (L' := [(0, .ref (sz + r)), (1, .int (nI 0))]) (M' := (patch G r 7 f, T)) (by rfl) (by rfl) ?_
  refine down_ind (P := fun k2 => recS f k2 = false → VV 0 0 2 [(0, .ref (sz + r)), (1, .int (nI k2))] [] (patch G r 7 f, T)) (6) (fun k2 hk2 ih2 hv2 => ?_) (fun hv2 => ?_) rfl
  · have ih2 : recS f (k2 + 1) = false → VV 0 0 2 [(0, .ref (sz + r)), (1, .int (nI (k2 + 1)))] [] (patch G r 7 f, T) := ih2
    show VV 0 0 2 [(0, .ref (sz + r)), (1, .int (nI k2))] [] (patch G r 7 f, T)
    refine ro_iload_n (i := 1) (q := 3) hX dX1_isAtRest_2 rfl rfl rfl ?_
    refine ro_bipush (v := nI 6) (q := 5) hX dX1_isAtRest_3 rfl rfl ?_
    refine ro_icmp_ge (tgt := 26) (q := 8) hX dX1_isAtRest_5 (by decide) rfl (fun q => absurd q (by first | exact ni_nle (by omega) (by omega) | exact ni_lt (by omega) (by omega))) (fun _ => ?_)
    refine ro_aload_n (i := 0) (q := 9) hX dX1_isAtRest_8 rfl rfl rfl ?_
    refine ro_Sga (j := 0) (a := 1) (q9 := 12) ⟨by decide, rfl⟩ hX hB kf_X1_9 dX1_isAtRest_9 rfl ?_
    refine ro_iload_n (i := 1) (q := 13) hX dX1_isAtRest_12 rfl rfl rfl ?_
    refine ro_Sald (a := 1) (n := k2) (q9 := 14) ⟨by decide, by decide⟩ hX hB rfl (show k2 < 6 from by omega) dX1_isAtRest_13 rfl ?_
    refine ro_iconst (v := nI 2) (q := 15) hX dX1_isAtRest_14 rfl rfl ?_
    refine ro_icmp_ne (tgt := 20) (q := 18) hX dX1_isAtRest_15 (by decide) rfl (fun q1 => ?_) (fun q1 => ?_)
    · skip
      refine ro_iinc (i := 1) (v := nI (k2 + 1)) (q := 23) hX dX1_isAtRest_20 rfl (ni_inc _) (Nat.le_of_ble_eq_true rfl) rfl ?_
      refine ro_goto (tgt := 2) hX dX1_isAtRest_23 (by decide) ?_
      exact vv_LM (by rfl) (by rfl) (ih2 (by simp [recS, *]))
    · skip
      refine ro_iconst (v := nI 0) (q := 19) hX dX1_isAtRest_18 rfl rfl ?_
      exact fin_z hF (Nat.le_of_ble_eq_true rfl) (Nat.le_of_ble_eq_true rfl) dX1_isAtRest_19 rfl (by first | with_reducible rfl | (simp [restS, bi, setL_s, setL_t, setL_0, dropL_0, dropL_c, *]; done) | (simp [restS, bi, recS_at 6 hk2 (by assumption)]; done) | (simp only [restS, bi, setL_s, setL_t, setL_0, dropL_0, dropL_c]; (repeat' split) <;> first | with_reducible rfl | contradiction | (simp_all; done)) | rfl) (by first | with_reducible rfl | (simp [restS, bi, setL_s, setL_t, setL_0, dropL_0, dropL_c, *]; done) | (simp [restS, bi, recS_at 6 hk2 (by assumption)]; done) | (simp only [restS, bi, setL_s, setL_t, setL_0, dropL_0, dropL_c]; (repeat' split) <;> first | with_reducible rfl | contradiction | (simp_all; done)) | rfl)
  · show VV 0 0 2 [(0, .ref (sz + r)), (1, .int (nI 6))] [] (patch G r 7 f, T)
    refine ro_iload_n (i := 1) (q := 3) hX dX1_isAtRest_2 rfl rfl rfl ?_
    refine ro_bipush (v := nI 6) (q := 5) hX dX1_isAtRest_3 rfl rfl ?_
    refine ro_icmp_ge (tgt := 26) (q := 8) hX dX1_isAtRest_5 (by decide) rfl (fun _ => ?_) (fun q => absurd (by decide) q)
    refine ro_aload_n (i := 0) (q := 27) hX dX1_isAtRest_26 rfl rfl rfl ?_
    refine ro_Sgi (j := 11) (q9 := 30) ⟨by decide, by decide⟩ hX hB kf_X1_46 dX1_isAtRest_27 rfl ?_
    refine ro_iconst (v := (-1)) (q := 31) hX dX1_isAtRest_30 rfl rfl ?_
    refine ro_icmp_ne (tgt := 38) (q := 34) hX dX1_isAtRest_31 (by decide) rfl (fun q2 => ?_) (fun q2 => ?_)
    · skip
      refine ro_iconst (v := nI 0) (q := 39) hX dX1_isAtRest_38 rfl rfl ?_
      exact fin_z hF (Nat.le_of_ble_eq_true rfl) (Nat.le_of_ble_eq_true rfl) dX1_isAtRest_39 rfl (by first | with_reducible rfl | (simp [restS, bi, setL_s, setL_t, setL_0, dropL_0, dropL_c, *]; done) | (simp [restS, bi, recS_at 6 hk2 (by assumption)]; done) | (simp only [restS, bi, setL_s, setL_t, setL_0, dropL_0, dropL_c]; (repeat' split) <;> first | with_reducible rfl | contradiction | (simp_all; done)) | rfl) (by first | with_reducible rfl | (simp [restS, bi, setL_s, setL_t, setL_0, dropL_0, dropL_c, *]; done) | (simp [restS, bi, recS_at 6 hk2 (by assumption)]; done) | (simp only [restS, bi, setL_s, setL_t, setL_0, dropL_0, dropL_c]; (repeat' split) <;> first | with_reducible rfl | contradiction | (simp_all; done)) | rfl)
    · skip
      refine ro_iconst (v := nI 1) (q := 35) hX dX1_isAtRest_34 rfl rfl ?_
      refine ro_goto (tgt := 39) hX dX1_isAtRest_35 (by decide) ?_
      exact fin_z hF (Nat.le_of_ble_eq_true rfl) (Nat.le_of_ble_eq_true rfl) dX1_isAtRest_39 rfl (by first | with_reducible rfl | (simp [restS, bi, setL_s, setL_t, setL_0, dropL_0, dropL_c, *]; done) | (simp [restS, bi, recS_at 6 hk2 (by assumption)]; done) | (simp only [restS, bi, setL_s, setL_t, setL_0, dropL_0, dropL_c]; (repeat' split) <;> first | with_reducible rfl | contradiction | (simp_all; done)) | rfl) (by first | with_reducible rfl | (simp [restS, bi, setL_s, setL_t, setL_0, dropL_0, dropL_c, *]; done) | (simp [restS, bi, recS_at 6 hk2 (by assumption)]; done) | (simp only [restS, bi, setL_s, setL_t, setL_0, dropL_0, dropL_c]; (repeat' split) <;> first | with_reducible rfl | contradiction | (simp_all; done)) | rfl)
set_option maxRecDepth 20000 in
set_option maxHeartbeats 2000000 in
theorem s_nextEvent (hB : isB r) {x : Int32} : Does sz I_X1_nextEvent [.ref (sz + r), .int x] (patch G r 7 f, T) 0 0 (.inl (some (neS f x))) (patch G r 7 f, T) := by
  refine Does.of (L := [(0, .ref (sz + r)), (1, .int x)]) (by decide +kernel) (Nat.le_of_ble_eq_true rfl) rfl ⟨rfl, (by simp), ⟨rfl, (by simp), trivial⟩⟩ (fun VV hF => ?_)
  have hX := hF.c
  refine ro_iload_n (i := 1) (q := 1) hX dX1_nextEvent_0 rfl rfl rfl ?_
  refine ro_istore_n (i := 2) (q := 2) hX dX1_nextEvent_1 rfl (Nat.le_of_ble_eq_true rfl) rfl ?_
  refine ro_aload_n (i := 0) (q := 3) hX dX1_nextEvent_2 rfl rfl rfl ?_
  refine ro_Sgi (j := 11) (q9 := 6) ⟨by decide, by decide⟩ hX hB kf_X1_46 dX1_nextEvent_3 rfl ?_
  refine ro_iconst (v := (-1)) (q := 7) hX dX1_nextEvent_6 rfl rfl ?_
  refine ro_icmp_eq (tgt := 23) (q := 10) hX dX1_nextEvent_7 (by decide) rfl (fun q1 => ?_) (fun q1 => ?_)
  · skip
    refine ro_iconst (v := nI 0) (q := 24) hX dX1_nextEvent_23 rfl rfl ?_
    refine ro_istore_n (i := 3) (q := 25) hX dX1_nextEvent_24 rfl (Nat.le_of_ble_eq_true rfl) rfl ?_
    refine vv_LM (L' := [(0, .ref (sz + r)), (1, .int x), (2, .int (neL f (neB f x) 0)), (3, .int (nI 0))]) (M' := (patch G r 7 f, T)) (by first | with_reducible rfl | (simp [neL, neB, setL_s, setL_t, setL_0, dropL_0, dropL_c, *]; done) | (simp only [neL, neB, setL_s, setL_t, setL_0, dropL_0, dropL_c]; (repeat' split) <;> first | with_reducible rfl | contradiction | (simp_all; done)) | rfl) (by first | with_reducible rfl | (simp [neL, neB, setL_s, setL_t, setL_0, dropL_0, dropL_c, *]; done) | (simp only [neL, neB, setL_s, setL_t, setL_0, dropL_0, dropL_c]; (repeat' split) <;> first | with_reducible rfl | contradiction | (simp_all; done)) | rfl) ?_
    refine down_ind (P := fun k25 => VV 0 0 25 [(0, .ref (sz + r)), (1, .int x), (2, .int (neL f (neB f x) k25)), (3, .int (nI k25))] [] (patch G r 7 f, T)) (6) (fun k25 hk25 ih25 => ?_) ?_
    · have ih25 : VV 0 0 25 [(0, .ref (sz + r)), (1, .int x), (2, .int (neL f (neB f x) (k25 + 1))), (3, .int (nI (k25 + 1)))] [] (patch G r 7 f, T) := ih25
      show VV 0 0 25 [(0, .ref (sz + r)), (1, .int x), (2, .int (neL f (neB f x) k25)), (3, .int (nI k25))] [] (patch G r 7 f, T)
      refine ro_iload_n (i := 3) (q := 26) hX dX1_nextEvent_25 rfl rfl rfl ?_
      refine ro_bipush (v := nI 6) (q := 28) hX dX1_nextEvent_26 rfl rfl ?_
      refine ro_icmp_ge (tgt := 64) (q := 31) hX dX1_nextEvent_28 (by decide) rfl (fun q => absurd q (by first | exact ni_nle (by omega) (by omega) | exact ni_lt (by omega) (by omega))) (fun _ => ?_)
      refine ro_aload_n (i := 0) (q := 32) hX dX1_nextEvent_31 rfl rfl rfl ?_
      refine ro_Sga (j := 0) (a := 1) (q9 := 35) ⟨by decide, rfl⟩ hX hB kf_X1_9 dX1_nextEvent_32 rfl ?_
      refine ro_iload_n (i := 3) (q := 36) hX dX1_nextEvent_35 rfl rfl rfl ?_
      refine ro_Sald (a := 1) (n := k25) (q9 := 37) ⟨by decide, by decide⟩ hX hB rfl (show k25 < 6 from by omega) dX1_nextEvent_36 rfl ?_
      refine ro_iconst (v := nI 2) (q := 38) hX dX1_nextEvent_37 rfl rfl ?_
      refine ro_icmp_ne (tgt := 58) (q := 41) hX dX1_nextEvent_38 (by decide) rfl (fun q2 => ?_) (fun q2 => ?_)
      · skip
        refine ro_iinc (i := 3) (v := nI (k25 + 1)) (q := 61) hX dX1_nextEvent_58 rfl (ni_inc _) (Nat.le_of_ble_eq_true rfl) rfl ?_
        refine ro_goto (tgt := 25) hX dX1_nextEvent_61 (by decide) ?_
        exact vv_LM (by first | with_reducible rfl | (simp [neL, setL_s, setL_t, setL_0, dropL_0, dropL_c, *]; done) | (simp only [neL, setL_s, setL_t, setL_0, dropL_0, dropL_c]; (repeat' split) <;> first | with_reducible rfl | contradiction | (simp_all; done)) | rfl) (by first | with_reducible rfl | (simp [neL, setL_s, setL_t, setL_0, dropL_0, dropL_c, *]; done) | (simp only [neL, setL_s, setL_t, setL_0, dropL_0, dropL_c]; (repeat' split) <;> first | with_reducible rfl | contradiction | (simp_all; done)) | rfl) ih25
      · skip
        refine ro_aload_n (i := 0) (q := 42) hX dX1_nextEvent_41 rfl rfl rfl ?_
        refine ro_Sga (j := 2) (a := 3) (q9 := 45) ⟨by decide, rfl⟩ hX hB kf_X1_18 dX1_nextEvent_42 rfl ?_
        refine ro_iload_n (i := 3) (q := 46) hX dX1_nextEvent_45 rfl rfl rfl ?_
        refine ro_Sald (a := 3) (n := k25) (q9 := 47) ⟨by decide, by decide⟩ hX hB rfl (show k25 < 6 from by omega) dX1_nextEvent_46 rfl ?_
        refine ro_iload_n (i := 2) (q := 48) hX dX1_nextEvent_47 rfl rfl rfl ?_
        refine ro_icmp_ge (tgt := 58) (q := 51) hX dX1_nextEvent_48 (by decide) rfl (fun q3 => ?_) (fun q3 => ?_)
        · skip
          refine ro_iinc (i := 3) (v := nI (k25 + 1)) (q := 61) hX dX1_nextEvent_58 rfl (ni_inc _) (Nat.le_of_ble_eq_true rfl) rfl ?_
          refine ro_goto (tgt := 25) hX dX1_nextEvent_61 (by decide) ?_
          exact vv_LM (by first | with_reducible rfl | (simp [neL, setL_s, setL_t, setL_0, dropL_0, dropL_c, *]; done) | (simp only [neL, setL_s, setL_t, setL_0, dropL_0, dropL_c]; (repeat' split) <;> first | with_reducible rfl | contradiction | (simp_all; done)) | rfl) (by first | with_reducible rfl | (simp [neL, setL_s, setL_t, setL_0, dropL_0, dropL_c, *]; done) | (simp only [neL, setL_s, setL_t, setL_0, dropL_0, dropL_c]; (repeat' split) <;> first | with_reducible rfl | contradiction | (simp_all; done)) | rfl) ih25
        · skip
          refine ro_aload_n (i := 0) (q := 52) hX dX1_nextEvent_51 rfl rfl rfl ?_
          refine ro_Sga (j := 2) (a := 3) (q9 := 55) ⟨by decide, rfl⟩ hX hB kf_X1_18 dX1_nextEvent_52 rfl ?_
          refine ro_iload_n (i := 3) (q := 56) hX dX1_nextEvent_55 rfl rfl rfl ?_
          refine ro_Sald (a := 3) (n := k25) (q9 := 57) ⟨by decide, by decide⟩ hX hB rfl (show k25 < 6 from by omega) dX1_nextEvent_56 rfl ?_
          refine ro_istore_n (i := 2) (q := 58) hX dX1_nextEvent_57 rfl (Nat.le_of_ble_eq_true rfl) rfl ?_
          refine ro_iinc (i := 3) (v := nI (k25 + 1)) (q := 61) hX dX1_nextEvent_58 rfl (ni_inc _) (Nat.le_of_ble_eq_true rfl) rfl ?_
          refine ro_goto (tgt := 25) hX dX1_nextEvent_61 (by decide) ?_
          exact vv_LM (by first | with_reducible rfl | (simp [neL, setL_s, setL_t, setL_0, dropL_0, dropL_c, *]; done) | (simp only [neL, setL_s, setL_t, setL_0, dropL_0, dropL_c]; (repeat' split) <;> first | with_reducible rfl | contradiction | (simp_all; done)) | rfl) (by first | with_reducible rfl | (simp [neL, setL_s, setL_t, setL_0, dropL_0, dropL_c, *]; done) | (simp only [neL, setL_s, setL_t, setL_0, dropL_0, dropL_c]; (repeat' split) <;> first | with_reducible rfl | contradiction | (simp_all; done)) | rfl) ih25
    · show VV 0 0 25 [(0, .ref (sz + r)), (1, .int x), (2, .int (neL f (neB f x) 6)), (3, .int (nI 6))] [] (patch G r 7 f, T)
      refine ro_iload_n (i := 3) (q := 26) hX dX1_nextEvent_25 rfl rfl rfl ?_
      refine ro_bipush (v := nI 6) (q := 28) hX dX1_nextEvent_26 rfl rfl ?_
      refine ro_icmp_ge (tgt := 64) (q := 31) hX dX1_nextEvent_28 (by decide) rfl (fun _ => ?_) (fun q => absurd (by decide) q)
      refine ro_iload_n (i := 2) (q := 65) hX dX1_nextEvent_64 rfl rfl rfl ?_
      exact fin_i hF (Nat.le_of_ble_eq_true rfl) (Nat.le_of_ble_eq_true rfl) dX1_nextEvent_65 (by rfl) (by rfl)
  · skip
    refine ro_aload_n (i := 0) (q := 11) hX dX1_nextEvent_10 rfl rfl rfl ?_
    refine ro_Sgi (j := 14) (q9 := 14) ⟨by decide, by decide⟩ hX hB kf_X1_55 dX1_nextEvent_11 rfl ?_
    refine ro_iload_n (i := 2) (q := 15) hX dX1_nextEvent_14 rfl rfl rfl ?_
    refine ro_icmp_ge (tgt := 23) (q := 18) hX dX1_nextEvent_15 (by decide) rfl (fun q4 => ?_) (fun q4 => ?_)
    · skip
      refine ro_iconst (v := nI 0) (q := 24) hX dX1_nextEvent_23 rfl rfl ?_
      refine ro_istore_n (i := 3) (q := 25) hX dX1_nextEvent_24 rfl (Nat.le_of_ble_eq_true rfl) rfl ?_
      refine vv_LM (L' := [(0, .ref (sz + r)), (1, .int x), (2, .int (neL f (neB f x) 0)), (3, .int (nI 0))]) (M' := (patch G r 7 f, T)) (by first | with_reducible rfl | (simp [neL, neB, setL_s, setL_t, setL_0, dropL_0, dropL_c, *]; done) | (simp only [neL, neB, setL_s, setL_t, setL_0, dropL_0, dropL_c]; (repeat' split) <;> first | with_reducible rfl | contradiction | (simp_all; done)) | rfl) (by first | with_reducible rfl | (simp [neL, neB, setL_s, setL_t, setL_0, dropL_0, dropL_c, *]; done) | (simp only [neL, neB, setL_s, setL_t, setL_0, dropL_0, dropL_c]; (repeat' split) <;> first | with_reducible rfl | contradiction | (simp_all; done)) | rfl) ?_
      refine down_ind (P := fun k25 => VV 0 0 25 [(0, .ref (sz + r)), (1, .int x), (2, .int (neL f (neB f x) k25)), (3, .int (nI k25))] [] (patch G r 7 f, T)) (6) (fun k25 hk25 ih25 => ?_) ?_
      · have ih25 : VV 0 0 25 [(0, .ref (sz + r)), (1, .int x), (2, .int (neL f (neB f x) (k25 + 1))), (3, .int (nI (k25 + 1)))] [] (patch G r 7 f, T) := ih25
        show VV 0 0 25 [(0, .ref (sz + r)), (1, .int x), (2, .int (neL f (neB f x) k25)), (3, .int (nI k25))] [] (patch G r 7 f, T)
        refine ro_iload_n (i := 3) (q := 26) hX dX1_nextEvent_25 rfl rfl rfl ?_
        refine ro_bipush (v := nI 6) (q := 28) hX dX1_nextEvent_26 rfl rfl ?_
        refine ro_icmp_ge (tgt := 64) (q := 31) hX dX1_nextEvent_28 (by decide) rfl (fun q => absurd q (by first | exact ni_nle (by omega) (by omega) | exact ni_lt (by omega) (by omega))) (fun _ => ?_)
        refine ro_aload_n (i := 0) (q := 32) hX dX1_nextEvent_31 rfl rfl rfl ?_
        refine ro_Sga (j := 0) (a := 1) (q9 := 35) ⟨by decide, rfl⟩ hX hB kf_X1_9 dX1_nextEvent_32 rfl ?_
        refine ro_iload_n (i := 3) (q := 36) hX dX1_nextEvent_35 rfl rfl rfl ?_
        refine ro_Sald (a := 1) (n := k25) (q9 := 37) ⟨by decide, by decide⟩ hX hB rfl (show k25 < 6 from by omega) dX1_nextEvent_36 rfl ?_
        refine ro_iconst (v := nI 2) (q := 38) hX dX1_nextEvent_37 rfl rfl ?_
        refine ro_icmp_ne (tgt := 58) (q := 41) hX dX1_nextEvent_38 (by decide) rfl (fun q5 => ?_) (fun q5 => ?_)
        · skip
          refine ro_iinc (i := 3) (v := nI (k25 + 1)) (q := 61) hX dX1_nextEvent_58 rfl (ni_inc _) (Nat.le_of_ble_eq_true rfl) rfl ?_
          refine ro_goto (tgt := 25) hX dX1_nextEvent_61 (by decide) ?_
          exact vv_LM (by first | with_reducible rfl | (simp [neL, setL_s, setL_t, setL_0, dropL_0, dropL_c, *]; done) | (simp only [neL, setL_s, setL_t, setL_0, dropL_0, dropL_c]; (repeat' split) <;> first | with_reducible rfl | contradiction | (simp_all; done)) | rfl) (by first | with_reducible rfl | (simp [neL, setL_s, setL_t, setL_0, dropL_0, dropL_c, *]; done) | (simp only [neL, setL_s, setL_t, setL_0, dropL_0, dropL_c]; (repeat' split) <;> first | with_reducible rfl | contradiction | (simp_all; done)) | rfl) ih25
        · skip
          refine ro_aload_n (i := 0) (q := 42) hX dX1_nextEvent_41 rfl rfl rfl ?_
          refine ro_Sga (j := 2) (a := 3) (q9 := 45) ⟨by decide, rfl⟩ hX hB kf_X1_18 dX1_nextEvent_42 rfl ?_
          refine ro_iload_n (i := 3) (q := 46) hX dX1_nextEvent_45 rfl rfl rfl ?_
          refine ro_Sald (a := 3) (n := k25) (q9 := 47) ⟨by decide, by decide⟩ hX hB rfl (show k25 < 6 from by omega) dX1_nextEvent_46 rfl ?_
          refine ro_iload_n (i := 2) (q := 48) hX dX1_nextEvent_47 rfl rfl rfl ?_
          refine ro_icmp_ge (tgt := 58) (q := 51) hX dX1_nextEvent_48 (by decide) rfl (fun q6 => ?_) (fun q6 => ?_)
          · skip
            refine ro_iinc (i := 3) (v := nI (k25 + 1)) (q := 61) hX dX1_nextEvent_58 rfl (ni_inc _) (Nat.le_of_ble_eq_true rfl) rfl ?_
            refine ro_goto (tgt := 25) hX dX1_nextEvent_61 (by decide) ?_
            exact vv_LM (by first | with_reducible rfl | (simp [neL, setL_s, setL_t, setL_0, dropL_0, dropL_c, *]; done) | (simp only [neL, setL_s, setL_t, setL_0, dropL_0, dropL_c]; (repeat' split) <;> first | with_reducible rfl | contradiction | (simp_all; done)) | rfl) (by first | with_reducible rfl | (simp [neL, setL_s, setL_t, setL_0, dropL_0, dropL_c, *]; done) | (simp only [neL, setL_s, setL_t, setL_0, dropL_0, dropL_c]; (repeat' split) <;> first | with_reducible rfl | contradiction | (simp_all; done)) | rfl) ih25
          · skip
            refine ro_aload_n (i := 0) (q := 52) hX dX1_nextEvent_51 rfl rfl rfl ?_
            refine ro_Sga (j := 2) (a := 3) (q9 := 55) ⟨by decide, rfl⟩ hX hB kf_X1_18 dX1_nextEvent_52 rfl ?_
            refine ro_iload_n (i := 3) (q := 56) hX dX1_nextEvent_55 rfl rfl rfl ?_
            refine ro_Sald (a := 3) (n := k25) (q9 := 57) ⟨by decide, by decide⟩ hX hB rfl (show k25 < 6 from by omega) dX1_nextEvent_56 rfl ?_
            refine ro_istore_n (i := 2) (q := 58) hX dX1_nextEvent_57 rfl (Nat.le_of_ble_eq_true rfl) rfl ?_
            refine ro_iinc (i := 3) (v := nI (k25 + 1)) (q := 61) hX dX1_nextEvent_58 rfl (ni_inc _) (Nat.le_of_ble_eq_true rfl) rfl ?_
            refine ro_goto (tgt := 25) hX dX1_nextEvent_61 (by decide) ?_
            exact vv_LM (by first | with_reducible rfl | (simp [neL, setL_s, setL_t, setL_0, dropL_0, dropL_c, *]; done) | (simp only [neL, setL_s, setL_t, setL_0, dropL_0, dropL_c]; (repeat' split) <;> first | with_reducible rfl | contradiction | (simp_all; done)) | rfl) (by first | with_reducible rfl | (simp [neL, setL_s, setL_t, setL_0, dropL_0, dropL_c, *]; done) | (simp only [neL, setL_s, setL_t, setL_0, dropL_0, dropL_c]; (repeat' split) <;> first | with_reducible rfl | contradiction | (simp_all; done)) | rfl) ih25
      · show VV 0 0 25 [(0, .ref (sz + r)), (1, .int x), (2, .int (neL f (neB f x) 6)), (3, .int (nI 6))] [] (patch G r 7 f, T)
        refine ro_iload_n (i := 3) (q := 26) hX dX1_nextEvent_25 rfl rfl rfl ?_
        refine ro_bipush (v := nI 6) (q := 28) hX dX1_nextEvent_26 rfl rfl ?_
        refine ro_icmp_ge (tgt := 64) (q := 31) hX dX1_nextEvent_28 (by decide) rfl (fun _ => ?_) (fun q => absurd (by decide) q)
        refine ro_iload_n (i := 2) (q := 65) hX dX1_nextEvent_64 rfl rfl rfl ?_
        exact fin_i hF (Nat.le_of_ble_eq_true rfl) (Nat.le_of_ble_eq_true rfl) dX1_nextEvent_65 (by rfl) (by rfl)
    · skip
      refine ro_aload_n (i := 0) (q := 19) hX dX1_nextEvent_18 rfl rfl rfl ?_
      refine ro_Sgi (j := 14) (q9 := 22) ⟨by decide, by decide⟩ hX hB kf_X1_55 dX1_nextEvent_19 rfl ?_
      refine ro_istore_n (i := 2) (q := 23) hX dX1_nextEvent_22 rfl (Nat.le_of_ble_eq_true rfl) rfl ?_
      refine ro_iconst (v := nI 0) (q := 24) hX dX1_nextEvent_23 rfl rfl ?_
      refine ro_istore_n (i := 3) (q := 25) hX dX1_nextEvent_24 rfl (Nat.le_of_ble_eq_true rfl) rfl ?_
      refine vv_LM (L' := [(0, .ref (sz + r)), (1, .int x), (2, .int (neL f (neB f x) 0)), (3, .int (nI 0))]) (M' := (patch G r 7 f, T)) (by first | with_reducible rfl | (simp [neL, neB, setL_s, setL_t, setL_0, dropL_0, dropL_c, *]; done) | (simp only [neL, neB, setL_s, setL_t, setL_0, dropL_0, dropL_c]; (repeat' split) <;> first | with_reducible rfl | contradiction | (simp_all; done)) | rfl) (by first | with_reducible rfl | (simp [neL, neB, setL_s, setL_t, setL_0, dropL_0, dropL_c, *]; done) | (simp only [neL, neB, setL_s, setL_t, setL_0, dropL_0, dropL_c]; (repeat' split) <;> first | with_reducible rfl | contradiction | (simp_all; done)) | rfl) ?_
      refine down_ind (P := fun k25 => VV 0 0 25 [(0, .ref (sz + r)), (1, .int x), (2, .int (neL f (neB f x) k25)), (3, .int (nI k25))] [] (patch G r 7 f, T)) (6) (fun k25 hk25 ih25 => ?_) ?_
      · have ih25 : VV 0 0 25 [(0, .ref (sz + r)), (1, .int x), (2, .int (neL f (neB f x) (k25 + 1))), (3, .int (nI (k25 + 1)))] [] (patch G r 7 f, T) := ih25
        show VV 0 0 25 [(0, .ref (sz + r)), (1, .int x), (2, .int (neL f (neB f x) k25)), (3, .int (nI k25))] [] (patch G r 7 f, T)
        refine ro_iload_n (i := 3) (q := 26) hX dX1_nextEvent_25 rfl rfl rfl ?_
        refine ro_bipush (v := nI 6) (q := 28) hX dX1_nextEvent_26 rfl rfl ?_
        refine ro_icmp_ge (tgt := 64) (q := 31) hX dX1_nextEvent_28 (by decide) rfl (fun q => absurd q (by first | exact ni_nle (by omega) (by omega) | exact ni_lt (by omega) (by omega))) (fun _ => ?_)
        refine ro_aload_n (i := 0) (q := 32) hX dX1_nextEvent_31 rfl rfl rfl ?_
        refine ro_Sga (j := 0) (a := 1) (q9 := 35) ⟨by decide, rfl⟩ hX hB kf_X1_9 dX1_nextEvent_32 rfl ?_
        refine ro_iload_n (i := 3) (q := 36) hX dX1_nextEvent_35 rfl rfl rfl ?_
        refine ro_Sald (a := 1) (n := k25) (q9 := 37) ⟨by decide, by decide⟩ hX hB rfl (show k25 < 6 from by omega) dX1_nextEvent_36 rfl ?_
        refine ro_iconst (v := nI 2) (q := 38) hX dX1_nextEvent_37 rfl rfl ?_
        refine ro_icmp_ne (tgt := 58) (q := 41) hX dX1_nextEvent_38 (by decide) rfl (fun q7 => ?_) (fun q7 => ?_)
        · skip
          refine ro_iinc (i := 3) (v := nI (k25 + 1)) (q := 61) hX dX1_nextEvent_58 rfl (ni_inc _) (Nat.le_of_ble_eq_true rfl) rfl ?_
          refine ro_goto (tgt := 25) hX dX1_nextEvent_61 (by decide) ?_
          exact vv_LM (by first | with_reducible rfl | (simp [neL, setL_s, setL_t, setL_0, dropL_0, dropL_c, *]; done) | (simp only [neL, setL_s, setL_t, setL_0, dropL_0, dropL_c]; (repeat' split) <;> first | with_reducible rfl | contradiction | (simp_all; done)) | rfl) (by first | with_reducible rfl | (simp [neL, setL_s, setL_t, setL_0, dropL_0, dropL_c, *]; done) | (simp only [neL, setL_s, setL_t, setL_0, dropL_0, dropL_c]; (repeat' split) <;> first | with_reducible rfl | contradiction | (simp_all; done)) | rfl) ih25
        · skip
          refine ro_aload_n (i := 0) (q := 42) hX dX1_nextEvent_41 rfl rfl rfl ?_
          refine ro_Sga (j := 2) (a := 3) (q9 := 45) ⟨by decide, rfl⟩ hX hB kf_X1_18 dX1_nextEvent_42 rfl ?_
          refine ro_iload_n (i := 3) (q := 46) hX dX1_nextEvent_45 rfl rfl rfl ?_
          refine ro_Sald (a := 3) (n := k25) (q9 := 47) ⟨by decide, by decide⟩ hX hB rfl (show k25 < 6 from by omega) dX1_nextEvent_46 rfl ?_
          refine ro_iload_n (i := 2) (q := 48) hX dX1_nextEvent_47 rfl rfl rfl ?_
          refine ro_icmp_ge (tgt := 58) (q := 51) hX dX1_nextEvent_48 (by decide) rfl (fun q8 => ?_) (fun q8 => ?_)
          · skip
            refine ro_iinc (i := 3) (v := nI (k25 + 1)) (q := 61) hX dX1_nextEvent_58 rfl (ni_inc _) (Nat.le_of_ble_eq_true rfl) rfl ?_
            refine ro_goto (tgt := 25) hX dX1_nextEvent_61 (by decide) ?_
            exact vv_LM (by first | with_reducible rfl | (simp [neL, setL_s, setL_t, setL_0, dropL_0, dropL_c, *]; done) | (simp only [neL, setL_s, setL_t, setL_0, dropL_0, dropL_c]; (repeat' split) <;> first | with_reducible rfl | contradiction | (simp_all; done)) | rfl) (by first | with_reducible rfl | (simp [neL, setL_s, setL_t, setL_0, dropL_0, dropL_c, *]; done) | (simp only [neL, setL_s, setL_t, setL_0, dropL_0, dropL_c]; (repeat' split) <;> first | with_reducible rfl | contradiction | (simp_all; done)) | rfl) ih25
          · skip
            refine ro_aload_n (i := 0) (q := 52) hX dX1_nextEvent_51 rfl rfl rfl ?_
            refine ro_Sga (j := 2) (a := 3) (q9 := 55) ⟨by decide, rfl⟩ hX hB kf_X1_18 dX1_nextEvent_52 rfl ?_
            refine ro_iload_n (i := 3) (q := 56) hX dX1_nextEvent_55 rfl rfl rfl ?_
            refine ro_Sald (a := 3) (n := k25) (q9 := 57) ⟨by decide, by decide⟩ hX hB rfl (show k25 < 6 from by omega) dX1_nextEvent_56 rfl ?_
            refine ro_istore_n (i := 2) (q := 58) hX dX1_nextEvent_57 rfl (Nat.le_of_ble_eq_true rfl) rfl ?_
            refine ro_iinc (i := 3) (v := nI (k25 + 1)) (q := 61) hX dX1_nextEvent_58 rfl (ni_inc _) (Nat.le_of_ble_eq_true rfl) rfl ?_
            refine ro_goto (tgt := 25) hX dX1_nextEvent_61 (by decide) ?_
            exact vv_LM (by first | with_reducible rfl | (simp [neL, setL_s, setL_t, setL_0, dropL_0, dropL_c, *]; done) | (simp only [neL, setL_s, setL_t, setL_0, dropL_0, dropL_c]; (repeat' split) <;> first | with_reducible rfl | contradiction | (simp_all; done)) | rfl) (by first | with_reducible rfl | (simp [neL, setL_s, setL_t, setL_0, dropL_0, dropL_c, *]; done) | (simp only [neL, setL_s, setL_t, setL_0, dropL_0, dropL_c]; (repeat' split) <;> first | with_reducible rfl | contradiction | (simp_all; done)) | rfl) ih25
      · show VV 0 0 25 [(0, .ref (sz + r)), (1, .int x), (2, .int (neL f (neB f x) 6)), (3, .int (nI 6))] [] (patch G r 7 f, T)
        refine ro_iload_n (i := 3) (q := 26) hX dX1_nextEvent_25 rfl rfl rfl ?_
        refine ro_bipush (v := nI 6) (q := 28) hX dX1_nextEvent_26 rfl rfl ?_
        refine ro_icmp_ge (tgt := 64) (q := 31) hX dX1_nextEvent_28 (by decide) rfl (fun _ => ?_) (fun q => absurd (by decide) q)
        refine ro_iload_n (i := 2) (q := 65) hX dX1_nextEvent_64 rfl rfl rfl ?_
        exact fin_i hF (Nat.le_of_ble_eq_true rfl) (Nat.le_of_ble_eq_true rfl) dX1_nextEvent_65 (by rfl) (by rfl)
end
