section
variable {sz r : Nat} {G : Nat → Nat → Int32} {T : (Nat → Nat) × Int64} {f : SV}
set_option maxRecDepth 20000 in
set_option maxHeartbeats 2000000 in
theorem s_addPage (hB : isB r) {p : Nat} (hp : p < 30) {v : Int32} : Does sz I_X1_addPage [.ref (sz + r), .int (nI p), .int v] (patch G r 7 f, T) 0 0 (.inl (some (bcI (cpS (adG f p v) p)))) (patch G r 7 (seS (adG f p v)), T) := by
  refine Does.of (L := [(0, .ref (sz + r)), (1, .int (nI p)), (2, .int v)]) (by decide +kernel) (Nat.le_of_ble_eq_true rfl) rfl ⟨rfl, (by simp), ⟨rfl, (by simp), ⟨rfl, (by simp), trivial⟩⟩⟩ (fun VV hF => ?_)
  have hX := hF.c
  refine ro_aload_n (i := 0) (q := 1) hX dX1_addPage_0 rfl rfl rfl ?_
  refine ro_dup (q := 2) hX dX1_addPage_1 rfl rfl ?_
  refine ro_Sgi (j := 6) (q9 := 5) ⟨by decide, by decide⟩ hX hB kf_X1_30 dX1_addPage_2 rfl ?_
  refine ro_iconst (v := nI 1) (q := 6) hX dX1_addPage_5 rfl rfl ?_
  refine ro_iload_n (i := 1) (q := 7) hX dX1_addPage_6 rfl rfl rfl ?_
  refine ro_ishl (q := 8) hX dX1_addPage_7 rfl ?_
  refine ro_ior (q := 9) hX dX1_addPage_8 rfl ?_
  refine ro_Spi (j := 6) (q9 := 12) ⟨by decide, by decide⟩ hX hB kf_X1_30 dX1_addPage_9 rfl ?_
  refine ro_aload_n (i := 0) (q := 13) hX dX1_addPage_12 rfl rfl rfl ?_
  refine ro_Sga (j := 5) (a := 6) (q9 := 16) ⟨by decide, rfl⟩ hX hB kf_X1_27 dX1_addPage_13 rfl ?_
  refine ro_iload_n (i := 1) (q := 17) hX dX1_addPage_16 rfl rfl rfl ?_
  refine ro_iload_n (i := 2) (q := 18) hX dX1_addPage_17 rfl rfl rfl ?_
  refine ro_Sast (a := 6) (n := p) (q9 := 19) ⟨by decide, by decide⟩ hX hB rfl (show p < 30 from by omega) dX1_addPage_18 rfl ?_
  refine ro_aload_n (i := 0) (q := 20) hX dX1_addPage_19 rfl rfl rfl ?_
  refine ro_iload_n (i := 1) (q := 21) hX dX1_addPage_20 rfl rfl rfl ?_
  refine ro_callVv (q9 := 24) hX (s_placeReplica hB (by omega)) mw_X1_placeReplica kl_X1_106 (isB_lt hB) (fun cy => cell1 (isB_kd hB).2.2.1) rfl rfl rfl (Nat.le_of_ble_eq_true rfl) ⟨Nat.le_of_ble_eq_true rfl, Nat.le_of_ble_eq_true rfl⟩ dX1_addPage_21 ⟨Nat.le_of_ble_eq_true rfl, Nat.le_of_ble_eq_true rfl⟩ rfl ?_
  refine ro_aload_n (i := 0) (q := 25) hX dX1_addPage_24 rfl rfl rfl ?_
  refine ro_iload_n (i := 1) (q := 26) hX dX1_addPage_25 rfl rfl rfl ?_
  refine ro_callVv (q9 := 29) hX (s_placeReplica hB (by omega)) mw_X1_placeReplica kl_X1_106 (isB_lt hB) (fun cy => cell1 (isB_kd hB).2.2.1) rfl rfl rfl (Nat.le_of_ble_eq_true rfl) ⟨Nat.le_of_ble_eq_true rfl, Nat.le_of_ble_eq_true rfl⟩ dX1_addPage_26 ⟨Nat.le_of_ble_eq_true rfl, Nat.le_of_ble_eq_true rfl⟩ rfl ?_
  refine ro_aload_n (i := 0) (q := 30) hX dX1_addPage_29 rfl rfl rfl ?_
  refine ro_iload_n (i := 1) (q := 31) hX dX1_addPage_30 rfl rfl rfl ?_
  refine ro_callVi (q9 := 34) hX (s_copySet hB (by omega)) mw_X1_copySet kl_X1_75 (isB_lt hB) (fun cy => cell1 (isB_kd hB).2.2.1) rfl rfl rfl (Nat.le_of_ble_eq_true rfl) ⟨Nat.le_of_ble_eq_true rfl, Nat.le_of_ble_eq_true rfl⟩ dX1_addPage_31 ⟨Nat.le_of_ble_eq_true rfl, Nat.le_of_ble_eq_true rfl⟩ rfl ?_
  refine ro_callSi (q9 := 37) hX (s_bitCount) mw_J6_bitCount_0f7a4 kl_X1_89 rfl rfl (Nat.le_of_ble_eq_true rfl) ⟨Nat.le_of_ble_eq_true rfl, Nat.le_of_ble_eq_true rfl⟩ dX1_addPage_34 ⟨Nat.le_of_ble_eq_true rfl, Nat.le_of_ble_eq_true rfl⟩ rfl ?_
  refine ro_istore_n (i := 3) (q := 38) hX dX1_addPage_37 rfl (Nat.le_of_ble_eq_true rfl) rfl ?_
  refine ro_aload_n (i := 0) (q := 39) hX dX1_addPage_38 rfl rfl rfl ?_
  refine ro_callVv (q9 := 42) hX (s_settle hB) mw_X1_settle kl_X1_110 (isB_lt hB) (fun cy => cell1 (isB_kd hB).2.2.1) rfl rfl rfl (Nat.le_of_ble_eq_true rfl) ⟨Nat.le_of_ble_eq_true rfl, Nat.le_of_ble_eq_true rfl⟩ dX1_addPage_39 ⟨Nat.le_of_ble_eq_true rfl, Nat.le_of_ble_eq_true rfl⟩ rfl ?_
  refine ro_iload_n (i := 3) (q := 43) hX dX1_addPage_42 rfl rfl rfl ?_
  exact fin_i hF (Nat.le_of_ble_eq_true rfl) (Nat.le_of_ble_eq_true rfl) dX1_addPage_43 (by rfl) (by rfl)
set_option maxRecDepth 20000 in
set_option maxHeartbeats 2000000 in
theorem s_overwritePage (hB : isB r) {p : Nat} (hp : p < 30) {v : Int32} : Does sz I_X1_overwritePage [.ref (sz + r), .int (nI p), .int v] (patch G r 7 f, T) 0 0 (.inl (some (bcI (cpS (owG f p v) p)))) (patch G r 7 (owG f p v), T) := by
  refine Does.of (L := [(0, .ref (sz + r)), (1, .int (nI p)), (2, .int v)]) (by decide +kernel) (Nat.le_of_ble_eq_true rfl) rfl ⟨rfl, (by simp), ⟨rfl, (by simp), ⟨rfl, (by simp), trivial⟩⟩⟩ (fun VV hF => ?_)
  have hX := hF.c
  refine ro_aload_n (i := 0) (q := 1) hX dX1_overwritePage_0 rfl rfl rfl ?_
  refine ro_Sga (j := 5) (a := 6) (q9 := 4) ⟨by decide, rfl⟩ hX hB kf_X1_27 dX1_overwritePage_1 rfl ?_
  refine ro_iload_n (i := 1) (q := 5) hX dX1_overwritePage_4 rfl rfl rfl ?_
  refine ro_iload_n (i := 2) (q := 6) hX dX1_overwritePage_5 rfl rfl rfl ?_
  refine ro_Sast (a := 6) (n := p) (q9 := 7) ⟨by decide, by decide⟩ hX hB rfl (show p < 30 from by omega) dX1_overwritePage_6 rfl ?_
  refine ro_aload_n (i := 0) (q := 8) hX dX1_overwritePage_7 rfl rfl rfl ?_
  refine ro_iload_n (i := 1) (q := 9) hX dX1_overwritePage_8 rfl rfl rfl ?_
  refine ro_callVv (q9 := 12) hX (s_outdate hB (by omega)) mw_X1_outdate kl_X1_113 (isB_lt hB) (fun cy => cell1 (isB_kd hB).2.2.1) rfl rfl rfl (Nat.le_of_ble_eq_true rfl) ⟨Nat.le_of_ble_eq_true rfl, Nat.le_of_ble_eq_true rfl⟩ dX1_overwritePage_9 ⟨Nat.le_of_ble_eq_true rfl, Nat.le_of_ble_eq_true rfl⟩ rfl ?_
  refine ro_aload_n (i := 0) (q := 13) hX dX1_overwritePage_12 rfl rfl rfl ?_
  refine ro_callVv (q9 := 16) hX (s_settle hB) mw_X1_settle kl_X1_110 (isB_lt hB) (fun cy => cell1 (isB_kd hB).2.2.1) rfl rfl rfl (Nat.le_of_ble_eq_true rfl) ⟨Nat.le_of_ble_eq_true rfl, Nat.le_of_ble_eq_true rfl⟩ dX1_overwritePage_13 ⟨Nat.le_of_ble_eq_true rfl, Nat.le_of_ble_eq_true rfl⟩ rfl ?_
  refine ro_aload_n (i := 0) (q := 17) hX dX1_overwritePage_16 rfl rfl rfl ?_
  refine ro_iload_n (i := 1) (q := 18) hX dX1_overwritePage_17 rfl rfl rfl ?_
  refine ro_callVi (q9 := 21) hX (s_copySet hB (by omega)) mw_X1_copySet kl_X1_75 (isB_lt hB) (fun cy => cell1 (isB_kd hB).2.2.1) rfl rfl rfl (Nat.le_of_ble_eq_true rfl) ⟨Nat.le_of_ble_eq_true rfl, Nat.le_of_ble_eq_true rfl⟩ dX1_overwritePage_18 ⟨Nat.le_of_ble_eq_true rfl, Nat.le_of_ble_eq_true rfl⟩ rfl ?_
  refine ro_callSi (q9 := 24) hX (s_bitCount) mw_J6_bitCount_0f7a4 kl_X1_89 rfl rfl (Nat.le_of_ble_eq_true rfl) ⟨Nat.le_of_ble_eq_true rfl, Nat.le_of_ble_eq_true rfl⟩ dX1_overwritePage_21 ⟨Nat.le_of_ble_eq_true rfl, Nat.le_of_ble_eq_true rfl⟩ rfl ?_
  exact fin_i hF (Nat.le_of_ble_eq_true rfl) (Nat.le_of_ble_eq_true rfl) dX1_overwritePage_24 (by rfl) (by rfl)
set_option maxRecDepth 20000 in
set_option maxHeartbeats 2000000 in
theorem s_dropPage (hB : isB r) {p : Nat} (hp : p < 30) : Does sz I_X1_dropPage [.ref (sz + r), .int (nI p)] (patch G r 7 f, T) 0 0 (.inl (some (bcI (cpS f p)))) (patch G r 7 (drG f p), T) := by
  refine Does.of (L := [(0, .ref (sz + r)), (1, .int (nI p))]) (by decide +kernel) (Nat.le_of_ble_eq_true rfl) rfl ⟨rfl, (by simp), ⟨rfl, (by simp), trivial⟩⟩ (fun VV hF => ?_)
  have hX := hF.c
  refine ro_aload_n (i := 0) (q := 1) hX dX1_dropPage_0 rfl rfl rfl ?_
  refine ro_iload_n (i := 1) (q := 2) hX dX1_dropPage_1 rfl rfl rfl ?_
  refine ro_callVi (q9 := 5) hX (s_copySet hB (by omega)) mw_X1_copySet kl_X1_75 (isB_lt hB) (fun cy => cell1 (isB_kd hB).2.2.1) rfl rfl rfl (Nat.le_of_ble_eq_true rfl) ⟨Nat.le_of_ble_eq_true rfl, Nat.le_of_ble_eq_true rfl⟩ dX1_dropPage_2 ⟨Nat.le_of_ble_eq_true rfl, Nat.le_of_ble_eq_true rfl⟩ rfl ?_
  refine ro_callSi (q9 := 8) hX (s_bitCount) mw_J6_bitCount_0f7a4 kl_X1_89 rfl rfl (Nat.le_of_ble_eq_true rfl) ⟨Nat.le_of_ble_eq_true rfl, Nat.le_of_ble_eq_true rfl⟩ dX1_dropPage_5 ⟨Nat.le_of_ble_eq_true rfl, Nat.le_of_ble_eq_true rfl⟩ rfl ?_
  refine ro_istore_n (i := 2) (q := 9) hX dX1_dropPage_8 rfl (Nat.le_of_ble_eq_true rfl) rfl ?_
  refine ro_aload_n (i := 0) (q := 10) hX dX1_dropPage_9 rfl rfl rfl ?_
  refine ro_iload_n (i := 1) (q := 11) hX dX1_dropPage_10 rfl rfl rfl ?_
  refine ro_callVv (q9 := 14) hX (s_outdate hB (by omega)) mw_X1_outdate kl_X1_113 (isB_lt hB) (fun cy => cell1 (isB_kd hB).2.2.1) rfl rfl rfl (Nat.le_of_ble_eq_true rfl) ⟨Nat.le_of_ble_eq_true rfl, Nat.le_of_ble_eq_true rfl⟩ dX1_dropPage_11 ⟨Nat.le_of_ble_eq_true rfl, Nat.le_of_ble_eq_true rfl⟩ rfl ?_
  refine ro_iconst (v := nI 0) (q := 15) hX dX1_dropPage_14 rfl rfl ?_
  refine ro_istore_n (i := 3) (q := 16) hX dX1_dropPage_15 rfl (Nat.le_of_ble_eq_true rfl) rfl ?_
  refine vv_LM (L' := [(0, .ref (sz + r)), (1, .int (nI p)), (2, .int (bcI (cpS f p))), (3, .int (nI 0))]) (M' := (patch G r 7 (drL (odS f p 6) p 0), T)) (by first | with_reducible rfl | (simp [drL, bitP, setL_s, setL_t, setL_0, dropL_0, dropL_c, *]; done) | (simp only [drL, bitP, setL_s, setL_t, setL_0, dropL_0, dropL_c]; (repeat' split) <;> first | with_reducible rfl | contradiction | (simp_all; done)) | rfl) (by first | with_reducible rfl | (simp [drL, bitP, setL_s, setL_t, setL_0, dropL_0, dropL_c, *]; done) | (simp only [drL, bitP, setL_s, setL_t, setL_0, dropL_0, dropL_c]; (repeat' split) <;> first | with_reducible rfl | contradiction | (simp_all; done)) | rfl) ?_
  refine down_ind (P := fun k16 => VV 0 0 16 [(0, .ref (sz + r)), (1, .int (nI p)), (2, .int (bcI (cpS f p))), (3, .int (nI k16))] [] (patch G r 7 (drL (odS f p 6) p k16), T)) (6) (fun k16 hk16 ih16 => ?_) ?_
  · have ih16 : VV 0 0 16 [(0, .ref (sz + r)), (1, .int (nI p)), (2, .int (bcI (cpS f p))), (3, .int (nI (k16 + 1)))] [] (patch G r 7 (drL (odS f p 6) p (k16 + 1)), T) := ih16
    show VV 0 0 16 [(0, .ref (sz + r)), (1, .int (nI p)), (2, .int (bcI (cpS f p))), (3, .int (nI k16))] [] (patch G r 7 (drL (odS f p 6) p k16), T)
    refine ro_iload_n (i := 3) (q := 17) hX dX1_dropPage_16 rfl rfl rfl ?_
    refine ro_bipush (v := nI 6) (q := 19) hX dX1_dropPage_17 rfl rfl ?_
    refine ro_icmp_ge (tgt := 42) (q := 22) hX dX1_dropPage_19 (by decide) rfl (fun q => absurd q (by first | exact ni_nle (by omega) (by omega) | exact ni_lt (by omega) (by omega))) (fun _ => ?_)
    refine ro_aload_n (i := 0) (q := 23) hX dX1_dropPage_22 rfl rfl rfl ?_
    refine ro_Sga (j := 3) (a := 4) (q9 := 26) ⟨by decide, rfl⟩ hX hB kf_X1_21 dX1_dropPage_23 rfl ?_
    refine ro_iload_n (i := 3) (q := 27) hX dX1_dropPage_26 rfl rfl rfl ?_
    refine ro_dup2 (q := 28) hX dX1_dropPage_27 rfl rfl rfl ?_
    refine ro_Sald (a := 4) (n := k16) (q9 := 29) ⟨by decide, by decide⟩ hX hB rfl (show k16 < 6 from by omega) dX1_dropPage_28 rfl ?_
    refine ro_iconst (v := nI 1) (q := 30) hX dX1_dropPage_29 rfl rfl ?_
    refine ro_iload_n (i := 1) (q := 31) hX dX1_dropPage_30 rfl rfl rfl ?_
    refine ro_ishl (q := 32) hX dX1_dropPage_31 rfl ?_
    refine ro_iconst (v := (-1)) (q := 33) hX dX1_dropPage_32 rfl rfl ?_
    refine ro_ixor (q := 34) hX dX1_dropPage_33 rfl ?_
    refine ro_iand (q := 35) hX dX1_dropPage_34 rfl ?_
    refine ro_Sast (a := 4) (n := k16) (q9 := 36) ⟨by decide, by decide⟩ hX hB rfl (show k16 < 6 from by omega) dX1_dropPage_35 rfl ?_
    refine ro_iinc (i := 3) (v := nI (k16 + 1)) (q := 39) hX dX1_dropPage_36 rfl (ni_inc _) (Nat.le_of_ble_eq_true rfl) rfl ?_
    refine ro_goto (tgt := 16) hX dX1_dropPage_39 (by decide) ?_
    exact vv_LM (by first | with_reducible rfl | (simp [drL, bitP, setL_s, setL_t, setL_0, dropL_0, dropL_c, *]; done) | (simp only [drL, bitP, setL_s, setL_t, setL_0, dropL_0, dropL_c]; (repeat' split) <;> first | with_reducible rfl | contradiction | (simp_all; done)) | rfl) (by first | with_reducible rfl | (simp [drL, bitP, setL_s, setL_t, setL_0, dropL_0, dropL_c, *]; done) | (simp only [drL, bitP, setL_s, setL_t, setL_0, dropL_0, dropL_c]; (repeat' split) <;> first | with_reducible rfl | contradiction | (simp_all; done)) | rfl) ih16
  · show VV 0 0 16 [(0, .ref (sz + r)), (1, .int (nI p)), (2, .int (bcI (cpS f p))), (3, .int (nI 6))] [] (patch G r 7 (drL (odS f p 6) p 6), T)
    refine ro_iload_n (i := 3) (q := 17) hX dX1_dropPage_16 rfl rfl rfl ?_
    refine ro_bipush (v := nI 6) (q := 19) hX dX1_dropPage_17 rfl rfl ?_
    refine ro_icmp_ge (tgt := 42) (q := 22) hX dX1_dropPage_19 (by decide) rfl (fun _ => ?_) (fun q => absurd (by decide) q)
    refine ro_aload_n (i := 0) (q := 43) hX dX1_dropPage_42 rfl rfl rfl ?_
    refine ro_dup (q := 44) hX dX1_dropPage_43 rfl rfl ?_
    refine ro_Sgi (j := 6) (q9 := 47) ⟨by decide, by decide⟩ hX hB kf_X1_30 dX1_dropPage_44 rfl ?_
    refine ro_iconst (v := nI 1) (q := 48) hX dX1_dropPage_47 rfl rfl ?_
    refine ro_iload_n (i := 1) (q := 49) hX dX1_dropPage_48 rfl rfl rfl ?_
    refine ro_ishl (q := 50) hX dX1_dropPage_49 rfl ?_
    refine ro_iconst (v := (-1)) (q := 51) hX dX1_dropPage_50 rfl rfl ?_
    refine ro_ixor (q := 52) hX dX1_dropPage_51 rfl ?_
    refine ro_iand (q := 53) hX dX1_dropPage_52 rfl ?_
    refine ro_Spi (j := 6) (q9 := 56) ⟨by decide, by decide⟩ hX hB kf_X1_30 dX1_dropPage_53 rfl ?_
    refine ro_aload_n (i := 0) (q := 57) hX dX1_dropPage_56 rfl rfl rfl ?_
    refine ro_Sgi (j := 11) (q9 := 60) ⟨by decide, by decide⟩ hX hB kf_X1_46 dX1_dropPage_57 rfl ?_
    refine ro_iload_n (i := 1) (q := 61) hX dX1_dropPage_60 rfl rfl rfl ?_
    refine ro_icmp_ne (tgt := 68) (q := 64) hX dX1_dropPage_61 (by decide) rfl (fun q1 => ?_) (fun q1 => ?_)
    · skip
      refine ro_aload_n (i := 0) (q := 69) hX dX1_dropPage_68 rfl rfl rfl ?_
      refine ro_callVv (q9 := 72) hX (s_settle hB) mw_X1_settle kl_X1_110 (isB_lt hB) (fun cy => cell1 (isB_kd hB).2.2.1) rfl rfl rfl (Nat.le_of_ble_eq_true rfl) ⟨Nat.le_of_ble_eq_true rfl, Nat.le_of_ble_eq_true rfl⟩ dX1_dropPage_69 ⟨Nat.le_of_ble_eq_true rfl, Nat.le_of_ble_eq_true rfl⟩ rfl ?_
      refine ro_iload_n (i := 2) (q := 73) hX dX1_dropPage_72 rfl rfl rfl ?_
      exact fin_i hF (Nat.le_of_ble_eq_true rfl) (Nat.le_of_ble_eq_true rfl) dX1_dropPage_73 (by rfl) (by first | with_reducible rfl | (simp [drG, drG1, drG2, bitP, setL_s, setL_t, setL_0, dropL_0, dropL_c, *]; done) | (simp only [drG, drG1, drG2, bitP, setL_s, setL_t, setL_0, dropL_0, dropL_c]; (repeat' split) <;> first | with_reducible rfl | contradiction | (simp_all; done)) | rfl)
    · skip
      refine ro_aload_n (i := 0) (q := 65) hX dX1_dropPage_64 rfl rfl rfl ?_
      refine ro_callVv (q9 := 68) hX (s_cancelTransfer hB) mw_X1_cancelTransfer kl_X1_116 (isB_lt hB) (fun cy => cell1 (isB_kd hB).2.2.1) rfl rfl rfl (Nat.le_of_ble_eq_true rfl) ⟨Nat.le_of_ble_eq_true rfl, Nat.le_of_ble_eq_true rfl⟩ dX1_dropPage_65 ⟨Nat.le_of_ble_eq_true rfl, Nat.le_of_ble_eq_true rfl⟩ rfl ?_
      refine ro_aload_n (i := 0) (q := 69) hX dX1_dropPage_68 rfl rfl rfl ?_
      refine ro_callVv (q9 := 72) hX (s_settle hB) mw_X1_settle kl_X1_110 (isB_lt hB) (fun cy => cell1 (isB_kd hB).2.2.1) rfl rfl rfl (Nat.le_of_ble_eq_true rfl) ⟨Nat.le_of_ble_eq_true rfl, Nat.le_of_ble_eq_true rfl⟩ dX1_dropPage_69 ⟨Nat.le_of_ble_eq_true rfl, Nat.le_of_ble_eq_true rfl⟩ rfl ?_
      refine ro_iload_n (i := 2) (q := 73) hX dX1_dropPage_72 rfl rfl rfl ?_
      exact fin_i hF (Nat.le_of_ble_eq_true rfl) (Nat.le_of_ble_eq_true rfl) dX1_dropPage_73 (by rfl) (by first | with_reducible rfl | (simp [drG, drG1, drG2, bitP, setL_s, setL_t, setL_0, dropL_0, dropL_c, *]; done) | (simp only [drG, drG1, drG2, bitP, setL_s, setL_t, setL_0, dropL_0, dropL_c]; (repeat' split) <;> first | with_reducible rfl | contradiction | (simp_all; done)) | rfl)
set_option maxRecDepth 20000 in
set_option maxHeartbeats 2000000 in
theorem s_beginLending (hB : isB r) {h : Nat} (hh : h < 6) {x : Int32} : Does sz I_X1_beginLending [.ref (sz + r), .int (nI h), .int x] (patch G r 7 f, T) 0 0 (.inl (some (sumS (beG f h x) 6))) (patch G r 7 (seS (beG f h x)), T) := by
  refine Does.of (L := [(0, .ref (sz + r)), (1, .int (nI h)), (2, .int x)]) (by decide +kernel) (Nat.le_of_ble_eq_true rfl) rfl ⟨rfl, (by simp), ⟨rfl, (by simp), ⟨rfl, (by simp), trivial⟩⟩⟩ (fun VV hF => ?_)
  have hX := hF.c
  refine ro_aload_n (i := 0) (q := 1) hX dX1_beginLending_0 rfl rfl rfl ?_
  refine ro_Sga (j := 0) (a := 1) (q9 := 4) ⟨by decide, rfl⟩ hX hB kf_X1_9 dX1_beginLending_1 rfl ?_
  refine ro_iload_n (i := 1) (q := 5) hX dX1_beginLending_4 rfl rfl rfl ?_
  refine ro_iconst (v := nI 1) (q := 6) hX dX1_beginLending_5 rfl rfl ?_
  refine ro_Sast (a := 1) (n := h) (q9 := 7) ⟨by decide, by decide⟩ hX hB rfl (show h < 6 from by omega) dX1_beginLending_6 rfl ?_
  refine ro_aload_n (i := 0) (q := 8) hX dX1_beginLending_7 rfl rfl rfl ?_
  refine ro_Sga (j := 1) (a := 2) (q9 := 11) ⟨by decide, rfl⟩ hX hB kf_X1_15 dX1_beginLending_8 rfl ?_
  refine ro_iload_n (i := 1) (q := 12) hX dX1_beginLending_11 rfl rfl rfl ?_
  refine ro_iload_n (i := 2) (q := 13) hX dX1_beginLending_12 rfl rfl rfl ?_
  refine ro_Sast (a := 2) (n := h) (q9 := 14) ⟨by decide, by decide⟩ hX hB rfl (show h < 6 from by omega) dX1_beginLending_13 rfl ?_
  refine ro_iconst (v := nI 0) (q := 15) hX dX1_beginLending_14 rfl rfl ?_
  refine ro_istore_n (i := 3) (q := 16) hX dX1_beginLending_15 rfl (Nat.le_of_ble_eq_true rfl) rfl ?_
  refine ro_iconst (v := nI 0) (q := 17) hX dX1_beginLending_16 rfl rfl ?_
  refine ro_istore (i := 4) (q := 19) hX dX1_beginLending_17 (Nat.le_of_ble_eq_true rfl) rfl ?_
  refine vv_LM (L' := [(0, .ref (sz + r)), (1, .int (nI h)), (2, .int x), (3, .int (sumS (beG f h x) 0)), (4, .int (nI 0))]) (M' := (patch G r 7 (beG f h x), T)) (by rfl) (by rfl) ?_
  refine down_ind (P := fun k19 => VV 0 0 19 [(0, .ref (sz + r)), (1, .int (nI h)), (2, .int x), (3, .int (sumS (beG f h x) k19)), (4, .int (nI k19))] [] (patch G r 7 (beG f h x), T)) (6) (fun k19 hk19 ih19 => ?_) ?_
  · have ih19 : VV 0 0 19 [(0, .ref (sz + r)), (1, .int (nI h)), (2, .int x), (3, .int (sumS (beG f h x) (k19 + 1))), (4, .int (nI (k19 + 1)))] [] (patch G r 7 (beG f h x), T) := ih19
    show VV 0 0 19 [(0, .ref (sz + r)), (1, .int (nI h)), (2, .int x), (3, .int (sumS (beG f h x) k19)), (4, .int (nI k19))] [] (patch G r 7 (beG f h x), T)
    refine ro_iload (i := 4) (q := 21) hX dX1_beginLending_19 rfl rfl ?_
    refine ro_bipush (v := nI 6) (q := 23) hX dX1_beginLending_21 rfl rfl ?_
    refine ro_icmp_ge (tgt := 41) (q := 26) hX dX1_beginLending_23 (by decide) rfl (fun q => absurd q (by first | exact ni_nle (by omega) (by omega) | exact ni_lt (by omega) (by omega))) (fun _ => ?_)
    refine ro_iload_n (i := 3) (q := 27) hX dX1_beginLending_26 rfl rfl rfl ?_
    refine ro_aload_n (i := 0) (q := 28) hX dX1_beginLending_27 rfl rfl rfl ?_
    refine ro_iload (i := 4) (q := 30) hX dX1_beginLending_28 rfl rfl ?_
    refine ro_callVi (q9 := 33) hX (s_roomOn hB (by omega)) mw_X1_roomOn kl_X1_103 (isB_lt hB) (fun cy => cell1 (isB_kd hB).2.2.1) rfl rfl rfl (Nat.le_of_ble_eq_true rfl) ⟨Nat.le_of_ble_eq_true rfl, Nat.le_of_ble_eq_true rfl⟩ dX1_beginLending_30 ⟨Nat.le_of_ble_eq_true rfl, Nat.le_of_ble_eq_true rfl⟩ rfl ?_
    refine ro_iadd (q := 34) hX dX1_beginLending_33 rfl ?_
    refine ro_istore_n (i := 3) (q := 35) hX dX1_beginLending_34 rfl (Nat.le_of_ble_eq_true rfl) rfl ?_
    refine ro_iinc (i := 4) (v := nI (k19 + 1)) (q := 38) hX dX1_beginLending_35 rfl (ni_inc _) (Nat.le_of_ble_eq_true rfl) rfl ?_
    refine ro_goto (tgt := 19) hX dX1_beginLending_38 (by decide) ?_
    exact vv_LM (by rfl) (by rfl) ih19
  · show VV 0 0 19 [(0, .ref (sz + r)), (1, .int (nI h)), (2, .int x), (3, .int (sumS (beG f h x) 6)), (4, .int (nI 6))] [] (patch G r 7 (beG f h x), T)
    refine ro_iload (i := 4) (q := 21) hX dX1_beginLending_19 rfl rfl ?_
    refine ro_bipush (v := nI 6) (q := 23) hX dX1_beginLending_21 rfl rfl ?_
    refine ro_icmp_ge (tgt := 41) (q := 26) hX dX1_beginLending_23 (by decide) rfl (fun _ => ?_) (fun q => absurd (by decide) q)
    refine ro_aload_n (i := 0) (q := 42) hX dX1_beginLending_41 rfl rfl rfl ?_
    refine ro_callVv (q9 := 45) hX (s_settle hB) mw_X1_settle kl_X1_110 (isB_lt hB) (fun cy => cell1 (isB_kd hB).2.2.1) rfl rfl rfl (Nat.le_of_ble_eq_true rfl) ⟨Nat.le_of_ble_eq_true rfl, Nat.le_of_ble_eq_true rfl⟩ dX1_beginLending_42 ⟨Nat.le_of_ble_eq_true rfl, Nat.le_of_ble_eq_true rfl⟩ rfl ?_
    refine ro_iload_n (i := 3) (q := 46) hX dX1_beginLending_45 rfl rfl rfl ?_
    exact fin_i hF (Nat.le_of_ble_eq_true rfl) (Nat.le_of_ble_eq_true rfl) dX1_beginLending_46 (by rfl) (by rfl)
set_option maxRecDepth 20000 in
set_option maxHeartbeats 2000000 in
theorem s_callBack (hB : isB r) {h : Nat} (hh : h < 6) {x : Int32} : Does sz I_X1_callBack [.ref (sz + r), .int (nI h), .int x] (patch G r 7 f, T) 0 0 (.inl (some (hdS (cbG f h x) h))) (patch G r 7 (cbG f h x), T) := by
  refine Does.of (L := [(0, .ref (sz + r)), (1, .int (nI h)), (2, .int x)]) (by decide +kernel) (Nat.le_of_ble_eq_true rfl) rfl ⟨rfl, (by simp), ⟨rfl, (by simp), ⟨rfl, (by simp), trivial⟩⟩⟩ (fun VV hF => ?_)
  have hX := hF.c
  refine ro_aload_n (i := 0) (q := 1) hX dX1_callBack_0 rfl rfl rfl ?_
  refine ro_Sga (j := 0) (a := 1) (q9 := 4) ⟨by decide, rfl⟩ hX hB kf_X1_9 dX1_callBack_1 rfl ?_
  refine ro_iload_n (i := 1) (q := 5) hX dX1_callBack_4 rfl rfl rfl ?_
  refine ro_iconst (v := nI 2) (q := 6) hX dX1_callBack_5 rfl rfl ?_
  refine ro_Sast (a := 1) (n := h) (q9 := 7) ⟨by decide, by decide⟩ hX hB rfl (show h < 6 from by omega) dX1_callBack_6 rfl ?_
  refine ro_aload_n (i := 0) (q := 8) hX dX1_callBack_7 rfl rfl rfl ?_
  refine ro_Sga (j := 2) (a := 3) (q9 := 11) ⟨by decide, rfl⟩ hX hB kf_X1_18 dX1_callBack_8 rfl ?_
  refine ro_iload_n (i := 1) (q := 12) hX dX1_callBack_11 rfl rfl rfl ?_
  refine ro_aload_n (i := 0) (q := 13) hX dX1_callBack_12 rfl rfl rfl ?_
  refine ro_Sgi (j := 8) (q9 := 16) ⟨by decide, by decide⟩ hX hB kf_X1_37 dX1_callBack_13 rfl ?_
  refine ro_iload_n (i := 2) (q := 17) hX dX1_callBack_16 rfl rfl rfl ?_
  refine ro_iadd (q := 18) hX dX1_callBack_17 rfl ?_
  refine ro_Sast (a := 3) (n := h) (q9 := 19) ⟨by decide, by decide⟩ hX hB rfl (show h < 6 from by omega) dX1_callBack_18 rfl ?_
  refine ro_aload_n (i := 0) (q := 20) hX dX1_callBack_19 rfl rfl rfl ?_
  refine ro_Sgi (j := 13) (q9 := 23) ⟨by decide, by decide⟩ hX hB kf_X1_52 dX1_callBack_20 rfl ?_
  refine ro_iload_n (i := 1) (q := 24) hX dX1_callBack_23 rfl rfl rfl ?_
  refine ro_icmp_ne (tgt := 31) (q := 27) hX dX1_callBack_24 (by decide) rfl (fun q1 => ?_) (fun q1 => ?_)
  · skip
    refine ro_aload_n (i := 0) (q := 32) hX dX1_callBack_31 rfl rfl rfl ?_
    refine ro_callVv (q9 := 35) hX (s_settle hB) mw_X1_settle kl_X1_110 (isB_lt hB) (fun cy => cell1 (isB_kd hB).2.2.1) rfl rfl rfl (Nat.le_of_ble_eq_true rfl) ⟨Nat.le_of_ble_eq_true rfl, Nat.le_of_ble_eq_true rfl⟩ dX1_callBack_32 ⟨Nat.le_of_ble_eq_true rfl, Nat.le_of_ble_eq_true rfl⟩ rfl ?_
    refine ro_aload_n (i := 0) (q := 36) hX dX1_callBack_35 rfl rfl rfl ?_
    refine ro_iload_n (i := 1) (q := 37) hX dX1_callBack_36 rfl rfl rfl ?_
    refine ro_callVi (q9 := 40) hX (s_heldOn hB (by omega)) mw_X1_heldOn kl_X1_119 (isB_lt hB) (fun cy => cell1 (isB_kd hB).2.2.1) rfl rfl rfl (Nat.le_of_ble_eq_true rfl) ⟨Nat.le_of_ble_eq_true rfl, Nat.le_of_ble_eq_true rfl⟩ dX1_callBack_37 ⟨Nat.le_of_ble_eq_true rfl, Nat.le_of_ble_eq_true rfl⟩ rfl ?_
    exact fin_i hF (Nat.le_of_ble_eq_true rfl) (Nat.le_of_ble_eq_true rfl) dX1_callBack_40 (by first | with_reducible rfl | (simp [cbG, cbG1, setL_s, setL_t, setL_0, dropL_0, dropL_c, *]; done) | (simp only [cbG, cbG1, setL_s, setL_t, setL_0, dropL_0, dropL_c]; (repeat' split) <;> first | with_reducible rfl | contradiction | (simp_all; done)) | rfl) (by first | with_reducible rfl | (simp [cbG, cbG1, setL_s, setL_t, setL_0, dropL_0, dropL_c, *]; done) | (simp only [cbG, cbG1, setL_s, setL_t, setL_0, dropL_0, dropL_c]; (repeat' split) <;> first | with_reducible rfl | contradiction | (simp_all; done)) | rfl)
  · skip
    refine ro_aload_n (i := 0) (q := 28) hX dX1_callBack_27 rfl rfl rfl ?_
    refine ro_callVv (q9 := 31) hX (s_cancelTransfer hB) mw_X1_cancelTransfer kl_X1_116 (isB_lt hB) (fun cy => cell1 (isB_kd hB).2.2.1) rfl rfl rfl (Nat.le_of_ble_eq_true rfl) ⟨Nat.le_of_ble_eq_true rfl, Nat.le_of_ble_eq_true rfl⟩ dX1_callBack_28 ⟨Nat.le_of_ble_eq_true rfl, Nat.le_of_ble_eq_true rfl⟩ rfl ?_
    refine ro_aload_n (i := 0) (q := 32) hX dX1_callBack_31 rfl rfl rfl ?_
    refine ro_callVv (q9 := 35) hX (s_settle hB) mw_X1_settle kl_X1_110 (isB_lt hB) (fun cy => cell1 (isB_kd hB).2.2.1) rfl rfl rfl (Nat.le_of_ble_eq_true rfl) ⟨Nat.le_of_ble_eq_true rfl, Nat.le_of_ble_eq_true rfl⟩ dX1_callBack_32 ⟨Nat.le_of_ble_eq_true rfl, Nat.le_of_ble_eq_true rfl⟩ rfl ?_
    refine ro_aload_n (i := 0) (q := 36) hX dX1_callBack_35 rfl rfl rfl ?_
    refine ro_iload_n (i := 1) (q := 37) hX dX1_callBack_36 rfl rfl rfl ?_
    refine ro_callVi (q9 := 40) hX (s_heldOn hB (by omega)) mw_X1_heldOn kl_X1_119 (isB_lt hB) (fun cy => cell1 (isB_kd hB).2.2.1) rfl rfl rfl (Nat.le_of_ble_eq_true rfl) ⟨Nat.le_of_ble_eq_true rfl, Nat.le_of_ble_eq_true rfl⟩ dX1_callBack_37 ⟨Nat.le_of_ble_eq_true rfl, Nat.le_of_ble_eq_true rfl⟩ rfl ?_
    exact fin_i hF (Nat.le_of_ble_eq_true rfl) (Nat.le_of_ble_eq_true rfl) dX1_callBack_40 (by first | with_reducible rfl | (simp [cbG, cbG1, setL_s, setL_t, setL_0, dropL_0, dropL_c, *]; done) | (simp only [cbG, cbG1, setL_s, setL_t, setL_0, dropL_0, dropL_c]; (repeat' split) <;> first | with_reducible rfl | contradiction | (simp_all; done)) | rfl) (by first | with_reducible rfl | (simp [cbG, cbG1, setL_s, setL_t, setL_0, dropL_0, dropL_c, *]; done) | (simp only [cbG, cbG1, setL_s, setL_t, setL_0, dropL_0, dropL_c]; (repeat' split) <;> first | with_reducible rfl | contradiction | (simp_all; done)) | rfl)
set_option maxRecDepth 20000 in
set_option maxHeartbeats 2000000 in
theorem s_detach (hB : isB r) {h : Nat} (hh : h < 6) : Does sz I_X1_detach [.ref (sz + r), .int (nI h)] (patch G r 7 f, T) 0 0 (.inl (some (hdS (deG f h) h))) (patch G r 7 (deG f h), T) := by
  refine Does.of (L := [(0, .ref (sz + r)), (1, .int (nI h))]) (by decide +kernel) (Nat.le_of_ble_eq_true rfl) rfl ⟨rfl, (by simp), ⟨rfl, (by simp), trivial⟩⟩ (fun VV hF => ?_)
  have hX := hF.c
  refine ro_aload_n (i := 0) (q := 1) hX dX1_detach_0 rfl rfl rfl ?_
  refine ro_dup (q := 2) hX dX1_detach_1 rfl rfl ?_
  refine ro_Sgi (j := 7) (q9 := 5) ⟨by decide, by decide⟩ hX hB kf_X1_34 dX1_detach_2 rfl ?_
  refine ro_iconst (v := nI 1) (q := 6) hX dX1_detach_5 rfl rfl ?_
  refine ro_iload_n (i := 1) (q := 7) hX dX1_detach_6 rfl rfl rfl ?_
  refine ro_ishl (q := 8) hX dX1_detach_7 rfl ?_
  refine ro_iconst (v := (-1)) (q := 9) hX dX1_detach_8 rfl rfl ?_
  refine ro_ixor (q := 10) hX dX1_detach_9 rfl ?_
  refine ro_iand (q := 11) hX dX1_detach_10 rfl ?_
  refine ro_Spi (j := 7) (q9 := 14) ⟨by decide, by decide⟩ hX hB kf_X1_34 dX1_detach_11 rfl ?_
  refine ro_aload_n (i := 0) (q := 15) hX dX1_detach_14 rfl rfl rfl ?_
  refine ro_iload_n (i := 1) (q := 16) hX dX1_detach_15 rfl rfl rfl ?_
  refine ro_callVv (q9 := 19) hX (s_cancelTransferOf hB (by omega)) mw_X1_cancelTransferOf kl_X1_122 (isB_lt hB) (fun cy => cell1 (isB_kd hB).2.2.1) rfl rfl rfl (Nat.le_of_ble_eq_true rfl) ⟨Nat.le_of_ble_eq_true rfl, Nat.le_of_ble_eq_true rfl⟩ dX1_detach_16 ⟨Nat.le_of_ble_eq_true rfl, Nat.le_of_ble_eq_true rfl⟩ rfl ?_
  refine ro_aload_n (i := 0) (q := 20) hX dX1_detach_19 rfl rfl rfl ?_
  refine ro_callVv (q9 := 23) hX (s_settle hB) mw_X1_settle kl_X1_110 (isB_lt hB) (fun cy => cell1 (isB_kd hB).2.2.1) rfl rfl rfl (Nat.le_of_ble_eq_true rfl) ⟨Nat.le_of_ble_eq_true rfl, Nat.le_of_ble_eq_true rfl⟩ dX1_detach_20 ⟨Nat.le_of_ble_eq_true rfl, Nat.le_of_ble_eq_true rfl⟩ rfl ?_
  refine ro_aload_n (i := 0) (q := 24) hX dX1_detach_23 rfl rfl rfl ?_
  refine ro_iload_n (i := 1) (q := 25) hX dX1_detach_24 rfl rfl rfl ?_
  refine ro_callVi (q9 := 28) hX (s_heldOn hB (by omega)) mw_X1_heldOn kl_X1_119 (isB_lt hB) (fun cy => cell1 (isB_kd hB).2.2.1) rfl rfl rfl (Nat.le_of_ble_eq_true rfl) ⟨Nat.le_of_ble_eq_true rfl, Nat.le_of_ble_eq_true rfl⟩ dX1_detach_25 ⟨Nat.le_of_ble_eq_true rfl, Nat.le_of_ble_eq_true rfl⟩ rfl ?_
  exact fin_i hF (Nat.le_of_ble_eq_true rfl) (Nat.le_of_ble_eq_true rfl) dX1_detach_28 (by rfl) (by rfl)
set_option maxRecDepth 20000 in
set_option maxHeartbeats 2000000 in
theorem s_attach (hB : isB r) {h : Nat} (hh : h < 6) : Does sz I_X1_attach [.ref (sz + r), .int (nI h)] (patch G r 7 f, T) 0 0 (.inl (some (bcI (suS f h)))) (patch G r 7 (atG f h), T) := by
  refine Does.of (L := [(0, .ref (sz + r)), (1, .int (nI h))]) (by decide +kernel) (Nat.le_of_ble_eq_true rfl) rfl ⟨rfl, (by simp), ⟨rfl, (by simp), trivial⟩⟩ (fun VV hF => ?_)
  have hX := hF.c
  refine ro_aload_n (i := 0) (q := 1) hX dX1_attach_0 rfl rfl rfl ?_
  refine ro_Sga (j := 4) (a := 5) (q9 := 4) ⟨by decide, rfl⟩ hX hB kf_X1_24 dX1_attach_1 rfl ?_
  refine ro_iload_n (i := 1) (q := 5) hX dX1_attach_4 rfl rfl rfl ?_
  refine ro_Sald (a := 5) (n := h) (q9 := 6) ⟨by decide, by decide⟩ hX hB rfl (show h < 6 from by omega) dX1_attach_5 rfl ?_
  refine ro_aload_n (i := 0) (q := 7) hX dX1_attach_6 rfl rfl rfl ?_
  refine ro_Sga (j := 3) (a := 4) (q9 := 10) ⟨by decide, rfl⟩ hX hB kf_X1_21 dX1_attach_7 rfl ?_
  refine ro_iload_n (i := 1) (q := 11) hX dX1_attach_10 rfl rfl rfl ?_
  refine ro_Sald (a := 4) (n := h) (q9 := 12) ⟨by decide, by decide⟩ hX hB rfl (show h < 6 from by omega) dX1_attach_11 rfl ?_
  refine ro_aload_n (i := 0) (q := 13) hX dX1_attach_12 rfl rfl rfl ?_
  refine ro_callVi (q9 := 16) hX (s_pagesCopiedTwice hB) mw_X1_pagesCopiedTwice kl_X1_125 (isB_lt hB) (fun cy => cell1 (isB_kd hB).2.2.1) rfl rfl rfl (Nat.le_of_ble_eq_true rfl) ⟨Nat.le_of_ble_eq_true rfl, Nat.le_of_ble_eq_true rfl⟩ dX1_attach_13 ⟨Nat.le_of_ble_eq_true rfl, Nat.le_of_ble_eq_true rfl⟩ rfl ?_
  refine ro_iand (q := 17) hX dX1_attach_16 rfl ?_
  refine ro_ior (q := 18) hX dX1_attach_17 rfl ?_
  refine ro_istore_n (i := 2) (q := 19) hX dX1_attach_18 rfl (Nat.le_of_ble_eq_true rfl) rfl ?_
  refine ro_aload_n (i := 0) (q := 20) hX dX1_attach_19 rfl rfl rfl ?_
  refine ro_dup (q := 21) hX dX1_attach_20 rfl rfl ?_
  refine ro_Sgi (j := 7) (q9 := 24) ⟨by decide, by decide⟩ hX hB kf_X1_34 dX1_attach_21 rfl ?_
  refine ro_iconst (v := nI 1) (q := 25) hX dX1_attach_24 rfl rfl ?_
  refine ro_iload_n (i := 1) (q := 26) hX dX1_attach_25 rfl rfl rfl ?_
  refine ro_ishl (q := 27) hX dX1_attach_26 rfl ?_
  refine ro_ior (q := 28) hX dX1_attach_27 rfl ?_
  refine ro_Spi (j := 7) (q9 := 31) ⟨by decide, by decide⟩ hX hB kf_X1_34 dX1_attach_28 rfl ?_
  refine ro_aload_n (i := 0) (q := 32) hX dX1_attach_31 rfl rfl rfl ?_
  refine ro_Sga (j := 3) (a := 4) (q9 := 35) ⟨by decide, rfl⟩ hX hB kf_X1_21 dX1_attach_32 rfl ?_
  refine ro_iload_n (i := 1) (q := 36) hX dX1_attach_35 rfl rfl rfl ?_
  refine ro_dup2 (q := 37) hX dX1_attach_36 rfl rfl rfl ?_
  refine ro_Sald (a := 4) (n := h) (q9 := 38) ⟨by decide, by decide⟩ hX hB rfl (show h < 6 from by omega) dX1_attach_37 rfl ?_
  refine ro_iload_n (i := 2) (q := 39) hX dX1_attach_38 rfl rfl rfl ?_
  refine ro_iconst (v := (-1)) (q := 40) hX dX1_attach_39 rfl rfl ?_
  refine ro_ixor (q := 41) hX dX1_attach_40 rfl ?_
  refine ro_iand (q := 42) hX dX1_attach_41 rfl ?_
  refine ro_Sast (a := 4) (n := h) (q9 := 43) ⟨by decide, by decide⟩ hX hB rfl (show h < 6 from by omega) dX1_attach_42 rfl ?_
  refine ro_aload_n (i := 0) (q := 44) hX dX1_attach_43 rfl rfl rfl ?_
  refine ro_Sga (j := 4) (a := 5) (q9 := 47) ⟨by decide, rfl⟩ hX hB kf_X1_24 dX1_attach_44 rfl ?_
  refine ro_iload_n (i := 1) (q := 48) hX dX1_attach_47 rfl rfl rfl ?_
  refine ro_iconst (v := nI 0) (q := 49) hX dX1_attach_48 rfl rfl ?_
  refine ro_Sast (a := 5) (n := h) (q9 := 50) ⟨by decide, by decide⟩ hX hB rfl (show h < 6 from by omega) dX1_attach_49 rfl ?_
  refine ro_aload_n (i := 0) (q := 51) hX dX1_attach_50 rfl rfl rfl ?_
  refine ro_callVv (q9 := 54) hX (s_settle hB) mw_X1_settle kl_X1_110 (isB_lt hB) (fun cy => cell1 (isB_kd hB).2.2.1) rfl rfl rfl (Nat.le_of_ble_eq_true rfl) ⟨Nat.le_of_ble_eq_true rfl, Nat.le_of_ble_eq_true rfl⟩ dX1_attach_51 ⟨Nat.le_of_ble_eq_true rfl, Nat.le_of_ble_eq_true rfl⟩ rfl ?_
  refine ro_iload_n (i := 2) (q := 55) hX dX1_attach_54 rfl rfl rfl ?_
  refine ro_callSi (q9 := 58) hX (s_bitCount) mw_J6_bitCount_0f7a4 kl_X1_89 rfl rfl (Nat.le_of_ble_eq_true rfl) ⟨Nat.le_of_ble_eq_true rfl, Nat.le_of_ble_eq_true rfl⟩ dX1_attach_55 ⟨Nat.le_of_ble_eq_true rfl, Nat.le_of_ble_eq_true rfl⟩ rfl ?_
  exact fin_i hF (Nat.le_of_ble_eq_true rfl) (Nat.le_of_ble_eq_true rfl) dX1_attach_58 (by rfl) (by rfl)
set_option maxRecDepth 20000 in
set_option maxHeartbeats 2000000 in
theorem s_breakDown (hB : isB r) {h : Nat} (hh : h < 6) : Does sz I_X1_breakDown [.ref (sz + r), .int (nI h)] (patch G r 7 f, T) 0 0 (.inl (some (hdS f h))) (patch G r 7 (brG f h), T) := by
  refine Does.of (L := [(0, .ref (sz + r)), (1, .int (nI h))]) (by decide +kernel) (Nat.le_of_ble_eq_true rfl) rfl ⟨rfl, (by simp), ⟨rfl, (by simp), trivial⟩⟩ (fun VV hF => ?_)
  have hX := hF.c
  refine ro_aload_n (i := 0) (q := 1) hX dX1_breakDown_0 rfl rfl rfl ?_
  refine ro_iload_n (i := 1) (q := 2) hX dX1_breakDown_1 rfl rfl rfl ?_
  refine ro_callVi (q9 := 5) hX (s_heldOn hB (by omega)) mw_X1_heldOn kl_X1_119 (isB_lt hB) (fun cy => cell1 (isB_kd hB).2.2.1) rfl rfl rfl (Nat.le_of_ble_eq_true rfl) ⟨Nat.le_of_ble_eq_true rfl, Nat.le_of_ble_eq_true rfl⟩ dX1_breakDown_2 ⟨Nat.le_of_ble_eq_true rfl, Nat.le_of_ble_eq_true rfl⟩ rfl ?_
  refine ro_istore_n (i := 2) (q := 6) hX dX1_breakDown_5 rfl (Nat.le_of_ble_eq_true rfl) rfl ?_
  refine ro_aload_n (i := 0) (q := 7) hX dX1_breakDown_6 rfl rfl rfl ?_
  refine ro_iload_n (i := 1) (q := 8) hX dX1_breakDown_7 rfl rfl rfl ?_
  refine ro_callVv (q9 := 11) hX (s_leave hB (by omega)) mw_X1_leave kl_X1_129 (isB_lt hB) (fun cy => cell1 (isB_kd hB).2.2.1) rfl rfl rfl (Nat.le_of_ble_eq_true rfl) ⟨Nat.le_of_ble_eq_true rfl, Nat.le_of_ble_eq_true rfl⟩ dX1_breakDown_8 ⟨Nat.le_of_ble_eq_true rfl, Nat.le_of_ble_eq_true rfl⟩ rfl ?_
  refine ro_aload_n (i := 0) (q := 12) hX dX1_breakDown_11 rfl rfl rfl ?_
  refine ro_dup (q := 13) hX dX1_breakDown_12 rfl rfl ?_
  refine ro_Sgi (j := 7) (q9 := 16) ⟨by decide, by decide⟩ hX hB kf_X1_34 dX1_breakDown_13 rfl ?_
  refine ro_iconst (v := nI 1) (q := 17) hX dX1_breakDown_16 rfl rfl ?_
  refine ro_iload_n (i := 1) (q := 18) hX dX1_breakDown_17 rfl rfl rfl ?_
  refine ro_ishl (q := 19) hX dX1_breakDown_18 rfl ?_
  refine ro_ior (q := 20) hX dX1_breakDown_19 rfl ?_
  refine ro_Spi (j := 7) (q9 := 23) ⟨by decide, by decide⟩ hX hB kf_X1_34 dX1_breakDown_20 rfl ?_
  refine ro_aload_n (i := 0) (q := 24) hX dX1_breakDown_23 rfl rfl rfl ?_
  refine ro_iload_n (i := 1) (q := 25) hX dX1_breakDown_24 rfl rfl rfl ?_
  refine ro_callVv (q9 := 28) hX (s_cancelTransferOf hB (by omega)) mw_X1_cancelTransferOf kl_X1_122 (isB_lt hB) (fun cy => cell1 (isB_kd hB).2.2.1) rfl rfl rfl (Nat.le_of_ble_eq_true rfl) ⟨Nat.le_of_ble_eq_true rfl, Nat.le_of_ble_eq_true rfl⟩ dX1_breakDown_25 ⟨Nat.le_of_ble_eq_true rfl, Nat.le_of_ble_eq_true rfl⟩ rfl ?_
  refine ro_aload_n (i := 0) (q := 29) hX dX1_breakDown_28 rfl rfl rfl ?_
  refine ro_callVv (q9 := 32) hX (s_settle hB) mw_X1_settle kl_X1_110 (isB_lt hB) (fun cy => cell1 (isB_kd hB).2.2.1) rfl rfl rfl (Nat.le_of_ble_eq_true rfl) ⟨Nat.le_of_ble_eq_true rfl, Nat.le_of_ble_eq_true rfl⟩ dX1_breakDown_29 ⟨Nat.le_of_ble_eq_true rfl, Nat.le_of_ble_eq_true rfl⟩ rfl ?_
  refine ro_iload_n (i := 2) (q := 33) hX dX1_breakDown_32 rfl rfl rfl ?_
  exact fin_i hF (Nat.le_of_ble_eq_true rfl) (Nat.le_of_ble_eq_true rfl) dX1_breakDown_33 (by rfl) (by rfl)
end
