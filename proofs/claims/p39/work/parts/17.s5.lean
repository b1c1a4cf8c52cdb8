section
variable {sz r : Nat} {G : Nat → Nat → Int32} {T : (Nat → Nat) × Int64} {f : SV}
set_option maxRecDepth 20000 in
set_option maxHeartbeats 2000000 in
theorem s_completeTransfer (hB : isB r) : Does sz I_X1_completeTransfer [.ref (sz + r)] (patch G r 7 f, T) 0 0 (.inl none) (patch G r 7 (coG f), T) := by
  refine Does.of (L := [(0, .ref (sz + r))]) (by decide +kernel) (Nat.le_of_ble_eq_true rfl) rfl ⟨rfl, (by simp), trivial⟩ (fun VV hF => ?_)
  have hX := hF.c
  refine ro_aload_n (i := 0) (q := 1) hX dX1_completeTransfer_0 rfl rfl rfl ?_
  refine ro_Sgi (j := 11) (q9 := 4) ⟨by decide, by decide⟩ hX hB kf_X1_46 dX1_completeTransfer_1 rfl ?_
  refine ro_istore_n (i := 1) (q := 5) hX dX1_completeTransfer_4 rfl (Nat.le_of_ble_eq_true rfl) rfl ?_
  refine ro_aload_n (i := 0) (q := 6) hX dX1_completeTransfer_5 rfl rfl rfl ?_
  refine ro_Sgi (j := 12) (q9 := 9) ⟨by decide, by decide⟩ hX hB kf_X1_49 dX1_completeTransfer_6 rfl ?_
  refine ro_istore_n (i := 2) (q := 10) hX dX1_completeTransfer_9 rfl (Nat.le_of_ble_eq_true rfl) rfl ?_
  refine ro_aload_n (i := 0) (q := 11) hX dX1_completeTransfer_10 rfl rfl rfl ?_
  refine ro_Sgi (j := 13) (q9 := 14) ⟨by decide, by decide⟩ hX hB kf_X1_52 dX1_completeTransfer_11 rfl ?_
  refine ro_istore_n (i := 3) (q := 15) hX dX1_completeTransfer_14 rfl (Nat.le_of_ble_eq_true rfl) rfl ?_
  refine ro_aload_n (i := 0) (q := 16) hX dX1_completeTransfer_15 rfl rfl rfl ?_
  refine ro_callVv (q9 := 19) hX (s_cancelTransfer hB) mw_X1_cancelTransfer kl_X1_116 (isB_lt hB) (fun cy => cell1 (isB_kd hB).2.2.1) rfl rfl rfl (Nat.le_of_ble_eq_true rfl) ⟨Nat.le_of_ble_eq_true rfl, Nat.le_of_ble_eq_true rfl⟩ dX1_completeTransfer_16 ⟨Nat.le_of_ble_eq_true rfl, Nat.le_of_ble_eq_true rfl⟩ rfl ?_
  refine ro_aload_n (i := 0) (q := 20) hX dX1_completeTransfer_19 rfl rfl rfl ?_
  refine ro_dup (q := 21) hX dX1_completeTransfer_20 rfl rfl ?_
  refine ro_Sgi (j := 10) (q9 := 24) ⟨by decide, by decide⟩ hX hB kf_X1_43 dX1_completeTransfer_21 rfl ?_
  refine ro_iconst (v := nI 1) (q := 25) hX dX1_completeTransfer_24 rfl rfl ?_
  refine ro_iadd (q := 26) hX dX1_completeTransfer_25 rfl ?_
  refine ro_Spi (j := 10) (q9 := 29) ⟨by decide, by decide⟩ hX hB kf_X1_43 dX1_completeTransfer_26 rfl ?_
  refine ro_iload_n (i := 1) (q := 30) hX dX1_completeTransfer_29 rfl rfl rfl ?_
  refine ro_callSi (q9 := 33) hX (s_isPage) mw_X1_isPage kl_X1_64 rfl rfl (Nat.le_of_ble_eq_true rfl) ⟨Nat.le_of_ble_eq_true rfl, Nat.le_of_ble_eq_true rfl⟩ dX1_completeTransfer_30 ⟨Nat.le_of_ble_eq_true rfl, Nat.le_of_ble_eq_true rfl⟩ rfl ?_
  refine ro_ifb_eq (tgt := 50) (q := 36) hX dX1_completeTransfer_33 (by decide) rfl (fun q1 => ?_) (fun q1 => ?_)
  · skip
    exact fin_v hF (Nat.le_of_ble_eq_true rfl) (Nat.le_of_ble_eq_true rfl) dX1_completeTransfer_50 (by first | with_reducible rfl | (simp [coG, coG1, coG2, bitP, setL_s, setL_t, setL_0, dropL_0, dropL_c, *]; done) | (simp only [coG, coG1, coG2, bitP, setL_s, setL_t, setL_0, dropL_0, dropL_c]; (repeat' split) <;> first | with_reducible rfl | contradiction | (simp_all; done)) | rfl)
  · skip
    refine ro_iload_n (i := 2) (q := 37) hX dX1_completeTransfer_36 rfl rfl rfl ?_
    refine ro_callSi (q9 := 40) hX (s_isHost) mw_X1_isHost kl_X1_82 rfl rfl (Nat.le_of_ble_eq_true rfl) ⟨Nat.le_of_ble_eq_true rfl, Nat.le_of_ble_eq_true rfl⟩ dX1_completeTransfer_37 ⟨Nat.le_of_ble_eq_true rfl, Nat.le_of_ble_eq_true rfl⟩ rfl ?_
    refine ro_ifb_eq (tgt := 50) (q := 43) hX dX1_completeTransfer_40 (by decide) rfl (fun q2 => ?_) (fun q2 => ?_)
    · skip
      exact fin_v hF (Nat.le_of_ble_eq_true rfl) (Nat.le_of_ble_eq_true rfl) dX1_completeTransfer_50 (by first | with_reducible rfl | (simp [coG, coG1, coG2, bitP, setL_s, setL_t, setL_0, dropL_0, dropL_c, *]; done) | (simp only [coG, coG1, coG2, bitP, setL_s, setL_t, setL_0, dropL_0, dropL_c]; (repeat' split) <;> first | with_reducible rfl | contradiction | (simp_all; done)) | rfl)
    · skip
      refine ro_iload_n (i := 3) (q := 44) hX dX1_completeTransfer_43 rfl rfl rfl ?_
      refine ro_callSi (q9 := 47) hX (s_isHost) mw_X1_isHost kl_X1_82 rfl rfl (Nat.le_of_ble_eq_true rfl) ⟨Nat.le_of_ble_eq_true rfl, Nat.le_of_ble_eq_true rfl⟩ dX1_completeTransfer_44 ⟨Nat.le_of_ble_eq_true rfl, Nat.le_of_ble_eq_true rfl⟩ rfl ?_
      refine ro_ifb_ne (tgt := 51) (q := 50) hX dX1_completeTransfer_47 (by decide) rfl (fun q3 => ?_) (fun q3 => ?_)
      · skip
        obtain ⟨e1, l1⟩ := isR_n q1 (by decide)
        obtain ⟨e2, l2⟩ := isR_n q2 (by decide)
        obtain ⟨e3, l3⟩ := isR_n q3 (by decide)
        refine vv_L (L' := [(0, .ref (sz + r)), (1, .int (nI (ixN (f 0 11)))), (2, .int (nI (ixN (f 0 12)))), (3, .int (nI (ixN (f 0 13))))]) (by rw [← e1, ← e2, ← e3]; rfl) ?_
        clear e1 e2 e3
        refine ro_aload_n (i := 0) (q := 52) hX dX1_completeTransfer_51 rfl rfl rfl ?_
        refine ro_Sga (j := 0) (a := 1) (q9 := 55) ⟨by decide, rfl⟩ hX hB kf_X1_9 dX1_completeTransfer_52 rfl ?_
        refine ro_iload_n (i := 2) (q := 56) hX dX1_completeTransfer_55 rfl rfl rfl ?_
        refine ro_Sald (a := 1) (n := ixN (f 0 12)) (q9 := 57) ⟨by decide, by decide⟩ hX hB rfl (show ixN (f 0 12) < 6 from by omega) dX1_completeTransfer_56 rfl ?_
        refine ro_iconst (v := nI 2) (q := 58) hX dX1_completeTransfer_57 rfl rfl ?_
        refine ro_icmp_ne (tgt := 90) (q := 61) hX dX1_completeTransfer_58 (by decide) rfl (fun q4 => ?_) (fun q4 => ?_)
        · skip
          refine ro_aload_n (i := 0) (q := 91) hX dX1_completeTransfer_90 rfl rfl rfl ?_
          refine ro_iload_n (i := 1) (q := 92) hX dX1_completeTransfer_91 rfl rfl rfl ?_
          refine ro_callVi (q9 := 95) hX (s_copySet hB (by omega)) mw_X1_copySet kl_X1_75 (isB_lt hB) (fun cy => cell1 (isB_kd hB).2.2.1) rfl rfl rfl (Nat.le_of_ble_eq_true rfl) ⟨Nat.le_of_ble_eq_true rfl, Nat.le_of_ble_eq_true rfl⟩ dX1_completeTransfer_92 ⟨Nat.le_of_ble_eq_true rfl, Nat.le_of_ble_eq_true rfl⟩ rfl ?_
          refine ro_callSi (q9 := 98) hX (s_bitCount) mw_J6_bitCount_0f7a4 kl_X1_89 rfl rfl (Nat.le_of_ble_eq_true rfl) ⟨Nat.le_of_ble_eq_true rfl, Nat.le_of_ble_eq_true rfl⟩ dX1_completeTransfer_95 ⟨Nat.le_of_ble_eq_true rfl, Nat.le_of_ble_eq_true rfl⟩ rfl ?_
          refine ro_iconst (v := nI 1) (q := 99) hX dX1_completeTransfer_98 rfl rfl ?_
          refine ro_icmp_ne (tgt := 114) (q := 102) hX dX1_completeTransfer_99 (by decide) rfl (fun q5 => ?_) (fun q5 => ?_)
          · skip
            exact fin_v hF (Nat.le_of_ble_eq_true rfl) (Nat.le_of_ble_eq_true rfl) dX1_completeTransfer_114 (by first | with_reducible rfl | (simp [coG, coG1, coG2, bitP, setL_s, setL_t, setL_0, dropL_0, dropL_c, *]; done) | (simp only [coG, coG1, coG2, bitP, setL_s, setL_t, setL_0, dropL_0, dropL_c]; (repeat' split) <;> first | with_reducible rfl | contradiction | (simp_all; done)) | rfl)
          · skip
            refine ro_aload_n (i := 0) (q := 103) hX dX1_completeTransfer_102 rfl rfl rfl ?_
            refine ro_Sga (j := 3) (a := 4) (q9 := 106) ⟨by decide, rfl⟩ hX hB kf_X1_21 dX1_completeTransfer_103 rfl ?_
            refine ro_iload_n (i := 3) (q := 107) hX dX1_completeTransfer_106 rfl rfl rfl ?_
            refine ro_dup2 (q := 108) hX dX1_completeTransfer_107 rfl rfl rfl ?_
            refine ro_Sald (a := 4) (n := ixN (f 0 13)) (q9 := 109) ⟨by decide, by decide⟩ hX hB rfl (show ixN (f 0 13) < 6 from by omega) dX1_completeTransfer_108 rfl ?_
            refine ro_iconst (v := nI 1) (q := 110) hX dX1_completeTransfer_109 rfl rfl ?_
            refine ro_iload_n (i := 1) (q := 111) hX dX1_completeTransfer_110 rfl rfl rfl ?_
            refine ro_ishl (q := 112) hX dX1_completeTransfer_111 rfl ?_
            refine ro_ior (q := 113) hX dX1_completeTransfer_112 rfl ?_
            refine ro_Sast (a := 4) (n := ixN (f 0 13)) (q9 := 114) ⟨by decide, by decide⟩ hX hB rfl (show ixN (f 0 13) < 6 from by omega) dX1_completeTransfer_113 rfl ?_
            exact fin_v hF (Nat.le_of_ble_eq_true rfl) (Nat.le_of_ble_eq_true rfl) dX1_completeTransfer_114 (by first | with_reducible rfl | (simp [coG, coG1, coG2, bitP, setL_s, setL_t, setL_0, dropL_0, dropL_c, *]; done) | (simp only [coG, coG1, coG2, bitP, setL_s, setL_t, setL_0, dropL_0, dropL_c]; (repeat' split) <;> first | with_reducible rfl | contradiction | (simp_all; done)) | rfl)
        · skip
          refine ro_aload_n (i := 0) (q := 62) hX dX1_completeTransfer_61 rfl rfl rfl ?_
          refine ro_Sga (j := 3) (a := 4) (q9 := 65) ⟨by decide, rfl⟩ hX hB kf_X1_21 dX1_completeTransfer_62 rfl ?_
          refine ro_iload_n (i := 2) (q := 66) hX dX1_completeTransfer_65 rfl rfl rfl ?_
          refine ro_dup2 (q := 67) hX dX1_completeTransfer_66 rfl rfl rfl ?_
          refine ro_Sald (a := 4) (n := ixN (f 0 12)) (q9 := 68) ⟨by decide, by decide⟩ hX hB rfl (show ixN (f 0 12) < 6 from by omega) dX1_completeTransfer_67 rfl ?_
          refine ro_iconst (v := nI 1) (q := 69) hX dX1_completeTransfer_68 rfl rfl ?_
          refine ro_iload_n (i := 1) (q := 70) hX dX1_completeTransfer_69 rfl rfl rfl ?_
          refine ro_ishl (q := 71) hX dX1_completeTransfer_70 rfl ?_
          refine ro_iconst (v := (-1)) (q := 72) hX dX1_completeTransfer_71 rfl rfl ?_
          refine ro_ixor (q := 73) hX dX1_completeTransfer_72 rfl ?_
          refine ro_iand (q := 74) hX dX1_completeTransfer_73 rfl ?_
          refine ro_Sast (a := 4) (n := ixN (f 0 12)) (q9 := 75) ⟨by decide, by decide⟩ hX hB rfl (show ixN (f 0 12) < 6 from by omega) dX1_completeTransfer_74 rfl ?_
          refine ro_aload_n (i := 0) (q := 76) hX dX1_completeTransfer_75 rfl rfl rfl ?_
          refine ro_Sga (j := 3) (a := 4) (q9 := 79) ⟨by decide, rfl⟩ hX hB kf_X1_21 dX1_completeTransfer_76 rfl ?_
          refine ro_iload_n (i := 3) (q := 80) hX dX1_completeTransfer_79 rfl rfl rfl ?_
          refine ro_dup2 (q := 81) hX dX1_completeTransfer_80 rfl rfl rfl ?_
          refine ro_Sald (a := 4) (n := ixN (f 0 13)) (q9 := 82) ⟨by decide, by decide⟩ hX hB rfl (show ixN (f 0 13) < 6 from by omega) dX1_completeTransfer_81 rfl ?_
          refine ro_iconst (v := nI 1) (q := 83) hX dX1_completeTransfer_82 rfl rfl ?_
          refine ro_iload_n (i := 1) (q := 84) hX dX1_completeTransfer_83 rfl rfl rfl ?_
          refine ro_ishl (q := 85) hX dX1_completeTransfer_84 rfl ?_
          refine ro_ior (q := 86) hX dX1_completeTransfer_85 rfl ?_
          refine ro_Sast (a := 4) (n := ixN (f 0 13)) (q9 := 87) ⟨by decide, by decide⟩ hX hB rfl (show ixN (f 0 13) < 6 from by omega) dX1_completeTransfer_86 rfl ?_
          refine ro_goto (tgt := 114) hX dX1_completeTransfer_87 (by decide) ?_
          exact fin_v hF (Nat.le_of_ble_eq_true rfl) (Nat.le_of_ble_eq_true rfl) dX1_completeTransfer_114 (by first | with_reducible rfl | (simp [coG, coG1, coG2, bitP, setL_s, setL_t, setL_0, dropL_0, dropL_c, *]; done) | (simp only [coG, coG1, coG2, bitP, setL_s, setL_t, setL_0, dropL_0, dropL_c]; (repeat' split) <;> first | with_reducible rfl | contradiction | (simp_all; done)) | rfl)
      · skip
        exact fin_v hF (Nat.le_of_ble_eq_true rfl) (Nat.le_of_ble_eq_true rfl) dX1_completeTransfer_50 (by first | with_reducible rfl | (simp [coG, coG1, coG2, bitP, setL_s, setL_t, setL_0, dropL_0, dropL_c, *]; done) | (simp only [coG, coG1, coG2, bitP, setL_s, setL_t, setL_0, dropL_0, dropL_c]; (repeat' split) <;> first | with_reducible rfl | contradiction | (simp_all; done)) | rfl)
set_option maxRecDepth 20000 in
set_option maxHeartbeats 2000000 in
theorem s_advance (hB : isB r) {n : Nat} (hn : n ≤ 1000) : Does sz I_X1_advance [.ref (sz + r), .int (nI n)] (patch G r 7 f, T) 0 0 (.inl (some (avG (f 0 8 + nI n) n f 0 10 - f 0 10))) (patch G r 7 (avG (f 0 8 + nI n) n f), T) := by
  refine Does.of (L := [(0, .ref (sz + r)), (1, .int (nI n))]) (by decide +kernel) (Nat.le_of_ble_eq_true rfl) rfl ⟨rfl, (by simp), ⟨rfl, (by simp), trivial⟩⟩ (fun VV hF => ?_)
  have hX := hF.c
  refine ro_aload_n (i := 0) (q := 1) hX dX1_advance_0 rfl rfl rfl ?_
  refine ro_Sgi (j := 10) (q9 := 4) ⟨by decide, by decide⟩ hX hB kf_X1_43 dX1_advance_1 rfl ?_
  refine ro_istore_n (i := 2) (q := 5) hX dX1_advance_4 rfl (Nat.le_of_ble_eq_true rfl) rfl ?_
  refine ro_aload_n (i := 0) (q := 6) hX dX1_advance_5 rfl rfl rfl ?_
  refine ro_Sgi (j := 8) (q9 := 9) ⟨by decide, by decide⟩ hX hB kf_X1_37 dX1_advance_6 rfl ?_
  refine ro_iload_n (i := 1) (q := 10) hX dX1_advance_9 rfl rfl rfl ?_
  refine ro_iadd (q := 11) hX dX1_advance_10 rfl ?_
  refine ro_istore_n (i := 3) (q := 12) hX dX1_advance_11 rfl (Nat.le_of_ble_eq_true rfl) rfl ?_
  refine ro_iconst (v := nI 0) (q := 13) hX dX1_advance_12 rfl rfl ?_
  refine ro_istore (i := 4) (q := 15) hX dX1_advance_13 (Nat.le_of_ble_eq_true rfl) rfl ?_
  refine vv_LM (L' := [(0, .ref (sz + r)), (1, .int (nI n)), (2, .int (f 0 10)), (3, .int (f 0 8 + nI n)), (4, .int (nI 0))]) (M' := (patch G r 7 f, T)) (by rfl) (by rfl) ?_
  refine down_ind (P := fun k15 => ∀ g : SV, avG (f 0 8 + nI n) (n - k15) g = avG (f 0 8 + nI n) n f → VV 0 0 15 [(0, .ref (sz + r)), (1, .int (nI n)), (2, .int (f 0 10)), (3, .int (f 0 8 + nI n)), (4, .int (nI k15))] [] (patch G r 7 g, T)) (n) (fun k15 hk15 ih15 g hg => ?_) (fun g hg => ?_) f rfl
  · have ih15 : ∀ g : SV, avG (f 0 8 + nI n) (n - (k15 + 1)) g = avG (f 0 8 + nI n) n f → VV 0 0 15 [(0, .ref (sz + r)), (1, .int (nI n)), (2, .int (f 0 10)), (3, .int (f 0 8 + nI n)), (4, .int (nI (k15 + 1)))] [] (patch G r 7 g, T) := ih15
    show VV 0 0 15 [(0, .ref (sz + r)), (1, .int (nI n)), (2, .int (f 0 10)), (3, .int (f 0 8 + nI n)), (4, .int (nI k15))] [] (patch G r 7 g, T)
    refine ro_iload (i := 4) (q := 17) hX dX1_advance_15 rfl rfl ?_
    refine ro_iload_n (i := 1) (q := 18) hX dX1_advance_17 rfl rfl rfl ?_
    refine ro_icmp_ge (tgt := 124) (q := 21) hX dX1_advance_18 (by decide) rfl (fun q => absurd q (by first | exact ni_nle (by omega) (by omega) | exact ni_lt (by omega) (by omega))) (fun _ => ?_)
    refine ro_aload_n (i := 0) (q := 22) hX dX1_advance_21 rfl rfl rfl ?_
    refine ro_Sgi (j := 8) (q9 := 25) ⟨by decide, by decide⟩ hX hB kf_X1_37 dX1_advance_22 rfl ?_
    refine ro_iload_n (i := 3) (q := 26) hX dX1_advance_25 rfl rfl rfl ?_
    refine ro_icmp_ge (tgt := 124) (q := 29) hX dX1_advance_26 (by decide) rfl (fun q1 => ?_) (fun q1 => ?_)
    · skip
      refine ro_aload_n (i := 0) (q := 125) hX dX1_advance_124 rfl rfl rfl ?_
      refine ro_Sgi (j := 10) (q9 := 128) ⟨by decide, by decide⟩ hX hB kf_X1_43 dX1_advance_125 rfl ?_
      refine ro_iload_n (i := 2) (q := 129) hX dX1_advance_128 rfl rfl rfl ?_
      refine ro_isub (q := 130) hX dX1_advance_129 rfl ?_
      exact fin_i hF (Nat.le_of_ble_eq_true rfl) (Nat.le_of_ble_eq_true rfl) dX1_advance_130 (by first | (rw [← hg, avG_stop (by assumption)]) | (rw [← hg, Nat.sub_self]; rfl)) (by first | (rw [← hg, avG_stop (by assumption)]) | (rw [← hg, Nat.sub_self]; rfl))
    · skip
      refine ro_aload_n (i := 0) (q := 30) hX dX1_advance_29 rfl rfl rfl ?_
      refine ro_aload_n (i := 0) (q := 31) hX dX1_advance_30 rfl rfl rfl ?_
      refine ro_iload_n (i := 3) (q := 32) hX dX1_advance_31 rfl rfl rfl ?_
      refine ro_callVi (q9 := 35) hX (s_nextEvent hB) mw_X1_nextEvent kl_X1_132 (isB_lt hB) (fun cy => cell1 (isB_kd hB).2.2.1) rfl rfl rfl (Nat.le_of_ble_eq_true rfl) ⟨Nat.le_of_ble_eq_true rfl, Nat.le_of_ble_eq_true rfl⟩ dX1_advance_32 ⟨Nat.le_of_ble_eq_true rfl, Nat.le_of_ble_eq_true rfl⟩ rfl ?_
      refine ro_Spi (j := 8) (q9 := 38) ⟨by decide, by decide⟩ hX hB kf_X1_37 dX1_advance_35 rfl ?_
      refine ro_aload_n (i := 0) (q := 39) hX dX1_advance_38 rfl rfl rfl ?_
      refine ro_Sgi (j := 11) (q9 := 42) ⟨by decide, by decide⟩ hX hB kf_X1_46 dX1_advance_39 rfl ?_
      refine ro_iconst (v := (-1)) (q := 43) hX dX1_advance_42 rfl rfl ?_
      refine ro_icmp_eq (tgt := 61) (q := 46) hX dX1_advance_43 (by decide) rfl (fun q2 => ?_) (fun q2 => ?_)
      · skip
        refine ro_iconst (v := nI 0) (q := 62) hX dX1_advance_61 rfl rfl ?_
        refine ro_istore (i := 5) (q := 64) hX dX1_advance_62 (Nat.le_of_ble_eq_true rfl) rfl ?_
        refine vv_LM (L' := [(0, .ref (sz + r)), (1, .int (nI n)), (2, .int (f 0 10)), (3, .int (f 0 8 + nI n)), (4, .int (nI k15)), (5, .int (nI 0))]) (M' := (patch G r 7 (exL (evG2 (evG1 g (f 0 8 + nI n))) 0), T)) (by first | with_reducible rfl | (simp [exL, evG1, evG2, setL_s, setL_t, setL_0, dropL_0, dropL_c, *]; done) | (simp only [exL, evG1, evG2, setL_s, setL_t, setL_0, dropL_0, dropL_c]; (repeat' split) <;> first | with_reducible rfl | contradiction | (simp_all; done)) | rfl) (by first | with_reducible rfl | (simp [exL, evG1, evG2, setL_s, setL_t, setL_0, dropL_0, dropL_c, *]; done) | (simp only [exL, evG1, evG2, setL_s, setL_t, setL_0, dropL_0, dropL_c]; (repeat' split) <;> first | with_reducible rfl | contradiction | (simp_all; done)) | rfl) ?_
        refine down_ind (P := fun k64 => VV 0 0 64 [(0, .ref (sz + r)), (1, .int (nI n)), (2, .int (f 0 10)), (3, .int (f 0 8 + nI n)), (4, .int (nI k15)), (5, .int (nI k64))] [] (patch G r 7 (exL (evG2 (evG1 g (f 0 8 + nI n))) k64), T)) (6) (fun k64 hk64 ih64 => ?_) ?_
        · have ih64 : VV 0 0 64 [(0, .ref (sz + r)), (1, .int (nI n)), (2, .int (f 0 10)), (3, .int (f 0 8 + nI n)), (4, .int (nI k15)), (5, .int (nI (k64 + 1)))] [] (patch G r 7 (exL (evG2 (evG1 g (f 0 8 + nI n))) (k64 + 1)), T) := ih64
          show VV 0 0 64 [(0, .ref (sz + r)), (1, .int (nI n)), (2, .int (f 0 10)), (3, .int (f 0 8 + nI n)), (4, .int (nI k15)), (5, .int (nI k64))] [] (patch G r 7 (exL (evG2 (evG1 g (f 0 8 + nI n))) k64), T)
          refine ro_iload (i := 5) (q := 66) hX dX1_advance_64 rfl rfl ?_
          refine ro_bipush (v := nI 6) (q := 68) hX dX1_advance_66 rfl rfl ?_
          refine ro_icmp_ge (tgt := 114) (q := 71) hX dX1_advance_68 (by decide) rfl (fun q => absurd q (by first | exact ni_nle (by omega) (by omega) | exact ni_lt (by omega) (by omega))) (fun _ => ?_)
          refine ro_aload_n (i := 0) (q := 72) hX dX1_advance_71 rfl rfl rfl ?_
          refine ro_Sga (j := 0) (a := 1) (q9 := 75) ⟨by decide, rfl⟩ hX hB kf_X1_9 dX1_advance_72 rfl ?_
          refine ro_iload (i := 5) (q := 77) hX dX1_advance_75 rfl rfl ?_
          refine ro_Sald (a := 1) (n := k64) (q9 := 78) ⟨by decide, by decide⟩ hX hB rfl (show k64 < 6 from by omega) dX1_advance_77 rfl ?_
          refine ro_iconst (v := nI 2) (q := 79) hX dX1_advance_78 rfl rfl ?_
          refine ro_icmp_ne (tgt := 108) (q := 82) hX dX1_advance_79 (by decide) rfl (fun q3 => ?_) (fun q3 => ?_)
          · skip
            refine ro_iinc (i := 5) (v := nI (k64 + 1)) (q := 111) hX dX1_advance_108 rfl (ni_inc _) (Nat.le_of_ble_eq_true rfl) rfl ?_
            refine ro_goto (tgt := 64) hX dX1_advance_111 (by decide) ?_
            exact vv_LM (by first | with_reducible rfl | (simp [exL, setL_s, setL_t, setL_0, dropL_0, dropL_c, *]; done) | (simp only [exL, setL_s, setL_t, setL_0, dropL_0, dropL_c]; (repeat' split) <;> first | with_reducible rfl | contradiction | (simp_all; done)) | rfl) (by first | with_reducible rfl | (simp [exL, setL_s, setL_t, setL_0, dropL_0, dropL_c, *]; done) | (simp only [exL, setL_s, setL_t, setL_0, dropL_0, dropL_c]; (repeat' split) <;> first | with_reducible rfl | contradiction | (simp_all; done)) | rfl) ih64
          · skip
            refine ro_aload_n (i := 0) (q := 83) hX dX1_advance_82 rfl rfl rfl ?_
            refine ro_Sga (j := 2) (a := 3) (q9 := 86) ⟨by decide, rfl⟩ hX hB kf_X1_18 dX1_advance_83 rfl ?_
            refine ro_iload (i := 5) (q := 88) hX dX1_advance_86 rfl rfl ?_
            refine ro_Sald (a := 3) (n := k64) (q9 := 89) ⟨by decide, by decide⟩ hX hB rfl (show k64 < 6 from by omega) dX1_advance_88 rfl ?_
            refine ro_aload_n (i := 0) (q := 90) hX dX1_advance_89 rfl rfl rfl ?_
            refine ro_Sgi (j := 8) (q9 := 93) ⟨by decide, by decide⟩ hX hB kf_X1_37 dX1_advance_90 rfl ?_
            refine ro_icmp_ne (tgt := 108) (q := 96) hX dX1_advance_93 (by decide) rfl (fun q4 => ?_) (fun q4 => ?_)
            · skip
              refine ro_iinc (i := 5) (v := nI (k64 + 1)) (q := 111) hX dX1_advance_108 rfl (ni_inc _) (Nat.le_of_ble_eq_true rfl) rfl ?_
              refine ro_goto (tgt := 64) hX dX1_advance_111 (by decide) ?_
              exact vv_LM (by first | with_reducible rfl | (simp [exL, setL_s, setL_t, setL_0, dropL_0, dropL_c, *]; done) | (simp only [exL, setL_s, setL_t, setL_0, dropL_0, dropL_c]; (repeat' split) <;> first | with_reducible rfl | contradiction | (simp_all; done)) | rfl) (by first | with_reducible rfl | (simp [exL, setL_s, setL_t, setL_0, dropL_0, dropL_c, *]; done) | (simp only [exL, setL_s, setL_t, setL_0, dropL_0, dropL_c]; (repeat' split) <;> first | with_reducible rfl | contradiction | (simp_all; done)) | rfl) ih64
            · skip
              refine ro_aload_n (i := 0) (q := 97) hX dX1_advance_96 rfl rfl rfl ?_
              refine ro_iload (i := 5) (q := 99) hX dX1_advance_97 rfl rfl ?_
              refine ro_callVv (q9 := 102) hX (s_leave hB (by omega)) mw_X1_leave kl_X1_129 (isB_lt hB) (fun cy => cell1 (isB_kd hB).2.2.1) rfl rfl rfl (Nat.le_of_ble_eq_true rfl) ⟨Nat.le_of_ble_eq_true rfl, Nat.le_of_ble_eq_true rfl⟩ dX1_advance_99 ⟨Nat.le_of_ble_eq_true rfl, Nat.le_of_ble_eq_true rfl⟩ rfl ?_
              refine ro_aload_n (i := 0) (q := 103) hX dX1_advance_102 rfl rfl rfl ?_
              refine ro_iload (i := 5) (q := 105) hX dX1_advance_103 rfl rfl ?_
              refine ro_callVv (q9 := 108) hX (s_cancelTransferOf hB (by omega)) mw_X1_cancelTransferOf kl_X1_122 (isB_lt hB) (fun cy => cell1 (isB_kd hB).2.2.1) rfl rfl rfl (Nat.le_of_ble_eq_true rfl) ⟨Nat.le_of_ble_eq_true rfl, Nat.le_of_ble_eq_true rfl⟩ dX1_advance_105 ⟨Nat.le_of_ble_eq_true rfl, Nat.le_of_ble_eq_true rfl⟩ rfl ?_
              refine ro_iinc (i := 5) (v := nI (k64 + 1)) (q := 111) hX dX1_advance_108 rfl (ni_inc _) (Nat.le_of_ble_eq_true rfl) rfl ?_
              refine ro_goto (tgt := 64) hX dX1_advance_111 (by decide) ?_
              exact vv_LM (by first | with_reducible rfl | (simp [exL, setL_s, setL_t, setL_0, dropL_0, dropL_c, *]; done) | (simp only [exL, setL_s, setL_t, setL_0, dropL_0, dropL_c]; (repeat' split) <;> first | with_reducible rfl | contradiction | (simp_all; done)) | rfl) (by first | with_reducible rfl | (simp [exL, setL_s, setL_t, setL_0, dropL_0, dropL_c, *]; done) | (simp only [exL, setL_s, setL_t, setL_0, dropL_0, dropL_c]; (repeat' split) <;> first | with_reducible rfl | contradiction | (simp_all; done)) | rfl) ih64
        · show VV 0 0 64 [(0, .ref (sz + r)), (1, .int (nI n)), (2, .int (f 0 10)), (3, .int (f 0 8 + nI n)), (4, .int (nI k15)), (5, .int (nI 6))] [] (patch G r 7 (exL (evG2 (evG1 g (f 0 8 + nI n))) 6), T)
          refine ro_iload (i := 5) (q := 66) hX dX1_advance_64 rfl rfl ?_
          refine ro_bipush (v := nI 6) (q := 68) hX dX1_advance_66 rfl rfl ?_
          refine ro_icmp_ge (tgt := 114) (q := 71) hX dX1_advance_68 (by decide) rfl (fun _ => ?_) (fun q => absurd (by decide) q)
          refine ro_aload_n (i := 0) (q := 115) hX dX1_advance_114 rfl rfl rfl ?_
          refine ro_callVv (q9 := 118) hX (s_settle hB) mw_X1_settle kl_X1_110 (isB_lt hB) (fun cy => cell1 (isB_kd hB).2.2.1) rfl rfl rfl (Nat.le_of_ble_eq_true rfl) ⟨Nat.le_of_ble_eq_true rfl, Nat.le_of_ble_eq_true rfl⟩ dX1_advance_115 ⟨Nat.le_of_ble_eq_true rfl, Nat.le_of_ble_eq_true rfl⟩ rfl ?_
          refine ro_iinc (i := 4) (v := nI (k15 + 1)) (q := 121) hX dX1_advance_118 rfl (ni_inc _) (Nat.le_of_ble_eq_true rfl) rfl ?_
          refine ro_goto (tgt := 15) hX dX1_advance_121 (by decide) ?_
          refine ro_drop [5] hX rfl ?_
          exact vv_LM (by rfl) (by rfl) (ih15 (evG g (f 0 8 + nI n)) (by rw [← hg, avG_step (by assumption) hk15]))
      · skip
        refine ro_aload_n (i := 0) (q := 47) hX dX1_advance_46 rfl rfl rfl ?_
        refine ro_Sgi (j := 14) (q9 := 50) ⟨by decide, by decide⟩ hX hB kf_X1_55 dX1_advance_47 rfl ?_
        refine ro_aload_n (i := 0) (q := 51) hX dX1_advance_50 rfl rfl rfl ?_
        refine ro_Sgi (j := 8) (q9 := 54) ⟨by decide, by decide⟩ hX hB kf_X1_37 dX1_advance_51 rfl ?_
        refine ro_icmp_ne (tgt := 61) (q := 57) hX dX1_advance_54 (by decide) rfl (fun q5 => ?_) (fun q5 => ?_)
        · skip
          refine ro_iconst (v := nI 0) (q := 62) hX dX1_advance_61 rfl rfl ?_
          refine ro_istore (i := 5) (q := 64) hX dX1_advance_62 (Nat.le_of_ble_eq_true rfl) rfl ?_
          refine vv_LM (L' := [(0, .ref (sz + r)), (1, .int (nI n)), (2, .int (f 0 10)), (3, .int (f 0 8 + nI n)), (4, .int (nI k15)), (5, .int (nI 0))]) (M' := (patch G r 7 (exL (evG2 (evG1 g (f 0 8 + nI n))) 0), T)) (by first | with_reducible rfl | (simp [exL, evG1, evG2, setL_s, setL_t, setL_0, dropL_0, dropL_c, *]; done) | (simp only [exL, evG1, evG2, setL_s, setL_t, setL_0, dropL_0, dropL_c]; (repeat' split) <;> first | with_reducible rfl | contradiction | (simp_all; done)) | rfl) (by first | with_reducible rfl | (simp [exL, evG1, evG2, setL_s, setL_t, setL_0, dropL_0, dropL_c, *]; done) | (simp only [exL, evG1, evG2, setL_s, setL_t, setL_0, dropL_0, dropL_c]; (repeat' split) <;> first | with_reducible rfl | contradiction | (simp_all; done)) | rfl) ?_
          refine down_ind (P := fun k64 => VV 0 0 64 [(0, .ref (sz + r)), (1, .int (nI n)), (2, .int (f 0 10)), (3, .int (f 0 8 + nI n)), (4, .int (nI k15)), (5, .int (nI k64))] [] (patch G r 7 (exL (evG2 (evG1 g (f 0 8 + nI n))) k64), T)) (6) (fun k64 hk64 ih64 => ?_) ?_
          · have ih64 : VV 0 0 64 [(0, .ref (sz + r)), (1, .int (nI n)), (2, .int (f 0 10)), (3, .int (f 0 8 + nI n)), (4, .int (nI k15)), (5, .int (nI (k64 + 1)))] [] (patch G r 7 (exL (evG2 (evG1 g (f 0 8 + nI n))) (k64 + 1)), T) := ih64
            show VV 0 0 64 [(0, .ref (sz + r)), (1, .int (nI n)), (2, .int (f 0 10)), (3, .int (f 0 8 + nI n)), (4, .int (nI k15)), (5, .int (nI k64))] [] (patch G r 7 (exL (evG2 (evG1 g (f 0 8 + nI n))) k64), T)
            refine ro_iload (i := 5) (q := 66) hX dX1_advance_64 rfl rfl ?_
            refine ro_bipush (v := nI 6) (q := 68) hX dX1_advance_66 rfl rfl ?_
            refine ro_icmp_ge (tgt := 114) (q := 71) hX dX1_advance_68 (by decide) rfl (fun q => absurd q (by first | exact ni_nle (by omega) (by omega) | exact ni_lt (by omega) (by omega))) (fun _ => ?_)
            refine ro_aload_n (i := 0) (q := 72) hX dX1_advance_71 rfl rfl rfl ?_
            refine ro_Sga (j := 0) (a := 1) (q9 := 75) ⟨by decide, rfl⟩ hX hB kf_X1_9 dX1_advance_72 rfl ?_
            refine ro_iload (i := 5) (q := 77) hX dX1_advance_75 rfl rfl ?_
            refine ro_Sald (a := 1) (n := k64) (q9 := 78) ⟨by decide, by decide⟩ hX hB rfl (show k64 < 6 from by omega) dX1_advance_77 rfl ?_
            refine ro_iconst (v := nI 2) (q := 79) hX dX1_advance_78 rfl rfl ?_
            refine ro_icmp_ne (tgt := 108) (q := 82) hX dX1_advance_79 (by decide) rfl (fun q6 => ?_) (fun q6 => ?_)
            · skip
              refine ro_iinc (i := 5) (v := nI (k64 + 1)) (q := 111) hX dX1_advance_108 rfl (ni_inc _) (Nat.le_of_ble_eq_true rfl) rfl ?_
              refine ro_goto (tgt := 64) hX dX1_advance_111 (by decide) ?_
              exact vv_LM (by first | with_reducible rfl | (simp [exL, setL_s, setL_t, setL_0, dropL_0, dropL_c, *]; done) | (simp only [exL, setL_s, setL_t, setL_0, dropL_0, dropL_c]; (repeat' split) <;> first | with_reducible rfl | contradiction | (simp_all; done)) | rfl) (by first | with_reducible rfl | (simp [exL, setL_s, setL_t, setL_0, dropL_0, dropL_c, *]; done) | (simp only [exL, setL_s, setL_t, setL_0, dropL_0, dropL_c]; (repeat' split) <;> first | with_reducible rfl | contradiction | (simp_all; done)) | rfl) ih64
            · skip
              refine ro_aload_n (i := 0) (q := 83) hX dX1_advance_82 rfl rfl rfl ?_
              refine ro_Sga (j := 2) (a := 3) (q9 := 86) ⟨by decide, rfl⟩ hX hB kf_X1_18 dX1_advance_83 rfl ?_
              refine ro_iload (i := 5) (q := 88) hX dX1_advance_86 rfl rfl ?_
              refine ro_Sald (a := 3) (n := k64) (q9 := 89) ⟨by decide, by decide⟩ hX hB rfl (show k64 < 6 from by omega) dX1_advance_88 rfl ?_
              refine ro_aload_n (i := 0) (q := 90) hX dX1_advance_89 rfl rfl rfl ?_
              refine ro_Sgi (j := 8) (q9 := 93) ⟨by decide, by decide⟩ hX hB kf_X1_37 dX1_advance_90 rfl ?_
              refine ro_icmp_ne (tgt := 108) (q := 96) hX dX1_advance_93 (by decide) rfl (fun q7 => ?_) (fun q7 => ?_)
              · skip
                refine ro_iinc (i := 5) (v := nI (k64 + 1)) (q := 111) hX dX1_advance_108 rfl (ni_inc _) (Nat.le_of_ble_eq_true rfl) rfl ?_
                refine ro_goto (tgt := 64) hX dX1_advance_111 (by decide) ?_
                exact vv_LM (by first | with_reducible rfl | (simp [exL, setL_s, setL_t, setL_0, dropL_0, dropL_c, *]; done) | (simp only [exL, setL_s, setL_t, setL_0, dropL_0, dropL_c]; (repeat' split) <;> first | with_reducible rfl | contradiction | (simp_all; done)) | rfl) (by first | with_reducible rfl | (simp [exL, setL_s, setL_t, setL_0, dropL_0, dropL_c, *]; done) | (simp only [exL, setL_s, setL_t, setL_0, dropL_0, dropL_c]; (repeat' split) <;> first | with_reducible rfl | contradiction | (simp_all; done)) | rfl) ih64
              · skip
                refine ro_aload_n (i := 0) (q := 97) hX dX1_advance_96 rfl rfl rfl ?_
                refine ro_iload (i := 5) (q := 99) hX dX1_advance_97 rfl rfl ?_
                refine ro_callVv (q9 := 102) hX (s_leave hB (by omega)) mw_X1_leave kl_X1_129 (isB_lt hB) (fun cy => cell1 (isB_kd hB).2.2.1) rfl rfl rfl (Nat.le_of_ble_eq_true rfl) ⟨Nat.le_of_ble_eq_true rfl, Nat.le_of_ble_eq_true rfl⟩ dX1_advance_99 ⟨Nat.le_of_ble_eq_true rfl, Nat.le_of_ble_eq_true rfl⟩ rfl ?_
                refine ro_aload_n (i := 0) (q := 103) hX dX1_advance_102 rfl rfl rfl ?_
                refine ro_iload (i := 5) (q := 105) hX dX1_advance_103 rfl rfl ?_
                refine ro_callVv (q9 := 108) hX (s_cancelTransferOf hB (by omega)) mw_X1_cancelTransferOf kl_X1_122 (isB_lt hB) (fun cy => cell1 (isB_kd hB).2.2.1) rfl rfl rfl (Nat.le_of_ble_eq_true rfl) ⟨Nat.le_of_ble_eq_true rfl, Nat.le_of_ble_eq_true rfl⟩ dX1_advance_105 ⟨Nat.le_of_ble_eq_true rfl, Nat.le_of_ble_eq_true rfl⟩ rfl ?_
                refine ro_iinc (i := 5) (v := nI (k64 + 1)) (q := 111) hX dX1_advance_108 rfl (ni_inc _) (Nat.le_of_ble_eq_true rfl) rfl ?_
                refine ro_goto (tgt := 64) hX dX1_advance_111 (by decide) ?_
                exact vv_LM (by first | with_reducible rfl | (simp [exL, setL_s, setL_t, setL_0, dropL_0, dropL_c, *]; done) | (simp only [exL, setL_s, setL_t, setL_0, dropL_0, dropL_c]; (repeat' split) <;> first | with_reducible rfl | contradiction | (simp_all; done)) | rfl) (by first | with_reducible rfl | (simp [exL, setL_s, setL_t, setL_0, dropL_0, dropL_c, *]; done) | (simp only [exL, setL_s, setL_t, setL_0, dropL_0, dropL_c]; (repeat' split) <;> first | with_reducible rfl | contradiction | (simp_all; done)) | rfl) ih64
          · show VV 0 0 64 [(0, .ref (sz + r)), (1, .int (nI n)), (2, .int (f 0 10)), (3, .int (f 0 8 + nI n)), (4, .int (nI k15)), (5, .int (nI 6))] [] (patch G r 7 (exL (evG2 (evG1 g (f 0 8 + nI n))) 6), T)
            refine ro_iload (i := 5) (q := 66) hX dX1_advance_64 rfl rfl ?_
            refine ro_bipush (v := nI 6) (q := 68) hX dX1_advance_66 rfl rfl ?_
            refine ro_icmp_ge (tgt := 114) (q := 71) hX dX1_advance_68 (by decide) rfl (fun _ => ?_) (fun q => absurd (by decide) q)
            refine ro_aload_n (i := 0) (q := 115) hX dX1_advance_114 rfl rfl rfl ?_
            refine ro_callVv (q9 := 118) hX (s_settle hB) mw_X1_settle kl_X1_110 (isB_lt hB) (fun cy => cell1 (isB_kd hB).2.2.1) rfl rfl rfl (Nat.le_of_ble_eq_true rfl) ⟨Nat.le_of_ble_eq_true rfl, Nat.le_of_ble_eq_true rfl⟩ dX1_advance_115 ⟨Nat.le_of_ble_eq_true rfl, Nat.le_of_ble_eq_true rfl⟩ rfl ?_
            refine ro_iinc (i := 4) (v := nI (k15 + 1)) (q := 121) hX dX1_advance_118 rfl (ni_inc _) (Nat.le_of_ble_eq_true rfl) rfl ?_
            refine ro_goto (tgt := 15) hX dX1_advance_121 (by decide) ?_
            refine ro_drop [5] hX rfl ?_
            exact vv_LM (by rfl) (by rfl) (ih15 (evG g (f 0 8 + nI n)) (by rw [← hg, avG_step (by assumption) hk15]))
        · skip
          refine ro_aload_n (i := 0) (q := 58) hX dX1_advance_57 rfl rfl rfl ?_
          refine ro_callVv (q9 := 61) hX (s_completeTransfer hB) mw_X1_completeTransfer kl_X1_135 (isB_lt hB) (fun cy => cell1 (isB_kd hB).2.2.1) rfl rfl rfl (Nat.le_of_ble_eq_true rfl) ⟨Nat.le_of_ble_eq_true rfl, Nat.le_of_ble_eq_true rfl⟩ dX1_advance_58 ⟨Nat.le_of_ble_eq_true rfl, Nat.le_of_ble_eq_true rfl⟩ rfl ?_
          refine ro_iconst (v := nI 0) (q := 62) hX dX1_advance_61 rfl rfl ?_
          refine ro_istore (i := 5) (q := 64) hX dX1_advance_62 (Nat.le_of_ble_eq_true rfl) rfl ?_
          refine vv_LM (L' := [(0, .ref (sz + r)), (1, .int (nI n)), (2, .int (f 0 10)), (3, .int (f 0 8 + nI n)), (4, .int (nI k15)), (5, .int (nI 0))]) (M' := (patch G r 7 (exL (evG2 (evG1 g (f 0 8 + nI n))) 0), T)) (by first | with_reducible rfl | (simp [exL, evG1, evG2, setL_s, setL_t, setL_0, dropL_0, dropL_c, *]; done) | (simp only [exL, evG1, evG2, setL_s, setL_t, setL_0, dropL_0, dropL_c]; (repeat' split) <;> first | with_reducible rfl | contradiction | (simp_all; done)) | rfl) (by first | with_reducible rfl | (simp [exL, evG1, evG2, setL_s, setL_t, setL_0, dropL_0, dropL_c, *]; done) | (simp only [exL, evG1, evG2, setL_s, setL_t, setL_0, dropL_0, dropL_c]; (repeat' split) <;> first | with_reducible rfl | contradiction | (simp_all; done)) | rfl) ?_
          refine down_ind (P := fun k64 => VV 0 0 64 [(0, .ref (sz + r)), (1, .int (nI n)), (2, .int (f 0 10)), (3, .int (f 0 8 + nI n)), (4, .int (nI k15)), (5, .int (nI k64))] [] (patch G r 7 (exL (evG2 (evG1 g (f 0 8 + nI n))) k64), T)) (6) (fun k64 hk64 ih64 => ?_) ?_
          · have ih64 : VV 0 0 64 [(0, .ref (sz + r)), (1, .int (nI n)), (2, .int (f 0 10)), (3, .int (f 0 8 + nI n)), (4, .int (nI k15)), (5, .int (nI (k64 + 1)))] [] (patch G r 7 (exL (evG2 (evG1 g (f 0 8 + nI n))) (k64 + 1)), T) := ih64
            show VV 0 0 64 [(0, .ref (sz + r)), (1, .int (nI n)), (2, .int (f 0 10)), (3, .int (f 0 8 + nI n)), (4, .int (nI k15)), (5, .int (nI k64))] [] (patch G r 7 (exL (evG2 (evG1 g (f 0 8 + nI n))) k64), T)
            refine ro_iload (i := 5) (q := 66) hX dX1_advance_64 rfl rfl ?_
            refine ro_bipush (v := nI 6) (q := 68) hX dX1_advance_66 rfl rfl ?_
            refine ro_icmp_ge (tgt := 114) (q := 71) hX dX1_advance_68 (by decide) rfl (fun q => absurd q (by first | exact ni_nle (by omega) (by omega) | exact ni_lt (by omega) (by omega))) (fun _ => ?_)
            refine ro_aload_n (i := 0) (q := 72) hX dX1_advance_71 rfl rfl rfl ?_
            refine ro_Sga (j := 0) (a := 1) (q9 := 75) ⟨by decide, rfl⟩ hX hB kf_X1_9 dX1_advance_72 rfl ?_
            refine ro_iload (i := 5) (q := 77) hX dX1_advance_75 rfl rfl ?_
            refine ro_Sald (a := 1) (n := k64) (q9 := 78) ⟨by decide, by decide⟩ hX hB rfl (show k64 < 6 from by omega) dX1_advance_77 rfl ?_
            refine ro_iconst (v := nI 2) (q := 79) hX dX1_advance_78 rfl rfl ?_
            refine ro_icmp_ne (tgt := 108) (q := 82) hX dX1_advance_79 (by decide) rfl (fun q8 => ?_) (fun q8 => ?_)
            · skip
              refine ro_iinc (i := 5) (v := nI (k64 + 1)) (q := 111) hX dX1_advance_108 rfl (ni_inc _) (Nat.le_of_ble_eq_true rfl) rfl ?_
              refine ro_goto (tgt := 64) hX dX1_advance_111 (by decide) ?_
              exact vv_LM (by first | with_reducible rfl | (simp [exL, setL_s, setL_t, setL_0, dropL_0, dropL_c, *]; done) | (simp only [exL, setL_s, setL_t, setL_0, dropL_0, dropL_c]; (repeat' split) <;> first | with_reducible rfl | contradiction | (simp_all; done)) | rfl) (by first | with_reducible rfl | (simp [exL, setL_s, setL_t, setL_0, dropL_0, dropL_c, *]; done) | (simp only [exL, setL_s, setL_t, setL_0, dropL_0, dropL_c]; (repeat' split) <;> first | with_reducible rfl | contradiction | (simp_all; done)) | rfl) ih64
            · skip
              refine ro_aload_n (i := 0) (q := 83) hX dX1_advance_82 rfl rfl rfl ?_
              refine ro_Sga (j := 2) (a := 3) (q9 := 86) ⟨by decide, rfl⟩ hX hB kf_X1_18 dX1_advance_83 rfl ?_
              refine ro_iload (i := 5) (q := 88) hX dX1_advance_86 rfl rfl ?_
              refine ro_Sald (a := 3) (n := k64) (q9 := 89) ⟨by decide, by decide⟩ hX hB rfl (show k64 < 6 from by omega) dX1_advance_88 rfl ?_
              refine ro_aload_n (i := 0) (q := 90) hX dX1_advance_89 rfl rfl rfl ?_
              refine ro_Sgi (j := 8) (q9 := 93) ⟨by decide, by decide⟩ hX hB kf_X1_37 dX1_advance_90 rfl ?_
              refine ro_icmp_ne (tgt := 108) (q := 96) hX dX1_advance_93 (by decide) rfl (fun q9 => ?_) (fun q9 => ?_)
              · skip
                refine ro_iinc (i := 5) (v := nI (k64 + 1)) (q := 111) hX dX1_advance_108 rfl (ni_inc _) (Nat.le_of_ble_eq_true rfl) rfl ?_
                refine ro_goto (tgt := 64) hX dX1_advance_111 (by decide) ?_
                exact vv_LM (by first | with_reducible rfl | (simp [exL, setL_s, setL_t, setL_0, dropL_0, dropL_c, *]; done) | (simp only [exL, setL_s, setL_t, setL_0, dropL_0, dropL_c]; (repeat' split) <;> first | with_reducible rfl | contradiction | (simp_all; done)) | rfl) (by first | with_reducible rfl | (simp [exL, setL_s, setL_t, setL_0, dropL_0, dropL_c, *]; done) | (simp only [exL, setL_s, setL_t, setL_0, dropL_0, dropL_c]; (repeat' split) <;> first | with_reducible rfl | contradiction | (simp_all; done)) | rfl) ih64
              · skip
                refine ro_aload_n (i := 0) (q := 97) hX dX1_advance_96 rfl rfl rfl ?_
                refine ro_iload (i := 5) (q := 99) hX dX1_advance_97 rfl rfl ?_
                refine ro_callVv (q9 := 102) hX (s_leave hB (by omega)) mw_X1_leave kl_X1_129 (isB_lt hB) (fun cy => cell1 (isB_kd hB).2.2.1) rfl rfl rfl (Nat.le_of_ble_eq_true rfl) ⟨Nat.le_of_ble_eq_true rfl, Nat.le_of_ble_eq_true rfl⟩ dX1_advance_99 ⟨Nat.le_of_ble_eq_true rfl, Nat.le_of_ble_eq_true rfl⟩ rfl ?_
                refine ro_aload_n (i := 0) (q := 103) hX dX1_advance_102 rfl rfl rfl ?_
                refine ro_iload (i := 5) (q := 105) hX dX1_advance_103 rfl rfl ?_
                refine ro_callVv (q9 := 108) hX (s_cancelTransferOf hB (by omega)) mw_X1_cancelTransferOf kl_X1_122 (isB_lt hB) (fun cy => cell1 (isB_kd hB).2.2.1) rfl rfl rfl (Nat.le_of_ble_eq_true rfl) ⟨Nat.le_of_ble_eq_true rfl, Nat.le_of_ble_eq_true rfl⟩ dX1_advance_105 ⟨Nat.le_of_ble_eq_true rfl, Nat.le_of_ble_eq_true rfl⟩ rfl ?_
                refine ro_iinc (i := 5) (v := nI (k64 + 1)) (q := 111) hX dX1_advance_108 rfl (ni_inc _) (Nat.le_of_ble_eq_true rfl) rfl ?_
                refine ro_goto (tgt := 64) hX dX1_advance_111 (by decide) ?_
                exact vv_LM (by first | with_reducible rfl | (simp [exL, setL_s, setL_t, setL_0, dropL_0, dropL_c, *]; done) | (simp only [exL, setL_s, setL_t, setL_0, dropL_0, dropL_c]; (repeat' split) <;> first | with_reducible rfl | contradiction | (simp_all; done)) | rfl) (by first | with_reducible rfl | (simp [exL, setL_s, setL_t, setL_0, dropL_0, dropL_c, *]; done) | (simp only [exL, setL_s, setL_t, setL_0, dropL_0, dropL_c]; (repeat' split) <;> first | with_reducible rfl | contradiction | (simp_all; done)) | rfl) ih64
          · show VV 0 0 64 [(0, .ref (sz + r)), (1, .int (nI n)), (2, .int (f 0 10)), (3, .int (f 0 8 + nI n)), (4, .int (nI k15)), (5, .int (nI 6))] [] (patch G r 7 (exL (evG2 (evG1 g (f 0 8 + nI n))) 6), T)
            refine ro_iload (i := 5) (q := 66) hX dX1_advance_64 rfl rfl ?_
            refine ro_bipush (v := nI 6) (q := 68) hX dX1_advance_66 rfl rfl ?_
            refine ro_icmp_ge (tgt := 114) (q := 71) hX dX1_advance_68 (by decide) rfl (fun _ => ?_) (fun q => absurd (by decide) q)
            refine ro_aload_n (i := 0) (q := 115) hX dX1_advance_114 rfl rfl rfl ?_
            refine ro_callVv (q9 := 118) hX (s_settle hB) mw_X1_settle kl_X1_110 (isB_lt hB) (fun cy => cell1 (isB_kd hB).2.2.1) rfl rfl rfl (Nat.le_of_ble_eq_true rfl) ⟨Nat.le_of_ble_eq_true rfl, Nat.le_of_ble_eq_true rfl⟩ dX1_advance_115 ⟨Nat.le_of_ble_eq_true rfl, Nat.le_of_ble_eq_true rfl⟩ rfl ?_
            refine ro_iinc (i := 4) (v := nI (k15 + 1)) (q := 121) hX dX1_advance_118 rfl (ni_inc _) (Nat.le_of_ble_eq_true rfl) rfl ?_
            refine ro_goto (tgt := 15) hX dX1_advance_121 (by decide) ?_
            refine ro_drop [5] hX rfl ?_
            exact vv_LM (by rfl) (by rfl) (ih15 (evG g (f 0 8 + nI n)) (by rw [← hg, avG_step (by assumption) hk15]))
  · show VV 0 0 15 [(0, .ref (sz + r)), (1, .int (nI n)), (2, .int (f 0 10)), (3, .int (f 0 8 + nI n)), (4, .int (nI n))] [] (patch G r 7 g, T)
    refine ro_iload (i := 4) (q := 17) hX dX1_advance_15 rfl rfl ?_
    refine ro_iload_n (i := 1) (q := 18) hX dX1_advance_17 rfl rfl rfl ?_
    refine ro_icmp_ge (tgt := 124) (q := 21) hX dX1_advance_18 (by decide) rfl (fun _ => ?_) (fun q => absurd (by first | exact ni_le (by omega) (by omega) | exact ni_nlt (by omega) (by omega)) q)
    refine ro_aload_n (i := 0) (q := 125) hX dX1_advance_124 rfl rfl rfl ?_
    refine ro_Sgi (j := 10) (q9 := 128) ⟨by decide, by decide⟩ hX hB kf_X1_43 dX1_advance_125 rfl ?_
    refine ro_iload_n (i := 2) (q := 129) hX dX1_advance_128 rfl rfl rfl ?_
    refine ro_isub (q := 130) hX dX1_advance_129 rfl ?_
    exact fin_i hF (Nat.le_of_ble_eq_true rfl) (Nat.le_of_ble_eq_true rfl) dX1_advance_130 (by first | (rw [← hg, avG_stop (by assumption)]) | (rw [← hg, Nat.sub_self]; rfl)) (by first | (rw [← hg, avG_stop (by assumption)]) | (rw [← hg, Nat.sub_self]; rfl))
set_option maxRecDepth 20000 in
set_option maxHeartbeats 2000000 in
theorem s_copy {r1 r2 : Nat} (h1 : isB r1) (h2 : isB r2) (hn : r1 ≠ r2) : Does sz I_X1_copy [.ref (sz + r1), .ref (sz + r2)] (G, T) 0 0 (.inl none) (patch G r2 7 (view G r1), T) := by
  refine Does.of (L := [(0, .ref (sz + r1)), (1, .ref (sz + r2))]) (by decide +kernel) (Nat.le_of_ble_eq_true rfl) rfl ⟨rfl, (by simp), ⟨rfl, (by simp), trivial⟩⟩ (fun VV hF => ?_)
  have hX := hF.c
  have ap := isB_apart h1 h2 hn
  have b1 := (isB_kd h1).1
  have b2 := (isB_kd h2).1
  refine ro_aload_n (i := 0) (q := 1) hX dX1_copy_0 rfl rfl rfl ?_
  refine ro_ifnull (q := 4) hX dX1_copy_1 rfl ?_
  refine ro_aload_n (i := 1) (q := 5) hX dX1_copy_4 rfl rfl rfl ?_
  refine ro_ifnonnull (tgt := 9) hX dX1_copy_5 (by decide) ?_
  refine ro_aload_n (i := 0) (q := 10) hX dX1_copy_9 rfl rfl rfl ?_
  refine ro_Gga (j := 0) (a := 1) (q9 := 13) ⟨by decide, rfl⟩ hX h1 kf_X1_9 dX1_copy_10 rfl ?_
  refine ro_iconst (v := nI 0) (q := 14) hX dX1_copy_13 rfl rfl ?_
  refine ro_aload_n (i := 1) (q := 15) hX dX1_copy_14 rfl rfl rfl ?_
  refine ro_Gga (j := 0) (a := 1) (q9 := 18) ⟨by decide, rfl⟩ hX h2 kf_X1_9 dX1_copy_15 rfl ?_
  refine ro_iconst (v := nI 0) (q := 19) hX dX1_copy_18 rfl rfl ?_
  refine ro_bipush (v := nI 6) (q := 21) hX dX1_copy_19 rfl rfl ?_
  refine ro_copy (k1 := r1 + 1) (k2 := r2 + 1) (N := 6) (q9 := 24) hX (isB_arr h1 ⟨by decide, by decide⟩).1 (isB_arr h2 ⟨by decide, by decide⟩).1 (isB_arr h1 ⟨by decide, by decide⟩).2.1 (isB_arr h2 ⟨by decide, by decide⟩).2.1 (isB_arr h1 ⟨by decide, by decide⟩).2.2 (isB_arr h2 ⟨by decide, by decide⟩).2.2 (by decide) kl_X1_58 acNat acSta acIni (Nat.le_of_ble_eq_true rfl) (Nat.le_of_ble_eq_true rfl) dX1_copy_21 rfl ?_
  refine ro_aload_n (i := 0) (q := 25) hX dX1_copy_24 rfl rfl rfl ?_
  refine ro_Gga (j := 1) (a := 2) (q9 := 28) ⟨by decide, rfl⟩ hX h1 kf_X1_15 dX1_copy_25 rfl ?_
  refine ro_iconst (v := nI 0) (q := 29) hX dX1_copy_28 rfl rfl ?_
  refine ro_aload_n (i := 1) (q := 30) hX dX1_copy_29 rfl rfl rfl ?_
  refine ro_Gga (j := 1) (a := 2) (q9 := 33) ⟨by decide, rfl⟩ hX h2 kf_X1_15 dX1_copy_30 rfl ?_
  refine ro_iconst (v := nI 0) (q := 34) hX dX1_copy_33 rfl rfl ?_
  refine ro_bipush (v := nI 6) (q := 36) hX dX1_copy_34 rfl rfl ?_
  refine ro_copy (k1 := r1 + 2) (k2 := r2 + 2) (N := 6) (q9 := 39) hX (isB_arr h1 ⟨by decide, by decide⟩).1 (isB_arr h2 ⟨by decide, by decide⟩).1 (isB_arr h1 ⟨by decide, by decide⟩).2.1 (isB_arr h2 ⟨by decide, by decide⟩).2.1 (isB_arr h1 ⟨by decide, by decide⟩).2.2 (isB_arr h2 ⟨by decide, by decide⟩).2.2 (by decide) kl_X1_58 acNat acSta acIni (Nat.le_of_ble_eq_true rfl) (Nat.le_of_ble_eq_true rfl) dX1_copy_36 rfl ?_
  refine ro_aload_n (i := 0) (q := 40) hX dX1_copy_39 rfl rfl rfl ?_
  refine ro_Gga (j := 2) (a := 3) (q9 := 43) ⟨by decide, rfl⟩ hX h1 kf_X1_18 dX1_copy_40 rfl ?_
  refine ro_iconst (v := nI 0) (q := 44) hX dX1_copy_43 rfl rfl ?_
  refine ro_aload_n (i := 1) (q := 45) hX dX1_copy_44 rfl rfl rfl ?_
  refine ro_Gga (j := 2) (a := 3) (q9 := 48) ⟨by decide, rfl⟩ hX h2 kf_X1_18 dX1_copy_45 rfl ?_
  refine ro_iconst (v := nI 0) (q := 49) hX dX1_copy_48 rfl rfl ?_
  refine ro_bipush (v := nI 6) (q := 51) hX dX1_copy_49 rfl rfl ?_
  refine ro_copy (k1 := r1 + 3) (k2 := r2 + 3) (N := 6) (q9 := 54) hX (isB_arr h1 ⟨by decide, by decide⟩).1 (isB_arr h2 ⟨by decide, by decide⟩).1 (isB_arr h1 ⟨by decide, by decide⟩).2.1 (isB_arr h2 ⟨by decide, by decide⟩).2.1 (isB_arr h1 ⟨by decide, by decide⟩).2.2 (isB_arr h2 ⟨by decide, by decide⟩).2.2 (by decide) kl_X1_58 acNat acSta acIni (Nat.le_of_ble_eq_true rfl) (Nat.le_of_ble_eq_true rfl) dX1_copy_51 rfl ?_
  refine ro_aload_n (i := 0) (q := 55) hX dX1_copy_54 rfl rfl rfl ?_
  refine ro_Gga (j := 3) (a := 4) (q9 := 58) ⟨by decide, rfl⟩ hX h1 kf_X1_21 dX1_copy_55 rfl ?_
  refine ro_iconst (v := nI 0) (q := 59) hX dX1_copy_58 rfl rfl ?_
  refine ro_aload_n (i := 1) (q := 60) hX dX1_copy_59 rfl rfl rfl ?_
  refine ro_Gga (j := 3) (a := 4) (q9 := 63) ⟨by decide, rfl⟩ hX h2 kf_X1_21 dX1_copy_60 rfl ?_
  refine ro_iconst (v := nI 0) (q := 64) hX dX1_copy_63 rfl rfl ?_
  refine ro_bipush (v := nI 6) (q := 66) hX dX1_copy_64 rfl rfl ?_
  refine ro_copy (k1 := r1 + 4) (k2 := r2 + 4) (N := 6) (q9 := 69) hX (isB_arr h1 ⟨by decide, by decide⟩).1 (isB_arr h2 ⟨by decide, by decide⟩).1 (isB_arr h1 ⟨by decide, by decide⟩).2.1 (isB_arr h2 ⟨by decide, by decide⟩).2.1 (isB_arr h1 ⟨by decide, by decide⟩).2.2 (isB_arr h2 ⟨by decide, by decide⟩).2.2 (by decide) kl_X1_58 acNat acSta acIni (Nat.le_of_ble_eq_true rfl) (Nat.le_of_ble_eq_true rfl) dX1_copy_66 rfl ?_
  refine ro_aload_n (i := 0) (q := 70) hX dX1_copy_69 rfl rfl rfl ?_
  refine ro_Gga (j := 4) (a := 5) (q9 := 73) ⟨by decide, rfl⟩ hX h1 kf_X1_24 dX1_copy_70 rfl ?_
  refine ro_iconst (v := nI 0) (q := 74) hX dX1_copy_73 rfl rfl ?_
  refine ro_aload_n (i := 1) (q := 75) hX dX1_copy_74 rfl rfl rfl ?_
  refine ro_Gga (j := 4) (a := 5) (q9 := 78) ⟨by decide, rfl⟩ hX h2 kf_X1_24 dX1_copy_75 rfl ?_
  refine ro_iconst (v := nI 0) (q := 79) hX dX1_copy_78 rfl rfl ?_
  refine ro_bipush (v := nI 6) (q := 81) hX dX1_copy_79 rfl rfl ?_
  refine ro_copy (k1 := r1 + 5) (k2 := r2 + 5) (N := 6) (q9 := 84) hX (isB_arr h1 ⟨by decide, by decide⟩).1 (isB_arr h2 ⟨by decide, by decide⟩).1 (isB_arr h1 ⟨by decide, by decide⟩).2.1 (isB_arr h2 ⟨by decide, by decide⟩).2.1 (isB_arr h1 ⟨by decide, by decide⟩).2.2 (isB_arr h2 ⟨by decide, by decide⟩).2.2 (by decide) kl_X1_58 acNat acSta acIni (Nat.le_of_ble_eq_true rfl) (Nat.le_of_ble_eq_true rfl) dX1_copy_81 rfl ?_
  refine ro_aload_n (i := 0) (q := 85) hX dX1_copy_84 rfl rfl rfl ?_
  refine ro_Gga (j := 5) (a := 6) (q9 := 88) ⟨by decide, rfl⟩ hX h1 kf_X1_27 dX1_copy_85 rfl ?_
  refine ro_iconst (v := nI 0) (q := 89) hX dX1_copy_88 rfl rfl ?_
  refine ro_aload_n (i := 1) (q := 90) hX dX1_copy_89 rfl rfl rfl ?_
  refine ro_Gga (j := 5) (a := 6) (q9 := 93) ⟨by decide, rfl⟩ hX h2 kf_X1_27 dX1_copy_90 rfl ?_
  refine ro_iconst (v := nI 0) (q := 94) hX dX1_copy_93 rfl rfl ?_
  refine ro_bipush (v := nI 30) (q := 96) hX dX1_copy_94 rfl rfl ?_
  refine ro_copy (k1 := r1 + 6) (k2 := r2 + 6) (N := 30) (q9 := 99) hX (isB_arr h1 ⟨by decide, by decide⟩).1 (isB_arr h2 ⟨by decide, by decide⟩).1 (isB_arr h1 ⟨by decide, by decide⟩).2.1 (isB_arr h2 ⟨by decide, by decide⟩).2.1 (isB_arr h1 ⟨by decide, by decide⟩).2.2 (isB_arr h2 ⟨by decide, by decide⟩).2.2 (by decide) kl_X1_58 acNat acSta acIni (Nat.le_of_ble_eq_true rfl) (Nat.le_of_ble_eq_true rfl) dX1_copy_96 rfl ?_
  refine ro_aload_n (i := 1) (q := 100) hX dX1_copy_99 rfl rfl rfl ?_
  refine ro_aload_n (i := 0) (q := 101) hX dX1_copy_100 rfl rfl rfl ?_
  refine ro_Ggi (j := 6) (q9 := 104) ⟨by decide, by decide⟩ hX h1 kf_X1_30 dX1_copy_101 rfl ?_
  refine ro_Gpi (j := 6) (q9 := 107) ⟨by decide, by decide⟩ hX h2 kf_X1_30 dX1_copy_104 rfl ?_
  refine ro_aload_n (i := 1) (q := 108) hX dX1_copy_107 rfl rfl rfl ?_
  refine ro_aload_n (i := 0) (q := 109) hX dX1_copy_108 rfl rfl rfl ?_
  refine ro_Ggi (j := 7) (q9 := 112) ⟨by decide, by decide⟩ hX h1 kf_X1_34 dX1_copy_109 rfl ?_
  refine ro_Gpi (j := 7) (q9 := 115) ⟨by decide, by decide⟩ hX h2 kf_X1_34 dX1_copy_112 rfl ?_
  refine ro_aload_n (i := 1) (q := 116) hX dX1_copy_115 rfl rfl rfl ?_
  refine ro_aload_n (i := 0) (q := 117) hX dX1_copy_116 rfl rfl rfl ?_
  refine ro_Ggi (j := 8) (q9 := 120) ⟨by decide, by decide⟩ hX h1 kf_X1_37 dX1_copy_117 rfl ?_
  refine ro_Gpi (j := 8) (q9 := 123) ⟨by decide, by decide⟩ hX h2 kf_X1_37 dX1_copy_120 rfl ?_
  refine ro_aload_n (i := 1) (q := 124) hX dX1_copy_123 rfl rfl rfl ?_
  refine ro_aload_n (i := 0) (q := 125) hX dX1_copy_124 rfl rfl rfl ?_
  refine ro_Ggi (j := 9) (q9 := 128) ⟨by decide, by decide⟩ hX h1 kf_X1_40 dX1_copy_125 rfl ?_
  refine ro_Gpi (j := 9) (q9 := 131) ⟨by decide, by decide⟩ hX h2 kf_X1_40 dX1_copy_128 rfl ?_
  refine ro_aload_n (i := 1) (q := 132) hX dX1_copy_131 rfl rfl rfl ?_
  refine ro_aload_n (i := 0) (q := 133) hX dX1_copy_132 rfl rfl rfl ?_
  refine ro_Ggi (j := 10) (q9 := 136) ⟨by decide, by decide⟩ hX h1 kf_X1_43 dX1_copy_133 rfl ?_
  refine ro_Gpi (j := 10) (q9 := 139) ⟨by decide, by decide⟩ hX h2 kf_X1_43 dX1_copy_136 rfl ?_
  refine ro_aload_n (i := 1) (q := 140) hX dX1_copy_139 rfl rfl rfl ?_
  refine ro_aload_n (i := 0) (q := 141) hX dX1_copy_140 rfl rfl rfl ?_
  refine ro_Ggi (j := 11) (q9 := 144) ⟨by decide, by decide⟩ hX h1 kf_X1_46 dX1_copy_141 rfl ?_
  refine ro_Gpi (j := 11) (q9 := 147) ⟨by decide, by decide⟩ hX h2 kf_X1_46 dX1_copy_144 rfl ?_
  refine ro_aload_n (i := 1) (q := 148) hX dX1_copy_147 rfl rfl rfl ?_
  refine ro_aload_n (i := 0) (q := 149) hX dX1_copy_148 rfl rfl rfl ?_
  refine ro_Ggi (j := 12) (q9 := 152) ⟨by decide, by decide⟩ hX h1 kf_X1_49 dX1_copy_149 rfl ?_
  refine ro_Gpi (j := 12) (q9 := 155) ⟨by decide, by decide⟩ hX h2 kf_X1_49 dX1_copy_152 rfl ?_
  refine ro_aload_n (i := 1) (q := 156) hX dX1_copy_155 rfl rfl rfl ?_
  refine ro_aload_n (i := 0) (q := 157) hX dX1_copy_156 rfl rfl rfl ?_
  refine ro_Ggi (j := 13) (q9 := 160) ⟨by decide, by decide⟩ hX h1 kf_X1_52 dX1_copy_157 rfl ?_
  refine ro_Gpi (j := 13) (q9 := 163) ⟨by decide, by decide⟩ hX h2 kf_X1_52 dX1_copy_160 rfl ?_
  refine ro_aload_n (i := 1) (q := 164) hX dX1_copy_163 rfl rfl rfl ?_
  refine ro_aload_n (i := 0) (q := 165) hX dX1_copy_164 rfl rfl rfl ?_
  refine ro_Ggi (j := 14) (q9 := 168) ⟨by decide, by decide⟩ hX h1 kf_X1_55 dX1_copy_165 rfl ?_
  refine ro_Gpi (j := 14) (q9 := 171) ⟨by decide, by decide⟩ hX h2 kf_X1_55 dX1_copy_168 rfl ?_
  refine vv_rel (G' := patch G r2 7 (view G r1)) hX (fun k hk => ?_) ?_
  · rcases Nat.lt_or_ge k r2 with hlt | hge
    · left; funext j; simp [put_at, setRow_at, patch, show ¬ r2 ≤ k by omega, show ∀ b, ¬ k = r2 + b from fun b => by omega, show ¬ k = r2 by omega]
    · rcases Nat.lt_or_ge k (r2 + 7) with hl7 | hg7
      · obtain ⟨a, rfl⟩ : ∃ a, k = r2 + a := ⟨k - r2, by omega⟩
        have ha : a = 0 ∨ a = 1 ∨ a = 2 ∨ a = 3 ∨ a = 4 ∨ a = 5 ∨ a = 6 := by omega
        have e1 : ∀ b c, b < 7 → c < 7 → ¬ r1 + b = r2 + c := fun b c hb hc => by omega
        have e2 : ∀ c, c < 7 → ¬ r1 = r2 + c := fun c hc => by omega
        have e3 : ∀ b, b < 7 → ¬ r1 + b = r2 := fun b hc => by omega
        have e4 : ¬ r1 = r2 := hn
        rcases ha with rfl | rfl | rfl | rfl | rfl | rfl | rfl
        · refine Or.inr (Or.inl ⟨(isB_kd h2).2.2.1, fun j hj1 hj2 => ?_⟩)
          have hj : j = 6 ∨ j = 7 ∨ j = 8 ∨ j = 9 ∨ j = 10 ∨ j = 11 ∨ j = 12 ∨ j = 13 ∨ j = 14 := by omega
          rw [patch_in (g := G) (f := view G r1) (by decide)]
          rcases hj with rfl | rfl | rfl | rfl | rfl | rfl | rfl | rfl | rfl <;> simp [put_at, setRow_at, view, e1, e2, e3, e4]
        · refine Or.inr (Or.inr ⟨(isB_arr h2 ⟨by decide, by decide⟩).2.1, fun j hj => ?_⟩)
          rw [(isB_arr h2 ⟨by decide, by decide⟩).2.2] at hj
          have hj : j < 6 := hj
          rw [patch_in (g := G) (f := view G r1) (by decide)]
          simp [put_at, setRow_at, view, va_cpy, hj, e1, e2, e3, e4]
        · refine Or.inr (Or.inr ⟨(isB_arr h2 ⟨by decide, by decide⟩).2.1, fun j hj => ?_⟩)
          rw [(isB_arr h2 ⟨by decide, by decide⟩).2.2] at hj
          have hj : j < 6 := hj
          rw [patch_in (g := G) (f := view G r1) (by decide)]
          simp [put_at, setRow_at, view, va_cpy, hj, e1, e2, e3, e4]
        · refine Or.inr (Or.inr ⟨(isB_arr h2 ⟨by decide, by decide⟩).2.1, fun j hj => ?_⟩)
          rw [(isB_arr h2 ⟨by decide, by decide⟩).2.2] at hj
          have hj : j < 6 := hj
          rw [patch_in (g := G) (f := view G r1) (by decide)]
          simp [put_at, setRow_at, view, va_cpy, hj, e1, e2, e3, e4]
        · refine Or.inr (Or.inr ⟨(isB_arr h2 ⟨by decide, by decide⟩).2.1, fun j hj => ?_⟩)
          rw [(isB_arr h2 ⟨by decide, by decide⟩).2.2] at hj
          have hj : j < 6 := hj
          rw [patch_in (g := G) (f := view G r1) (by decide)]
          simp [put_at, setRow_at, view, va_cpy, hj, e1, e2, e3, e4]
        · refine Or.inr (Or.inr ⟨(isB_arr h2 ⟨by decide, by decide⟩).2.1, fun j hj => ?_⟩)
          rw [(isB_arr h2 ⟨by decide, by decide⟩).2.2] at hj
          have hj : j < 6 := hj
          rw [patch_in (g := G) (f := view G r1) (by decide)]
          simp [put_at, setRow_at, view, va_cpy, hj, e1, e2, e3, e4]
        · refine Or.inr (Or.inr ⟨(isB_arr h2 ⟨by decide, by decide⟩).2.1, fun j hj => ?_⟩)
          rw [(isB_arr h2 ⟨by decide, by decide⟩).2.2] at hj
          have hj : j < 30 := hj
          rw [patch_in (g := G) (f := view G r1) (by decide)]
          simp [put_at, setRow_at, view, va_cpy, hj, e1, e2, e3, e4]
      · left; funext j; simp [put_at, setRow_at, patch, show ¬ k < r2 + 7 by omega, show ∀ b, b < 7 → ¬ k = r2 + b from fun b hb => by omega, show ¬ k = r2 by omega]
  exact fin_v hF (Nat.le_of_ble_eq_true rfl) (Nat.le_of_ble_eq_true rfl) dX1_copy_171 (by rfl)
end
