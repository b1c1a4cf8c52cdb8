section
variable {sz r : Nat} {G : Nat → Nat → Int32} {T : (Nat → Nat) × Int64} {f : SV}
set_option maxRecDepth 20000 in
set_option maxHeartbeats 2000000 in
theorem s_rankOf (hB : isB r) {h : Nat} (hh : h < 6) {x : Int32} : Does sz I_X1_rankOf [.ref (sz + r), .int (nI h), .int x] (patch G r 7 f, T) 0 0 (.inl (some (rkS f h x))) (patch G r 7 f, T) := by
  refine Does.of (L := [(0, .ref (sz + r)), (1, .int (nI h)), (2, .int x)]) (by decide +kernel) (Nat.le_of_ble_eq_true rfl) rfl ⟨rfl, (by simp), ⟨rfl, (by simp), ⟨rfl, (by simp), trivial⟩⟩⟩ (fun VV hF => ?_)
  have hX := hF.c
  refine ro_iload_n (i := 2) (q := 1) hX dX1_rankOf_0 rfl rfl rfl ?_
  refine ro_iload_n (i := 1) (q := 2) hX dX1_rankOf_1 rfl rfl rfl ?_
  refine ro_callSNi (q9 := 5) hX (s_has) mw_X2_has kl_X1_68 rfl rfl (Nat.le_of_ble_eq_true rfl) ⟨Nat.le_of_ble_eq_true rfl, Nat.le_of_ble_eq_true rfl⟩ dX1_rankOf_2 ⟨Nat.le_of_ble_eq_true rfl, Nat.le_of_ble_eq_true rfl⟩ rfl ?_
  refine ro_ifb_eq (tgt := 15) (q := 8) hX dX1_rankOf_5 (by decide) rfl (fun q1 => ?_) (fun q1 => ?_)
  · skip
    refine ro_ldc (v := nI 90000000) (q := 17) hX kc_X1_141 dX1_rankOf_15 rfl ?_
    exact fin_i hF (Nat.le_of_ble_eq_true rfl) (Nat.le_of_ble_eq_true rfl) dX1_rankOf_17 (by first | with_reducible rfl | (simp [rkS, bitP, setL_s, setL_t, setL_0, dropL_0, dropL_c, *]; done) | (simp only [rkS, bitP, setL_s, setL_t, setL_0, dropL_0, dropL_c]; (repeat' split) <;> first | with_reducible rfl | contradiction | (simp_all; done)) | rfl) (by first | with_reducible rfl | (simp [rkS, bitP, setL_s, setL_t, setL_0, dropL_0, dropL_c, *]; done) | (simp only [rkS, bitP, setL_s, setL_t, setL_0, dropL_0, dropL_c]; (repeat' split) <;> first | with_reducible rfl | contradiction | (simp_all; done)) | rfl)
  · skip
    refine ro_iload_n (i := 1) (q := 9) hX dX1_rankOf_8 rfl rfl rfl ?_
    refine ro_callSi (q9 := 12) hX (s_isHost_t (by omega)) mw_X1_isHost kl_X1_82 rfl rfl (Nat.le_of_ble_eq_true rfl) ⟨Nat.le_of_ble_eq_true rfl, Nat.le_of_ble_eq_true rfl⟩ dX1_rankOf_9 ⟨Nat.le_of_ble_eq_true rfl, Nat.le_of_ble_eq_true rfl⟩ rfl ?_
    refine ro_if_ne (tgt := 18) (q := 15) hX dX1_rankOf_12 (by decide) rfl (fun _ => ?_) (fun q => absurd q (by decide))
    refine ro_iload_n (i := 2) (q := 19) hX dX1_rankOf_18 rfl rfl rfl ?_
    refine ro_iconst (v := nI 1) (q := 20) hX dX1_rankOf_19 rfl rfl ?_
    refine ro_iload_n (i := 1) (q := 21) hX dX1_rankOf_20 rfl rfl rfl ?_
    refine ro_ishl (q := 22) hX dX1_rankOf_21 rfl ?_
    refine ro_icmp_ne (tgt := 29) (q := 25) hX dX1_rankOf_22 (by decide) rfl (fun q2 => ?_) (fun q2 => ?_)
    · skip
      refine ro_iconst (v := nI 0) (q := 30) hX dX1_rankOf_29 rfl rfl ?_
      refine ro_istore_n (i := 3) (q := 31) hX dX1_rankOf_30 rfl (Nat.le_of_ble_eq_true rfl) rfl ?_
      refine ro_aload_n (i := 0) (q := 32) hX dX1_rankOf_31 rfl rfl rfl ?_
      refine ro_Sga (j := 0) (a := 1) (q9 := 35) ⟨by decide, rfl⟩ hX hB kf_X1_9 dX1_rankOf_32 rfl ?_
      refine ro_iload_n (i := 1) (q := 36) hX dX1_rankOf_35 rfl rfl rfl ?_
      refine ro_Sald (a := 1) (n := h) (q9 := 37) ⟨by decide, by decide⟩ hX hB rfl (show h < 6 from by omega) dX1_rankOf_36 rfl ?_
      refine ro_iconst (v := nI 2) (q := 38) hX dX1_rankOf_37 rfl rfl ?_
      refine ro_icmp_ne (tgt := 61) (q := 41) hX dX1_rankOf_38 (by decide) rfl (fun q3 => ?_) (fun q3 => ?_)
      · skip
        refine ro_iload_n (i := 3) (q := 62) hX dX1_rankOf_61 rfl rfl rfl ?_
        refine ro_if_eq (tgt := 70) (q := 65) hX dX1_rankOf_62 (by decide) rfl (fun _ => ?_) (fun q => absurd (by decide) q)
        refine ro_ldc (v := nI 90000000) (q := 72) hX kc_X1_141 dX1_rankOf_70 rfl ?_
        exact fin_i hF (Nat.le_of_ble_eq_true rfl) (Nat.le_of_ble_eq_true rfl) dX1_rankOf_72 (by first | with_reducible rfl | (simp [rkS, bitP, setL_s, setL_t, setL_0, dropL_0, dropL_c, *]; done) | (simp only [rkS, bitP, setL_s, setL_t, setL_0, dropL_0, dropL_c]; (repeat' split) <;> first | with_reducible rfl | contradiction | (simp_all; done)) | rfl) (by first | with_reducible rfl | (simp [rkS, bitP, setL_s, setL_t, setL_0, dropL_0, dropL_c, *]; done) | (simp only [rkS, bitP, setL_s, setL_t, setL_0, dropL_0, dropL_c]; (repeat' split) <;> first | with_reducible rfl | contradiction | (simp_all; done)) | rfl)
      · skip
        refine ro_iload_n (i := 3) (q := 42) hX dX1_rankOf_41 rfl rfl rfl ?_
        refine ro_if_eq (tgt := 49) (q := 45) hX dX1_rankOf_42 (by decide) rfl (fun _ => ?_) (fun q => absurd (by decide) q)
        refine ro_iconst (v := nI 3) (q := 50) hX dX1_rankOf_49 rfl rfl ?_
        refine ro_ldc (v := nI 10000000) (q := 52) hX kc_X1_146 dX1_rankOf_50 rfl ?_
        refine ro_imul (q := 53) hX dX1_rankOf_52 rfl ?_
        refine vv_top (y := nI 30000000) (nI_mul' rfl rfl) ?_
        refine ro_aload_n (i := 0) (q := 54) hX dX1_rankOf_53 rfl rfl rfl ?_
        refine ro_Sga (j := 2) (a := 3) (q9 := 57) ⟨by decide, rfl⟩ hX hB kf_X1_18 dX1_rankOf_54 rfl ?_
        refine ro_iload_n (i := 1) (q := 58) hX dX1_rankOf_57 rfl rfl rfl ?_
        refine ro_Sald (a := 3) (n := h) (q9 := 59) ⟨by decide, by decide⟩ hX hB rfl (show h < 6 from by omega) dX1_rankOf_58 rfl ?_
        refine ro_iadd (q := 60) hX dX1_rankOf_59 rfl ?_
        exact fin_i hF (Nat.le_of_ble_eq_true rfl) (Nat.le_of_ble_eq_true rfl) dX1_rankOf_60 (by first | with_reducible rfl | (simp [rkS, bitP, setL_s, setL_t, setL_0, dropL_0, dropL_c, *]; done) | (simp only [rkS, bitP, setL_s, setL_t, setL_0, dropL_0, dropL_c]; (repeat' split) <;> first | with_reducible rfl | contradiction | (simp_all; done)) | rfl) (by first | with_reducible rfl | (simp [rkS, bitP, setL_s, setL_t, setL_0, dropL_0, dropL_c, *]; done) | (simp only [rkS, bitP, setL_s, setL_t, setL_0, dropL_0, dropL_c]; (repeat' split) <;> first | with_reducible rfl | contradiction | (simp_all; done)) | rfl)
    · skip
      refine ro_iconst (v := nI 1) (q := 26) hX dX1_rankOf_25 rfl rfl ?_
      refine ro_goto (tgt := 30) hX dX1_rankOf_26 (by decide) ?_
      refine ro_istore_n (i := 3) (q := 31) hX dX1_rankOf_30 rfl (Nat.le_of_ble_eq_true rfl) rfl ?_
      refine ro_aload_n (i := 0) (q := 32) hX dX1_rankOf_31 rfl rfl rfl ?_
      refine ro_Sga (j := 0) (a := 1) (q9 := 35) ⟨by decide, rfl⟩ hX hB kf_X1_9 dX1_rankOf_32 rfl ?_
      refine ro_iload_n (i := 1) (q := 36) hX dX1_rankOf_35 rfl rfl rfl ?_
      refine ro_Sald (a := 1) (n := h) (q9 := 37) ⟨by decide, by decide⟩ hX hB rfl (show h < 6 from by omega) dX1_rankOf_36 rfl ?_
      refine ro_iconst (v := nI 2) (q := 38) hX dX1_rankOf_37 rfl rfl ?_
      refine ro_icmp_ne (tgt := 61) (q := 41) hX dX1_rankOf_38 (by decide) rfl (fun q4 => ?_) (fun q4 => ?_)
      · skip
        refine ro_iload_n (i := 3) (q := 62) hX dX1_rankOf_61 rfl rfl rfl ?_
        refine ro_if_eq (tgt := 70) (q := 65) hX dX1_rankOf_62 (by decide) rfl (fun q => absurd q (by decide)) (fun _ => ?_)
        refine ro_ldc (v := nI 20000000) (q := 67) hX kc_X1_147 dX1_rankOf_65 rfl ?_
        refine ro_goto (tgt := 72) hX dX1_rankOf_67 (by decide) ?_
        exact fin_i hF (Nat.le_of_ble_eq_true rfl) (Nat.le_of_ble_eq_true rfl) dX1_rankOf_72 (by first | with_reducible rfl | (simp [rkS, bitP, setL_s, setL_t, setL_0, dropL_0, dropL_c, *]; done) | (simp only [rkS, bitP, setL_s, setL_t, setL_0, dropL_0, dropL_c]; (repeat' split) <;> first | with_reducible rfl | contradiction | (simp_all; done)) | rfl) (by first | with_reducible rfl | (simp [rkS, bitP, setL_s, setL_t, setL_0, dropL_0, dropL_c, *]; done) | (simp only [rkS, bitP, setL_s, setL_t, setL_0, dropL_0, dropL_c]; (repeat' split) <;> first | with_reducible rfl | contradiction | (simp_all; done)) | rfl)
      · skip
        refine ro_iload_n (i := 3) (q := 42) hX dX1_rankOf_41 rfl rfl rfl ?_
        refine ro_if_eq (tgt := 49) (q := 45) hX dX1_rankOf_42 (by decide) rfl (fun q => absurd q (by decide)) (fun _ => ?_)
        refine ro_iconst (v := nI 1) (q := 46) hX dX1_rankOf_45 rfl rfl ?_
        refine ro_goto (tgt := 50) hX dX1_rankOf_46 (by decide) ?_
        refine ro_ldc (v := nI 10000000) (q := 52) hX kc_X1_146 dX1_rankOf_50 rfl ?_
        refine ro_imul (q := 53) hX dX1_rankOf_52 rfl ?_
        refine vv_top (y := nI 10000000) (nI_mul' rfl rfl) ?_
        refine ro_aload_n (i := 0) (q := 54) hX dX1_rankOf_53 rfl rfl rfl ?_
        refine ro_Sga (j := 2) (a := 3) (q9 := 57) ⟨by decide, rfl⟩ hX hB kf_X1_18 dX1_rankOf_54 rfl ?_
        refine ro_iload_n (i := 1) (q := 58) hX dX1_rankOf_57 rfl rfl rfl ?_
        refine ro_Sald (a := 3) (n := h) (q9 := 59) ⟨by decide, by decide⟩ hX hB rfl (show h < 6 from by omega) dX1_rankOf_58 rfl ?_
        refine ro_iadd (q := 60) hX dX1_rankOf_59 rfl ?_
        exact fin_i hF (Nat.le_of_ble_eq_true rfl) (Nat.le_of_ble_eq_true rfl) dX1_rankOf_60 (by first | with_reducible rfl | (simp [rkS, bitP, setL_s, setL_t, setL_0, dropL_0, dropL_c, *]; done) | (simp only [rkS, bitP, setL_s, setL_t, setL_0, dropL_0, dropL_c]; (repeat' split) <;> first | with_reducible rfl | contradiction | (simp_all; done)) | rfl) (by first | with_reducible rfl | (simp [rkS, bitP, setL_s, setL_t, setL_0, dropL_0, dropL_c, *]; done) | (simp only [rkS, bitP, setL_s, setL_t, setL_0, dropL_0, dropL_c]; (repeat' split) <;> first | with_reducible rfl | contradiction | (simp_all; done)) | rfl)
set_option maxRecDepth 20000 in
set_option maxHeartbeats 2000000 in
theorem s_releaseHosts (hB : isB r) : Does sz I_X1_releaseHosts [.ref (sz + r)] (patch G r 7 f, T) 0 0 (.inl none) (patch G r 7 (rlS f 6), T) := by
  refine Does.of (L := [(0, .ref (sz + r))]) (by decide +kernel) (Nat.le_of_ble_eq_true rfl) rfl ⟨rfl, (by simp), trivial⟩ (fun VV hF => ?_)
  have hX := hF.c
  refine ro_iconst (v := nI 0) (q := 1) hX dX1_releaseHosts_0 rfl rfl ?_
  refine ro_istore_n (i := 1) (q := 2) hX dX1_releaseHosts_1 rfl (Nat.le_of_ble_eq_true rfl) rfl ?_
  refine vv_LM (L' := [(0, .ref (sz + r)), (1, .int (nI 0))]) (M' := (patch G r 7 (rlS f 0), T)) (by first | with_reducible rfl | (simp [rlS, setL_s, setL_t, setL_0, dropL_0, dropL_c, *]; done) | (simp only [rlS, setL_s, setL_t, setL_0, dropL_0, dropL_c]; (repeat' split) <;> first | with_reducible rfl | contradiction | (simp_all; done)) | rfl) (by first | with_reducible rfl | (simp [rlS, setL_s, setL_t, setL_0, dropL_0, dropL_c, *]; done) | (simp only [rlS, setL_s, setL_t, setL_0, dropL_0, dropL_c]; (repeat' split) <;> first | with_reducible rfl | contradiction | (simp_all; done)) | rfl) ?_
  refine down_ind (P := fun k2 => VV 0 0 2 [(0, .ref (sz + r)), (1, .int (nI k2))] [] (patch G r 7 (rlS f k2), T)) (6) (fun k2 hk2 ih2 => ?_) ?_
  · have ih2 : VV 0 0 2 [(0, .ref (sz + r)), (1, .int (nI (k2 + 1)))] [] (patch G r 7 (rlS f (k2 + 1)), T) := ih2
    show VV 0 0 2 [(0, .ref (sz + r)), (1, .int (nI k2))] [] (patch G r 7 (rlS f k2), T)
    refine ro_iload_n (i := 1) (q := 3) hX dX1_releaseHosts_2 rfl rfl rfl ?_
    refine ro_bipush (v := nI 6) (q := 5) hX dX1_releaseHosts_3 rfl rfl ?_
    refine ro_icmp_ge (tgt := 50) (q := 8) hX dX1_releaseHosts_5 (by decide) rfl (fun q => absurd q (by first | exact ni_nle (by omega) (by omega) | exact ni_lt (by omega) (by omega))) (fun _ => ?_)
    refine ro_aload_n (i := 0) (q := 9) hX dX1_releaseHosts_8 rfl rfl rfl ?_
    refine ro_Sga (j := 0) (a := 1) (q9 := 12) ⟨by decide, rfl⟩ hX hB kf_X1_9 dX1_releaseHosts_9 rfl ?_
    refine ro_iload_n (i := 1) (q := 13) hX dX1_releaseHosts_12 rfl rfl rfl ?_
    refine ro_Sald (a := 1) (n := k2) (q9 := 14) ⟨by decide, by decide⟩ hX hB rfl (show k2 < 6 from by omega) dX1_releaseHosts_13 rfl ?_
    refine ro_iconst (v := nI 2) (q := 15) hX dX1_releaseHosts_14 rfl rfl ?_
    refine ro_icmp_ne (tgt := 44) (q := 18) hX dX1_releaseHosts_15 (by decide) rfl (fun q1 => ?_) (fun q1 => ?_)
    · skip
      refine ro_iinc (i := 1) (v := nI (k2 + 1)) (q := 47) hX dX1_releaseHosts_44 rfl (ni_inc _) (Nat.le_of_ble_eq_true rfl) rfl ?_
      refine ro_goto (tgt := 2) hX dX1_releaseHosts_47 (by decide) ?_
      exact vv_LM (by first | with_reducible rfl | (simp [rlS, setL_s, setL_t, setL_0, dropL_0, dropL_c, *]; done) | (simp only [rlS, setL_s, setL_t, setL_0, dropL_0, dropL_c]; (repeat' split) <;> first | with_reducible rfl | contradiction | (simp_all; done)) | rfl) (by first | with_reducible rfl | (simp [rlS, setL_s, setL_t, setL_0, dropL_0, dropL_c, *]; done) | (simp only [rlS, setL_s, setL_t, setL_0, dropL_0, dropL_c]; (repeat' split) <;> first | with_reducible rfl | contradiction | (simp_all; done)) | rfl) ih2
    · skip
      refine ro_aload_n (i := 0) (q := 19) hX dX1_releaseHosts_18 rfl rfl rfl ?_
      refine ro_Sgi (j := 7) (q9 := 22) ⟨by decide, by decide⟩ hX hB kf_X1_34 dX1_releaseHosts_19 rfl ?_
      refine ro_iload_n (i := 1) (q := 23) hX dX1_releaseHosts_22 rfl rfl rfl ?_
      refine ro_callSNi (q9 := 26) hX (s_has) mw_X2_has kl_X1_68 rfl rfl (Nat.le_of_ble_eq_true rfl) ⟨Nat.le_of_ble_eq_true rfl, Nat.le_of_ble_eq_true rfl⟩ dX1_releaseHosts_23 ⟨Nat.le_of_ble_eq_true rfl, Nat.le_of_ble_eq_true rfl⟩ rfl ?_
      refine ro_ifb_eq (tgt := 44) (q := 29) hX dX1_releaseHosts_26 (by decide) rfl (fun q2 => ?_) (fun q2 => ?_)
      · skip
        refine ro_iinc (i := 1) (v := nI (k2 + 1)) (q := 47) hX dX1_releaseHosts_44 rfl (ni_inc _) (Nat.le_of_ble_eq_true rfl) rfl ?_
        refine ro_goto (tgt := 2) hX dX1_releaseHosts_47 (by decide) ?_
        exact vv_LM (by first | with_reducible rfl | (simp [rlS, setL_s, setL_t, setL_0, dropL_0, dropL_c, *]; done) | (simp only [rlS, setL_s, setL_t, setL_0, dropL_0, dropL_c]; (repeat' split) <;> first | with_reducible rfl | contradiction | (simp_all; done)) | rfl) (by first | with_reducible rfl | (simp [rlS, setL_s, setL_t, setL_0, dropL_0, dropL_c, *]; done) | (simp only [rlS, setL_s, setL_t, setL_0, dropL_0, dropL_c]; (repeat' split) <;> first | with_reducible rfl | contradiction | (simp_all; done)) | rfl) ih2
      · skip
        refine ro_aload_n (i := 0) (q := 30) hX dX1_releaseHosts_29 rfl rfl rfl ?_
        refine ro_iload_n (i := 1) (q := 31) hX dX1_releaseHosts_30 rfl rfl rfl ?_
        refine ro_callVi (q9 := 34) hX (s_heldOn hB (by omega)) mw_X1_heldOn kl_X1_119 (isB_lt hB) (fun cy => cell1 (isB_kd hB).2.2.1) rfl rfl rfl (Nat.le_of_ble_eq_true rfl) ⟨Nat.le_of_ble_eq_true rfl, Nat.le_of_ble_eq_true rfl⟩ dX1_releaseHosts_31 ⟨Nat.le_of_ble_eq_true rfl, Nat.le_of_ble_eq_true rfl⟩ rfl ?_
        refine ro_if_ne (tgt := 44) (q := 37) hX dX1_releaseHosts_34 (by decide) rfl (fun q3 => ?_) (fun q3 => ?_)
        · skip
          refine ro_iinc (i := 1) (v := nI (k2 + 1)) (q := 47) hX dX1_releaseHosts_44 rfl (ni_inc _) (Nat.le_of_ble_eq_true rfl) rfl ?_
          refine ro_goto (tgt := 2) hX dX1_releaseHosts_47 (by decide) ?_
          exact vv_LM (by first | with_reducible rfl | (simp [rlS, setL_s, setL_t, setL_0, dropL_0, dropL_c, *]; done) | (simp only [rlS, setL_s, setL_t, setL_0, dropL_0, dropL_c]; (repeat' split) <;> first | with_reducible rfl | contradiction | (simp_all; done)) | rfl) (by first | with_reducible rfl | (simp [rlS, setL_s, setL_t, setL_0, dropL_0, dropL_c, *]; done) | (simp only [rlS, setL_s, setL_t, setL_0, dropL_0, dropL_c]; (repeat' split) <;> first | with_reducible rfl | contradiction | (simp_all; done)) | rfl) ih2
        · skip
          refine ro_aload_n (i := 0) (q := 38) hX dX1_releaseHosts_37 rfl rfl rfl ?_
          refine ro_Sga (j := 0) (a := 1) (q9 := 41) ⟨by decide, rfl⟩ hX hB kf_X1_9 dX1_releaseHosts_38 rfl ?_
          refine ro_iload_n (i := 1) (q := 42) hX dX1_releaseHosts_41 rfl rfl rfl ?_
          refine ro_iconst (v := nI 0) (q := 43) hX dX1_releaseHosts_42 rfl rfl ?_
          refine ro_Sast (a := 1) (n := k2) (q9 := 44) ⟨by decide, by decide⟩ hX hB rfl (show k2 < 6 from by omega) dX1_releaseHosts_43 rfl ?_
          refine ro_iinc (i := 1) (v := nI (k2 + 1)) (q := 47) hX dX1_releaseHosts_44 rfl (ni_inc _) (Nat.le_of_ble_eq_true rfl) rfl ?_
          refine ro_goto (tgt := 2) hX dX1_releaseHosts_47 (by decide) ?_
          exact vv_LM (by first | with_reducible rfl | (simp [rlS, setL_s, setL_t, setL_0, dropL_0, dropL_c, *]; done) | (simp only [rlS, setL_s, setL_t, setL_0, dropL_0, dropL_c]; (repeat' split) <;> first | with_reducible rfl | contradiction | (simp_all; done)) | rfl) (by first | with_reducible rfl | (simp [rlS, setL_s, setL_t, setL_0, dropL_0, dropL_c, *]; done) | (simp only [rlS, setL_s, setL_t, setL_0, dropL_0, dropL_c]; (repeat' split) <;> first | with_reducible rfl | contradiction | (simp_all; done)) | rfl) ih2
  · show VV 0 0 2 [(0, .ref (sz + r)), (1, .int (nI 6))] [] (patch G r 7 (rlS f 6), T)
    refine ro_iload_n (i := 1) (q := 3) hX dX1_releaseHosts_2 rfl rfl rfl ?_
    refine ro_bipush (v := nI 6) (q := 5) hX dX1_releaseHosts_3 rfl rfl ?_
    refine ro_icmp_ge (tgt := 50) (q := 8) hX dX1_releaseHosts_5 (by decide) rfl (fun _ => ?_) (fun q => absurd (by decide) q)
    exact fin_v hF (Nat.le_of_ble_eq_true rfl) (Nat.le_of_ble_eq_true rfl) dX1_releaseHosts_50 (by rfl)
set_option maxRecDepth 20000 in
set_option maxHeartbeats 2000000 in
theorem s_cancelTransfer (hB : isB r) : Does sz I_X1_cancelTransfer [.ref (sz + r)] (patch G r 7 f, T) 0 0 (.inl none) (patch G r 7 (caS f), T) := by
  refine Does.of (L := [(0, .ref (sz + r))]) (by decide +kernel) (Nat.le_of_ble_eq_true rfl) rfl ⟨rfl, (by simp), trivial⟩ (fun VV hF => ?_)
  have hX := hF.c
  refine ro_aload_n (i := 0) (q := 1) hX dX1_cancelTransfer_0 rfl rfl rfl ?_
  refine ro_iconst (v := (-1)) (q := 2) hX dX1_cancelTransfer_1 rfl rfl ?_
  refine ro_Spi (j := 11) (q9 := 5) ⟨by decide, by decide⟩ hX hB kf_X1_46 dX1_cancelTransfer_2 rfl ?_
  refine ro_aload_n (i := 0) (q := 6) hX dX1_cancelTransfer_5 rfl rfl rfl ?_
  refine ro_iconst (v := (-1)) (q := 7) hX dX1_cancelTransfer_6 rfl rfl ?_
  refine ro_Spi (j := 12) (q9 := 10) ⟨by decide, by decide⟩ hX hB kf_X1_49 dX1_cancelTransfer_7 rfl ?_
  refine ro_aload_n (i := 0) (q := 11) hX dX1_cancelTransfer_10 rfl rfl rfl ?_
  refine ro_iconst (v := (-1)) (q := 12) hX dX1_cancelTransfer_11 rfl rfl ?_
  refine ro_Spi (j := 13) (q9 := 15) ⟨by decide, by decide⟩ hX hB kf_X1_52 dX1_cancelTransfer_12 rfl ?_
  exact fin_v hF (Nat.le_of_ble_eq_true rfl) (Nat.le_of_ble_eq_true rfl) dX1_cancelTransfer_15 (by rfl)
set_option maxRecDepth 20000 in
set_option maxHeartbeats 2000000 in
theorem s_cancelTransferOf (hB : isB r) {h : Nat} (hh : h < 6) : Does sz I_X1_cancelTransferOf [.ref (sz + r), .int (nI h)] (patch G r 7 f, T) 0 0 (.inl none) (patch G r 7 (ctS f h), T) := by
  refine Does.of (L := [(0, .ref (sz + r)), (1, .int (nI h))]) (by decide +kernel) (Nat.le_of_ble_eq_true rfl) rfl ⟨rfl, (by simp), ⟨rfl, (by simp), trivial⟩⟩ (fun VV hF => ?_)
  have hX := hF.c
  refine ro_aload_n (i := 0) (q := 1) hX dX1_cancelTransferOf_0 rfl rfl rfl ?_
  refine ro_Sgi (j := 12) (q9 := 4) ⟨by decide, by decide⟩ hX hB kf_X1_49 dX1_cancelTransferOf_1 rfl ?_
  refine ro_iload_n (i := 1) (q := 5) hX dX1_cancelTransferOf_4 rfl rfl rfl ?_
  refine ro_icmp_eq (tgt := 16) (q := 8) hX dX1_cancelTransferOf_5 (by decide) rfl (fun q1 => ?_) (fun q1 => ?_)
  · skip
    refine ro_aload_n (i := 0) (q := 17) hX dX1_cancelTransferOf_16 rfl rfl rfl ?_
    refine ro_callVv (q9 := 20) hX (s_cancelTransfer hB) mw_X1_cancelTransfer kl_X1_116 (isB_lt hB) (fun cy => cell1 (isB_kd hB).2.2.1) rfl rfl rfl (Nat.le_of_ble_eq_true rfl) ⟨Nat.le_of_ble_eq_true rfl, Nat.le_of_ble_eq_true rfl⟩ dX1_cancelTransferOf_17 ⟨Nat.le_of_ble_eq_true rfl, Nat.le_of_ble_eq_true rfl⟩ rfl ?_
    exact fin_v hF (Nat.le_of_ble_eq_true rfl) (Nat.le_of_ble_eq_true rfl) dX1_cancelTransferOf_20 (by first | with_reducible rfl | (simp [ctS, setL_s, setL_t, setL_0, dropL_0, dropL_c, *]; done) | (simp only [ctS, setL_s, setL_t, setL_0, dropL_0, dropL_c]; (repeat' split) <;> first | with_reducible rfl | contradiction | (simp_all; done)) | rfl)
  · skip
    refine ro_aload_n (i := 0) (q := 9) hX dX1_cancelTransferOf_8 rfl rfl rfl ?_
    refine ro_Sgi (j := 13) (q9 := 12) ⟨by decide, by decide⟩ hX hB kf_X1_52 dX1_cancelTransferOf_9 rfl ?_
    refine ro_iload_n (i := 1) (q := 13) hX dX1_cancelTransferOf_12 rfl rfl rfl ?_
    refine ro_icmp_ne (tgt := 20) (q := 16) hX dX1_cancelTransferOf_13 (by decide) rfl (fun q2 => ?_) (fun q2 => ?_)
    · skip
      exact fin_v hF (Nat.le_of_ble_eq_true rfl) (Nat.le_of_ble_eq_true rfl) dX1_cancelTransferOf_20 (by first | with_reducible rfl | (simp [ctS, setL_s, setL_t, setL_0, dropL_0, dropL_c, *]; done) | (simp only [ctS, setL_s, setL_t, setL_0, dropL_0, dropL_c]; (repeat' split) <;> first | with_reducible rfl | contradiction | (simp_all; done)) | rfl)
    · skip
      refine ro_aload_n (i := 0) (q := 17) hX dX1_cancelTransferOf_16 rfl rfl rfl ?_
      refine ro_callVv (q9 := 20) hX (s_cancelTransfer hB) mw_X1_cancelTransfer kl_X1_116 (isB_lt hB) (fun cy => cell1 (isB_kd hB).2.2.1) rfl rfl rfl (Nat.le_of_ble_eq_true rfl) ⟨Nat.le_of_ble_eq_true rfl, Nat.le_of_ble_eq_true rfl⟩ dX1_cancelTransferOf_17 ⟨Nat.le_of_ble_eq_true rfl, Nat.le_of_ble_eq_true rfl⟩ rfl ?_
      exact fin_v hF (Nat.le_of_ble_eq_true rfl) (Nat.le_of_ble_eq_true rfl) dX1_cancelTransferOf_20 (by first | with_reducible rfl | (simp [ctS, setL_s, setL_t, setL_0, dropL_0, dropL_c, *]; done) | (simp only [ctS, setL_s, setL_t, setL_0, dropL_0, dropL_c]; (repeat' split) <;> first | with_reducible rfl | contradiction | (simp_all; done)) | rfl)
set_option maxRecDepth 20000 in
set_option maxHeartbeats 2000000 in
theorem s_leave (hB : isB r) {h : Nat} (hh : h < 6) : Does sz I_X1_leave [.ref (sz + r), .int (nI h)] (patch G r 7 f, T) 0 0 (.inl none) (patch G r 7 (lvS f h), T) := by
  refine Does.of (L := [(0, .ref (sz + r)), (1, .int (nI h))]) (by decide +kernel) (Nat.le_of_ble_eq_true rfl) rfl ⟨rfl, (by simp), ⟨rfl, (by simp), trivial⟩⟩ (fun VV hF => ?_)
  have hX := hF.c
  refine ro_aload_n (i := 0) (q := 1) hX dX1_leave_0 rfl rfl rfl ?_
  refine ro_Sga (j := 3) (a := 4) (q9 := 4) ⟨by decide, rfl⟩ hX hB kf_X1_21 dX1_leave_1 rfl ?_
  refine ro_iload_n (i := 1) (q := 5) hX dX1_leave_4 rfl rfl rfl ?_
  refine ro_iconst (v := nI 0) (q := 6) hX dX1_leave_5 rfl rfl ?_
  refine ro_Sast (a := 4) (n := h) (q9 := 7) ⟨by decide, by decide⟩ hX hB rfl (show h < 6 from by omega) dX1_leave_6 rfl ?_
  refine ro_aload_n (i := 0) (q := 8) hX dX1_leave_7 rfl rfl rfl ?_
  refine ro_Sga (j := 4) (a := 5) (q9 := 11) ⟨by decide, rfl⟩ hX hB kf_X1_24 dX1_leave_8 rfl ?_
  refine ro_iload_n (i := 1) (q := 12) hX dX1_leave_11 rfl rfl rfl ?_
  refine ro_iconst (v := nI 0) (q := 13) hX dX1_leave_12 rfl rfl ?_
  refine ro_Sast (a := 5) (n := h) (q9 := 14) ⟨by decide, by decide⟩ hX hB rfl (show h < 6 from by omega) dX1_leave_13 rfl ?_
  refine ro_aload_n (i := 0) (q := 15) hX dX1_leave_14 rfl rfl rfl ?_
  refine ro_Sga (j := 0) (a := 1) (q9 := 18) ⟨by decide, rfl⟩ hX hB kf_X1_9 dX1_leave_15 rfl ?_
  refine ro_iload_n (i := 1) (q := 19) hX dX1_leave_18 rfl rfl rfl ?_
  refine ro_iconst (v := nI 0) (q := 20) hX dX1_leave_19 rfl rfl ?_
  refine ro_Sast (a := 1) (n := h) (q9 := 21) ⟨by decide, by decide⟩ hX hB rfl (show h < 6 from by omega) dX1_leave_20 rfl ?_
  exact fin_v hF (Nat.le_of_ble_eq_true rfl) (Nat.le_of_ble_eq_true rfl) dX1_leave_21 (by rfl)
set_option maxRecDepth 20000 in
set_option maxHeartbeats 2000000 in
theorem s_outdate (hB : isB r) {p : Nat} (hp : p < 30) : Does sz I_X1_outdate [.ref (sz + r), .int (nI p)] (patch G r 7 f, T) 0 0 (.inl none) (patch G r 7 (odS f p 6), T) := by
  refine Does.of (L := [(0, .ref (sz + r)), (1, .int (nI p))]) (by decide +kernel) (Nat.le_of_ble_eq_true rfl) rfl ⟨rfl, (by simp), ⟨rfl, (by simp), trivial⟩⟩ (fun VV hF => ?_)
  have hX := hF.c
  refine ro_iconst (v := nI 0) (q := 1) hX dX1_outdate_0 rfl rfl ?_
  refine ro_istore_n (i := 2) (q := 2) hX dX1_outdate_1 rfl (Nat.le_of_ble_eq_true rfl) rfl ?_
  refine vv_LM (L' := [(0, .ref (sz + r)), (1, .int (nI p)), (2, .int (nI 0))]) (M' := (patch G r 7 (odS f p 0), T)) (by first | with_reducible rfl | (simp [odS, bitP, put_n, setL_s, setL_t, setL_0, dropL_0, dropL_c, *]; done) | (simp only [odS, bitP, put_n, setL_s, setL_t, setL_0, dropL_0, dropL_c]; (repeat' split) <;> first | with_reducible rfl | contradiction | (simp_all; done)) | rfl) (by first | with_reducible rfl | (simp [odS, bitP, put_n, setL_s, setL_t, setL_0, dropL_0, dropL_c, *]; done) | (simp only [odS, bitP, put_n, setL_s, setL_t, setL_0, dropL_0, dropL_c]; (repeat' split) <;> first | with_reducible rfl | contradiction | (simp_all; done)) | rfl) ?_
  refine down_ind (P := fun k2 => VV 0 0 2 [(0, .ref (sz + r)), (1, .int (nI p)), (2, .int (nI k2))] [] (patch G r 7 (odS f p k2), T)) (6) (fun k2 hk2 ih2 => ?_) ?_
  · have ih2 : VV 0 0 2 [(0, .ref (sz + r)), (1, .int (nI p)), (2, .int (nI (k2 + 1)))] [] (patch G r 7 (odS f p (k2 + 1)), T) := ih2
    show VV 0 0 2 [(0, .ref (sz + r)), (1, .int (nI p)), (2, .int (nI k2))] [] (patch G r 7 (odS f p k2), T)
    refine ro_iload_n (i := 2) (q := 3) hX dX1_outdate_2 rfl rfl rfl ?_
    refine ro_bipush (v := nI 6) (q := 5) hX dX1_outdate_3 rfl rfl ?_
    refine ro_icmp_ge (tgt := 58) (q := 8) hX dX1_outdate_5 (by decide) rfl (fun q => absurd q (by first | exact ni_nle (by omega) (by omega) | exact ni_lt (by omega) (by omega))) (fun _ => ?_)
    refine ro_aload_n (i := 0) (q := 9) hX dX1_outdate_8 rfl rfl rfl ?_
    refine ro_Sgi (j := 7) (q9 := 12) ⟨by decide, by decide⟩ hX hB kf_X1_34 dX1_outdate_9 rfl ?_
    refine ro_iload_n (i := 2) (q := 13) hX dX1_outdate_12 rfl rfl rfl ?_
    refine ro_callSNi (q9 := 16) hX (s_has) mw_X2_has kl_X1_68 rfl rfl (Nat.le_of_ble_eq_true rfl) ⟨Nat.le_of_ble_eq_true rfl, Nat.le_of_ble_eq_true rfl⟩ dX1_outdate_13 ⟨Nat.le_of_ble_eq_true rfl, Nat.le_of_ble_eq_true rfl⟩ rfl ?_
    refine ro_ifb_ne (tgt := 52) (q := 19) hX dX1_outdate_16 (by decide) rfl (fun q1 => ?_) (fun q1 => ?_)
    · skip
      refine ro_iinc (i := 2) (v := nI (k2 + 1)) (q := 55) hX dX1_outdate_52 rfl (ni_inc _) (Nat.le_of_ble_eq_true rfl) rfl ?_
      refine ro_goto (tgt := 2) hX dX1_outdate_55 (by decide) ?_
      exact vv_LM (by first | with_reducible rfl | (simp [odS, bitP, put_n, setL_s, setL_t, setL_0, dropL_0, dropL_c, *]; done) | (simp only [odS, bitP, put_n, setL_s, setL_t, setL_0, dropL_0, dropL_c]; (repeat' split) <;> first | with_reducible rfl | contradiction | (simp_all; done)) | rfl) (by first | with_reducible rfl | (simp [odS, bitP, put_n, setL_s, setL_t, setL_0, dropL_0, dropL_c, *]; done) | (simp only [odS, bitP, put_n, setL_s, setL_t, setL_0, dropL_0, dropL_c]; (repeat' split) <;> first | with_reducible rfl | contradiction | (simp_all; done)) | rfl) ih2
    · skip
      refine ro_aload_n (i := 0) (q := 20) hX dX1_outdate_19 rfl rfl rfl ?_
      refine ro_Sga (j := 4) (a := 5) (q9 := 23) ⟨by decide, rfl⟩ hX hB kf_X1_24 dX1_outdate_20 rfl ?_
      refine ro_iload_n (i := 2) (q := 24) hX dX1_outdate_23 rfl rfl rfl ?_
      refine ro_dup2 (q := 25) hX dX1_outdate_24 rfl rfl rfl ?_
      refine ro_Sald (a := 5) (n := k2) (q9 := 26) ⟨by decide, by decide⟩ hX hB rfl (show k2 < 6 from by omega) dX1_outdate_25 rfl ?_
      refine ro_aload_n (i := 0) (q := 27) hX dX1_outdate_26 rfl rfl rfl ?_
      refine ro_Sga (j := 3) (a := 4) (q9 := 30) ⟨by decide, rfl⟩ hX hB kf_X1_21 dX1_outdate_27 rfl ?_
      refine ro_iload_n (i := 2) (q := 31) hX dX1_outdate_30 rfl rfl rfl ?_
      refine ro_Sald (a := 4) (n := k2) (q9 := 32) ⟨by decide, by decide⟩ hX hB rfl (show k2 < 6 from by omega) dX1_outdate_31 rfl ?_
      refine ro_iconst (v := nI 1) (q := 33) hX dX1_outdate_32 rfl rfl ?_
      refine ro_iload_n (i := 1) (q := 34) hX dX1_outdate_33 rfl rfl rfl ?_
      refine ro_ishl (q := 35) hX dX1_outdate_34 rfl ?_
      refine ro_iand (q := 36) hX dX1_outdate_35 rfl ?_
      refine ro_ior (q := 37) hX dX1_outdate_36 rfl ?_
      refine ro_Sast (a := 5) (n := k2) (q9 := 38) ⟨by decide, by decide⟩ hX hB rfl (show k2 < 6 from by omega) dX1_outdate_37 rfl ?_
      refine ro_aload_n (i := 0) (q := 39) hX dX1_outdate_38 rfl rfl rfl ?_
      refine ro_Sga (j := 3) (a := 4) (q9 := 42) ⟨by decide, rfl⟩ hX hB kf_X1_21 dX1_outdate_39 rfl ?_
      refine ro_iload_n (i := 2) (q := 43) hX dX1_outdate_42 rfl rfl rfl ?_
      refine ro_dup2 (q := 44) hX dX1_outdate_43 rfl rfl rfl ?_
      refine ro_Sald (a := 4) (n := k2) (q9 := 45) ⟨by decide, by decide⟩ hX hB rfl (show k2 < 6 from by omega) dX1_outdate_44 rfl ?_
      refine ro_iconst (v := nI 1) (q := 46) hX dX1_outdate_45 rfl rfl ?_
      refine ro_iload_n (i := 1) (q := 47) hX dX1_outdate_46 rfl rfl rfl ?_
      refine ro_ishl (q := 48) hX dX1_outdate_47 rfl ?_
      refine ro_iconst (v := (-1)) (q := 49) hX dX1_outdate_48 rfl rfl ?_
      refine ro_ixor (q := 50) hX dX1_outdate_49 rfl ?_
      refine ro_iand (q := 51) hX dX1_outdate_50 rfl ?_
      refine ro_Sast (a := 4) (n := k2) (q9 := 52) ⟨by decide, by decide⟩ hX hB rfl (show k2 < 6 from by omega) dX1_outdate_51 rfl ?_
      refine ro_iinc (i := 2) (v := nI (k2 + 1)) (q := 55) hX dX1_outdate_52 rfl (ni_inc _) (Nat.le_of_ble_eq_true rfl) rfl ?_
      refine ro_goto (tgt := 2) hX dX1_outdate_55 (by decide) ?_
      exact vv_LM (by first | with_reducible rfl | (simp [odS, bitP, put_n, setL_s, setL_t, setL_0, dropL_0, dropL_c, *]; done) | (simp only [odS, bitP, put_n, setL_s, setL_t, setL_0, dropL_0, dropL_c]; (repeat' split) <;> first | with_reducible rfl | contradiction | (simp_all; done)) | rfl) (by first | with_reducible rfl | (simp [odS, bitP, put_n, setL_s, setL_t, setL_0, dropL_0, dropL_c, *]; done) | (simp only [odS, bitP, put_n, setL_s, setL_t, setL_0, dropL_0, dropL_c]; (repeat' split) <;> first | with_reducible rfl | contradiction | (simp_all; done)) | rfl) ih2
  · show VV 0 0 2 [(0, .ref (sz + r)), (1, .int (nI p)), (2, .int (nI 6))] [] (patch G r 7 (odS f p 6), T)
    refine ro_iload_n (i := 2) (q := 3) hX dX1_outdate_2 rfl rfl rfl ?_
    refine ro_bipush (v := nI 6) (q := 5) hX dX1_outdate_3 rfl rfl ?_
    refine ro_icmp_ge (tgt := 58) (q := 8) hX dX1_outdate_5 (by decide) rfl (fun _ => ?_) (fun q => absurd (by decide) q)
    exact fin_v hF (Nat.le_of_ble_eq_true rfl) (Nat.le_of_ble_eq_true rfl) dX1_outdate_58 (by rfl)
set_option maxRecDepth 20000 in
set_option maxHeartbeats 2000000 in
theorem s_pagesCopiedTwice (hB : isB r) : Does sz I_X1_pagesCopiedTwice [.ref (sz + r)] (patch G r 7 f, T) 0 0 (.inl (some ((p2S f 6).2))) (patch G r 7 f, T) := by
  refine Does.of (L := [(0, .ref (sz + r))]) (by decide +kernel) (Nat.le_of_ble_eq_true rfl) rfl ⟨rfl, (by simp), trivial⟩ (fun VV hF => ?_)
  have hX := hF.c
  refine ro_iconst (v := nI 0) (q := 1) hX dX1_pagesCopiedTwice_0 rfl rfl ?_
  refine ro_istore_n (i := 1) (q := 2) hX dX1_pagesCopiedTwice_1 rfl (Nat.le_of_ble_eq_true rfl) rfl ?_
  refine ro_iconst (v := nI 0) (q := 3) hX dX1_pagesCopiedTwice_2 rfl rfl ?_
  refine ro_istore_n (i := 2) (q := 4) hX dX1_pagesCopiedTwice_3 rfl (Nat.le_of_ble_eq_true rfl) rfl ?_
  refine ro_iconst (v := nI 0) (q := 5) hX dX1_pagesCopiedTwice_4 rfl rfl ?_
  refine ro_istore_n (i := 3) (q := 6) hX dX1_pagesCopiedTwice_5 rfl (Nat.le_of_ble_eq_true rfl) rfl ?_
  refine vv_LM (L' := [(0, .ref (sz + r)), (1, .int (p2S f 0).1), (2, .int (p2S f 0).2), (3, .int (nI 0))]) (M' := (patch G r 7 f, T)) (by first | with_reducible rfl | (simp [p2S, setL_s, setL_t, setL_0, dropL_0, dropL_c, *]; done) | (simp only [p2S, setL_s, setL_t, setL_0, dropL_0, dropL_c]; (repeat' split) <;> first | with_reducible rfl | contradiction | (simp_all; done)) | rfl) (by first | with_reducible rfl | (simp [p2S, setL_s, setL_t, setL_0, dropL_0, dropL_c, *]; done) | (simp only [p2S, setL_s, setL_t, setL_0, dropL_0, dropL_c]; (repeat' split) <;> first | with_reducible rfl | contradiction | (simp_all; done)) | rfl) ?_
  refine down_ind (P := fun k6 => VV 0 0 6 [(0, .ref (sz + r)), (1, .int (p2S f k6).1), (2, .int (p2S f k6).2), (3, .int (nI k6))] [] (patch G r 7 f, T)) (6) (fun k6 hk6 ih6 => ?_) ?_
  · have ih6 : VV 0 0 6 [(0, .ref (sz + r)), (1, .int (p2S f (k6 + 1)).1), (2, .int (p2S f (k6 + 1)).2), (3, .int (nI (k6 + 1)))] [] (patch G r 7 f, T) := ih6
    show VV 0 0 6 [(0, .ref (sz + r)), (1, .int (p2S f k6).1), (2, .int (p2S f k6).2), (3, .int (nI k6))] [] (patch G r 7 f, T)
    refine ro_iload_n (i := 3) (q := 7) hX dX1_pagesCopiedTwice_6 rfl rfl rfl ?_
    refine ro_bipush (v := nI 6) (q := 9) hX dX1_pagesCopiedTwice_7 rfl rfl ?_
    refine ro_icmp_ge (tgt := 49) (q := 12) hX dX1_pagesCopiedTwice_9 (by decide) rfl (fun q => absurd q (by first | exact ni_nle (by omega) (by omega) | exact ni_lt (by omega) (by omega))) (fun _ => ?_)
    refine ro_aload_n (i := 0) (q := 13) hX dX1_pagesCopiedTwice_12 rfl rfl rfl ?_
    refine ro_Sgi (j := 7) (q9 := 16) ⟨by decide, by decide⟩ hX hB kf_X1_34 dX1_pagesCopiedTwice_13 rfl ?_
    refine ro_iload_n (i := 3) (q := 17) hX dX1_pagesCopiedTwice_16 rfl rfl rfl ?_
    refine ro_callSNi (q9 := 20) hX (s_has) mw_X2_has kl_X1_68 rfl rfl (Nat.le_of_ble_eq_true rfl) ⟨Nat.le_of_ble_eq_true rfl, Nat.le_of_ble_eq_true rfl⟩ dX1_pagesCopiedTwice_17 ⟨Nat.le_of_ble_eq_true rfl, Nat.le_of_ble_eq_true rfl⟩ rfl ?_
    refine ro_ifb_eq (tgt := 43) (q := 23) hX dX1_pagesCopiedTwice_20 (by decide) rfl (fun q1 => ?_) (fun q1 => ?_)
    · skip
      refine ro_iinc (i := 3) (v := nI (k6 + 1)) (q := 46) hX dX1_pagesCopiedTwice_43 rfl (ni_inc _) (Nat.le_of_ble_eq_true rfl) rfl ?_
      refine ro_goto (tgt := 6) hX dX1_pagesCopiedTwice_46 (by decide) ?_
      exact vv_LM (by first | with_reducible rfl | (simp [p2S, setL_s, setL_t, setL_0, dropL_0, dropL_c, *]; done) | (simp only [p2S, setL_s, setL_t, setL_0, dropL_0, dropL_c]; (repeat' split) <;> first | with_reducible rfl | contradiction | (simp_all; done)) | rfl) (by first | with_reducible rfl | (simp [p2S, setL_s, setL_t, setL_0, dropL_0, dropL_c, *]; done) | (simp only [p2S, setL_s, setL_t, setL_0, dropL_0, dropL_c]; (repeat' split) <;> first | with_reducible rfl | contradiction | (simp_all; done)) | rfl) ih6
    · skip
      refine ro_iload_n (i := 2) (q := 24) hX dX1_pagesCopiedTwice_23 rfl rfl rfl ?_
      refine ro_iload_n (i := 1) (q := 25) hX dX1_pagesCopiedTwice_24 rfl rfl rfl ?_
      refine ro_aload_n (i := 0) (q := 26) hX dX1_pagesCopiedTwice_25 rfl rfl rfl ?_
      refine ro_Sga (j := 3) (a := 4) (q9 := 29) ⟨by decide, rfl⟩ hX hB kf_X1_21 dX1_pagesCopiedTwice_26 rfl ?_
      refine ro_iload_n (i := 3) (q := 30) hX dX1_pagesCopiedTwice_29 rfl rfl rfl ?_
      refine ro_Sald (a := 4) (n := k6) (q9 := 31) ⟨by decide, by decide⟩ hX hB rfl (show k6 < 6 from by omega) dX1_pagesCopiedTwice_30 rfl ?_
      refine ro_iand (q := 32) hX dX1_pagesCopiedTwice_31 rfl ?_
      refine ro_ior (q := 33) hX dX1_pagesCopiedTwice_32 rfl ?_
      refine ro_istore_n (i := 2) (q := 34) hX dX1_pagesCopiedTwice_33 rfl (Nat.le_of_ble_eq_true rfl) rfl ?_
      refine ro_iload_n (i := 1) (q := 35) hX dX1_pagesCopiedTwice_34 rfl rfl rfl ?_
      refine ro_aload_n (i := 0) (q := 36) hX dX1_pagesCopiedTwice_35 rfl rfl rfl ?_
      refine ro_Sga (j := 3) (a := 4) (q9 := 39) ⟨by decide, rfl⟩ hX hB kf_X1_21 dX1_pagesCopiedTwice_36 rfl ?_
      refine ro_iload_n (i := 3) (q := 40) hX dX1_pagesCopiedTwice_39 rfl rfl rfl ?_
      refine ro_Sald (a := 4) (n := k6) (q9 := 41) ⟨by decide, by decide⟩ hX hB rfl (show k6 < 6 from by omega) dX1_pagesCopiedTwice_40 rfl ?_
      refine ro_ior (q := 42) hX dX1_pagesCopiedTwice_41 rfl ?_
      refine ro_istore_n (i := 1) (q := 43) hX dX1_pagesCopiedTwice_42 rfl (Nat.le_of_ble_eq_true rfl) rfl ?_
      refine ro_iinc (i := 3) (v := nI (k6 + 1)) (q := 46) hX dX1_pagesCopiedTwice_43 rfl (ni_inc _) (Nat.le_of_ble_eq_true rfl) rfl ?_
      refine ro_goto (tgt := 6) hX dX1_pagesCopiedTwice_46 (by decide) ?_
      exact vv_LM (by first | with_reducible rfl | (simp [p2S, setL_s, setL_t, setL_0, dropL_0, dropL_c, *]; done) | (simp only [p2S, setL_s, setL_t, setL_0, dropL_0, dropL_c]; (repeat' split) <;> first | with_reducible rfl | contradiction | (simp_all; done)) | rfl) (by first | with_reducible rfl | (simp [p2S, setL_s, setL_t, setL_0, dropL_0, dropL_c, *]; done) | (simp only [p2S, setL_s, setL_t, setL_0, dropL_0, dropL_c]; (repeat' split) <;> first | with_reducible rfl | contradiction | (simp_all; done)) | rfl) ih6
  · show VV 0 0 6 [(0, .ref (sz + r)), (1, .int (p2S f 6).1), (2, .int (p2S f 6).2), (3, .int (nI 6))] [] (patch G r 7 f, T)
    refine ro_iload_n (i := 3) (q := 7) hX dX1_pagesCopiedTwice_6 rfl rfl rfl ?_
    refine ro_bipush (v := nI 6) (q := 9) hX dX1_pagesCopiedTwice_7 rfl rfl ?_
    refine ro_icmp_ge (tgt := 49) (q := 12) hX dX1_pagesCopiedTwice_9 (by decide) rfl (fun _ => ?_) (fun q => absurd (by decide) q)
    refine ro_iload_n (i := 2) (q := 50) hX dX1_pagesCopiedTwice_49 rfl rfl rfl ?_
    exact fin_i hF (Nat.le_of_ble_eq_true rfl) (Nat.le_of_ble_eq_true rfl) dX1_pagesCopiedTwice_50 (by rfl) (by rfl)
set_option maxRecDepth 20000 in
set_option maxHeartbeats 2000000 in
theorem s_settle_b (hB : isB r) (hb : ¬ rlS f 6 0 11 = -1) : Does sz I_X1_settle [.ref (sz + r)] (patch G r 7 f, T) 0 0 (.inl none) (patch G r 7 (seS f), T) := by
  refine Does.of (L := [(0, .ref (sz + r))]) (by decide +kernel) (Nat.le_of_ble_eq_true rfl) rfl ⟨rfl, (by simp), trivial⟩ (fun VV hF => ?_)
  have hX := hF.c
  refine ro_aload_n (i := 0) (q := 1) hX dX1_settle_0 rfl rfl rfl ?_
  refine ro_callVv (q9 := 4) hX (s_releaseHosts hB) mw_X1_releaseHosts kl_X1_138 (isB_lt hB) (fun cy => cell1 (isB_kd hB).2.2.1) rfl rfl rfl (Nat.le_of_ble_eq_true rfl) ⟨Nat.le_of_ble_eq_true rfl, Nat.le_of_ble_eq_true rfl⟩ dX1_settle_1 ⟨Nat.le_of_ble_eq_true rfl, Nat.le_of_ble_eq_true rfl⟩ rfl ?_
  refine ro_aload_n (i := 0) (q := 5) hX dX1_settle_4 rfl rfl rfl ?_
  refine ro_Sgi (j := 11) (q9 := 8) ⟨by decide, by decide⟩ hX hB kf_X1_46 dX1_settle_5 rfl ?_
  refine ro_iconst (v := (-1)) (q := 9) hX dX1_settle_8 rfl rfl ?_
  refine ro_icmp_eq (tgt := 13) (q := 12) hX dX1_settle_9 (by decide) rfl (fun q => absurd q (hb)) (fun _ => ?_)
  exact fin_v hF (Nat.le_of_ble_eq_true rfl) (Nat.le_of_ble_eq_true rfl) dX1_settle_12 (by first | with_reducible rfl | (simp [seS, seS1, setL_s, setL_t, setL_0, dropL_0, dropL_c, *]; done) | (simp only [seS, seS1, setL_s, setL_t, setL_0, dropL_0, dropL_c]; (repeat' split) <;> first | with_reducible rfl | contradiction | (simp_all; done)) | rfl)
set_option maxRecDepth 20000 in
set_option maxHeartbeats 2000000 in
theorem s_settle_n (hB : isB r) (hb : rlS f 6 0 11 = -1) (hc : (chL (rlS f 6) 30).2 = none) : Does sz I_X1_settle [.ref (sz + r)] (patch G r 7 f, T) 0 0 (.inl none) (patch G r 7 (seS f), T) := by
  refine Does.of (L := [(0, .ref (sz + r))]) (by decide +kernel) (Nat.le_of_ble_eq_true rfl) rfl ⟨rfl, (by simp), trivial⟩ (fun VV hF => ?_)
  have hX := hF.c
  refine ro_aload_n (i := 0) (q := 1) hX dX1_settle_0 rfl rfl rfl ?_
  refine ro_callVv (q9 := 4) hX (s_releaseHosts hB) mw_X1_releaseHosts kl_X1_138 (isB_lt hB) (fun cy => cell1 (isB_kd hB).2.2.1) rfl rfl rfl (Nat.le_of_ble_eq_true rfl) ⟨Nat.le_of_ble_eq_true rfl, Nat.le_of_ble_eq_true rfl⟩ dX1_settle_1 ⟨Nat.le_of_ble_eq_true rfl, Nat.le_of_ble_eq_true rfl⟩ rfl ?_
  refine ro_aload_n (i := 0) (q := 5) hX dX1_settle_4 rfl rfl rfl ?_
  refine ro_Sgi (j := 11) (q9 := 8) ⟨by decide, by decide⟩ hX hB kf_X1_46 dX1_settle_5 rfl ?_
  refine ro_iconst (v := (-1)) (q := 9) hX dX1_settle_8 rfl rfl ?_
  refine ro_icmp_eq (tgt := 13) (q := 12) hX dX1_settle_9 (by decide) rfl (fun _ => ?_) (fun q => absurd (hb) q)
  refine ro_ldc (v := nI 90000000) (q := 15) hX kc_X1_141 dX1_settle_13 rfl ?_
  refine ro_istore_n (i := 1) (q := 16) hX dX1_settle_15 rfl (Nat.le_of_ble_eq_true rfl) rfl ?_
  refine ro_iconst (v := (-1)) (q := 17) hX dX1_settle_16 rfl rfl ?_
  refine ro_istore_n (i := 2) (q := 18) hX dX1_settle_17 rfl (Nat.le_of_ble_eq_true rfl) rfl ?_
  refine ro_iconst (v := (-1)) (q := 19) hX dX1_settle_18 rfl rfl ?_
  refine ro_istore_n (i := 3) (q := 20) hX dX1_settle_19 rfl (Nat.le_of_ble_eq_true rfl) rfl ?_
  refine ro_iconst (v := nI 0) (q := 21) hX dX1_settle_20 rfl rfl ?_
  refine ro_istore (i := 4) (q := 23) hX dX1_settle_21 (Nat.le_of_ble_eq_true rfl) rfl ?_
  refine vv_LM (L' := [(0, .ref (sz + r)), (1, .int (chL (rlS f 6) 0).1), (2, .int (o1 (chL (rlS f 6) 0).2)), (3, .int (o2 (chL (rlS f 6) 0).2)), (4, .int (nI 0))]) (M' := (patch G r 7 (rlS f 6), T)) (by first | with_reducible rfl | (simp [chL, o1, o2, setL_s, setL_t, setL_0, dropL_0, dropL_c, *]; done) | (simp only [chL, o1, o2, setL_s, setL_t, setL_0, dropL_0, dropL_c]; (repeat' split) <;> first | with_reducible rfl | contradiction | (simp_all; done)) | rfl) (by first | with_reducible rfl | (simp [chL, o1, o2, setL_s, setL_t, setL_0, dropL_0, dropL_c, *]; done) | (simp only [chL, o1, o2, setL_s, setL_t, setL_0, dropL_0, dropL_c]; (repeat' split) <;> first | with_reducible rfl | contradiction | (simp_all; done)) | rfl) ?_
  refine down_ind (P := fun k23 => VV 0 0 23 [(0, .ref (sz + r)), (1, .int (chL (rlS f 6) k23).1), (2, .int (o1 (chL (rlS f 6) k23).2)), (3, .int (o2 (chL (rlS f 6) k23).2)), (4, .int (nI k23))] [] (patch G r 7 (rlS f 6), T)) (30) (fun k23 hk23 ih23 => ?_) ?_
  · have ih23 : VV 0 0 23 [(0, .ref (sz + r)), (1, .int (chL (rlS f 6) (k23 + 1)).1), (2, .int (o1 (chL (rlS f 6) (k23 + 1)).2)), (3, .int (o2 (chL (rlS f 6) (k23 + 1)).2)), (4, .int (nI (k23 + 1)))] [] (patch G r 7 (rlS f 6), T) := ih23
    show VV 0 0 23 [(0, .ref (sz + r)), (1, .int (chL (rlS f 6) k23).1), (2, .int (o1 (chL (rlS f 6) k23).2)), (3, .int (o2 (chL (rlS f 6) k23).2)), (4, .int (nI k23))] [] (patch G r 7 (rlS f 6), T)
    refine ro_iload (i := 4) (q := 25) hX dX1_settle_23 rfl rfl ?_
    refine ro_bipush (v := nI 30) (q := 27) hX dX1_settle_25 rfl rfl ?_
    refine ro_icmp_ge (tgt := 95) (q := 30) hX dX1_settle_27 (by decide) rfl (fun q => absurd q (by first | exact ni_nle (by omega) (by omega) | exact ni_lt (by omega) (by omega))) (fun _ => ?_)
    refine ro_aload_n (i := 0) (q := 31) hX dX1_settle_30 rfl rfl rfl ?_
    refine ro_iload (i := 4) (q := 33) hX dX1_settle_31 rfl rfl ?_
    refine ro_callVi (q9 := 36) hX (s_copySet hB (by omega)) mw_X1_copySet kl_X1_75 (isB_lt hB) (fun cy => cell1 (isB_kd hB).2.2.1) rfl rfl rfl (Nat.le_of_ble_eq_true rfl) ⟨Nat.le_of_ble_eq_true rfl, Nat.le_of_ble_eq_true rfl⟩ dX1_settle_33 ⟨Nat.le_of_ble_eq_true rfl, Nat.le_of_ble_eq_true rfl⟩ rfl ?_
    refine ro_istore (i := 5) (q := 38) hX dX1_settle_36 (Nat.le_of_ble_eq_true rfl) rfl ?_
    refine ro_iconst (v := nI 0) (q := 39) hX dX1_settle_38 rfl rfl ?_
    refine ro_istore (i := 6) (q := 41) hX dX1_settle_39 (Nat.le_of_ble_eq_true rfl) rfl ?_
    refine vv_LM (L' := [(0, .ref (sz + r)), (1, .int (chI (rlS f 6) k23 (chL (rlS f 6) k23) 0).1), (2, .int (o1 (chI (rlS f 6) k23 (chL (rlS f 6) k23) 0).2)), (3, .int (o2 (chI (rlS f 6) k23 (chL (rlS f 6) k23) 0).2)), (4, .int (nI k23)), (5, .int (cpS (rlS f 6) k23)), (6, .int (nI 0))]) (M' := (patch G r 7 (rlS f 6), T)) (by first | with_reducible rfl | (simp [chI, o1, o2, setL_s, setL_t, setL_0, dropL_0, dropL_c, *]; done) | (simp only [chI, o1, o2, setL_s, setL_t, setL_0, dropL_0, dropL_c]; (repeat' split) <;> first | with_reducible rfl | contradiction | (simp_all; done)) | rfl) (by first | with_reducible rfl | (simp [chI, o1, o2, setL_s, setL_t, setL_0, dropL_0, dropL_c, *]; done) | (simp only [chI, o1, o2, setL_s, setL_t, setL_0, dropL_0, dropL_c]; (repeat' split) <;> first | with_reducible rfl | contradiction | (simp_all; done)) | rfl) ?_
    refine down_ind (P := fun k41 => VV 0 0 41 [(0, .ref (sz + r)), (1, .int (chI (rlS f 6) k23 (chL (rlS f 6) k23) k41).1), (2, .int (o1 (chI (rlS f 6) k23 (chL (rlS f 6) k23) k41).2)), (3, .int (o2 (chI (rlS f 6) k23 (chL (rlS f 6) k23) k41).2)), (4, .int (nI k23)), (5, .int (cpS (rlS f 6) k23)), (6, .int (nI k41))] [] (patch G r 7 (rlS f 6), T)) (6) (fun k41 hk41 ih41 => ?_) ?_
    · have ih41 : VV 0 0 41 [(0, .ref (sz + r)), (1, .int (chI (rlS f 6) k23 (chL (rlS f 6) k23) (k41 + 1)).1), (2, .int (o1 (chI (rlS f 6) k23 (chL (rlS f 6) k23) (k41 + 1)).2)), (3, .int (o2 (chI (rlS f 6) k23 (chL (rlS f 6) k23) (k41 + 1)).2)), (4, .int (nI k23)), (5, .int (cpS (rlS f 6) k23)), (6, .int (nI (k41 + 1)))] [] (patch G r 7 (rlS f 6), T) := ih41
      show VV 0 0 41 [(0, .ref (sz + r)), (1, .int (chI (rlS f 6) k23 (chL (rlS f 6) k23) k41).1), (2, .int (o1 (chI (rlS f 6) k23 (chL (rlS f 6) k23) k41).2)), (3, .int (o2 (chI (rlS f 6) k23 (chL (rlS f 6) k23) k41).2)), (4, .int (nI k23)), (5, .int (cpS (rlS f 6) k23)), (6, .int (nI k41))] [] (patch G r 7 (rlS f 6), T)
      refine ro_iload (i := 6) (q := 43) hX dX1_settle_41 rfl rfl ?_
      refine ro_bipush (v := nI 6) (q := 45) hX dX1_settle_43 rfl rfl ?_
      refine ro_icmp_ge (tgt := 89) (q := 48) hX dX1_settle_45 (by decide) rfl (fun q => absurd q (by first | exact ni_nle (by omega) (by omega) | exact ni_lt (by omega) (by omega))) (fun _ => ?_)
      refine ro_aload_n (i := 0) (q := 49) hX dX1_settle_48 rfl rfl rfl ?_
      refine ro_iload (i := 6) (q := 51) hX dX1_settle_49 rfl rfl ?_
      refine ro_iload (i := 5) (q := 53) hX dX1_settle_51 rfl rfl ?_
      refine ro_callVi (q9 := 56) hX (s_rankOf hB (by omega)) mw_X1_rankOf kl_X1_142 (isB_lt hB) (fun cy => cell1 (isB_kd hB).2.2.1) rfl rfl rfl (Nat.le_of_ble_eq_true rfl) ⟨Nat.le_of_ble_eq_true rfl, Nat.le_of_ble_eq_true rfl⟩ dX1_settle_53 ⟨Nat.le_of_ble_eq_true rfl, Nat.le_of_ble_eq_true rfl⟩ rfl ?_
      refine ro_istore (i := 7) (q := 58) hX dX1_settle_56 (Nat.le_of_ble_eq_true rfl) rfl ?_
      refine ro_iload (i := 7) (q := 60) hX dX1_settle_58 rfl rfl ?_
      refine ro_iload_n (i := 1) (q := 61) hX dX1_settle_60 rfl rfl rfl ?_
      refine ro_icmp_ge (tgt := 83) (q := 64) hX dX1_settle_61 (by decide) rfl (fun q1 => ?_) (fun q1 => ?_)
      · skip
        refine ro_iinc (i := 6) (v := nI (k41 + 1)) (q := 86) hX dX1_settle_83 rfl (ni_inc _) (Nat.le_of_ble_eq_true rfl) rfl ?_
        refine ro_goto (tgt := 41) hX dX1_settle_86 (by decide) ?_
        refine ro_drop [7] hX rfl ?_
        exact vv_LM (by first | with_reducible rfl | (simp [chI, o1, o2, setL_s, setL_t, setL_0, dropL_0, dropL_c, *]; done) | (simp only [chI, o1, o2, setL_s, setL_t, setL_0, dropL_0, dropL_c]; (repeat' split) <;> first | with_reducible rfl | contradiction | (simp_all; done)) | rfl) (by first | with_reducible rfl | (simp [chI, o1, o2, setL_s, setL_t, setL_0, dropL_0, dropL_c, *]; done) | (simp only [chI, o1, o2, setL_s, setL_t, setL_0, dropL_0, dropL_c]; (repeat' split) <;> first | with_reducible rfl | contradiction | (simp_all; done)) | rfl) ih41
      · skip
        refine ro_aload_n (i := 0) (q := 65) hX dX1_settle_64 rfl rfl rfl ?_
        refine ro_iload (i := 4) (q := 67) hX dX1_settle_65 rfl rfl ?_
        refine ro_callVi (q9 := 70) hX (s_bestHost hB (by omega)) mw_X1_bestHost kl_X1_79 (isB_lt hB) (fun cy => cell1 (isB_kd hB).2.2.1) rfl rfl rfl (Nat.le_of_ble_eq_true rfl) ⟨Nat.le_of_ble_eq_true rfl, Nat.le_of_ble_eq_true rfl⟩ dX1_settle_67 ⟨Nat.le_of_ble_eq_true rfl, Nat.le_of_ble_eq_true rfl⟩ rfl ?_
        refine ro_iconst (v := (-1)) (q := 71) hX dX1_settle_70 rfl rfl ?_
        refine ro_icmp_eq (tgt := 83) (q := 74) hX dX1_settle_71 (by decide) rfl (fun q2 => ?_) (fun q2 => ?_)
        · rw [oNb] at q2
          refine ro_iinc (i := 6) (v := nI (k41 + 1)) (q := 86) hX dX1_settle_83 rfl (ni_inc _) (Nat.le_of_ble_eq_true rfl) rfl ?_
          refine ro_goto (tgt := 41) hX dX1_settle_86 (by decide) ?_
          refine ro_drop [7] hX rfl ?_
          exact vv_LM (by first | with_reducible rfl | (simp [chI, o1, o2, setL_s, setL_t, setL_0, dropL_0, dropL_c, *]; done) | (simp only [chI, o1, o2, setL_s, setL_t, setL_0, dropL_0, dropL_c]; (repeat' split) <;> first | with_reducible rfl | contradiction | (simp_all; done)) | rfl) (by first | with_reducible rfl | (simp [chI, o1, o2, setL_s, setL_t, setL_0, dropL_0, dropL_c, *]; done) | (simp only [chI, o1, o2, setL_s, setL_t, setL_0, dropL_0, dropL_c]; (repeat' split) <;> first | with_reducible rfl | contradiction | (simp_all; done)) | rfl) ih41
        · rw [oNb] at q2
          refine ro_iload (i := 7) (q := 76) hX dX1_settle_74 rfl rfl ?_
          refine ro_istore_n (i := 1) (q := 77) hX dX1_settle_76 rfl (Nat.le_of_ble_eq_true rfl) rfl ?_
          refine ro_iload (i := 4) (q := 79) hX dX1_settle_77 rfl rfl ?_
          refine ro_istore_n (i := 2) (q := 80) hX dX1_settle_79 rfl (Nat.le_of_ble_eq_true rfl) rfl ?_
          refine ro_iload (i := 6) (q := 82) hX dX1_settle_80 rfl rfl ?_
          refine ro_istore_n (i := 3) (q := 83) hX dX1_settle_82 rfl (Nat.le_of_ble_eq_true rfl) rfl ?_
          refine ro_iinc (i := 6) (v := nI (k41 + 1)) (q := 86) hX dX1_settle_83 rfl (ni_inc _) (Nat.le_of_ble_eq_true rfl) rfl ?_
          refine ro_goto (tgt := 41) hX dX1_settle_86 (by decide) ?_
          refine ro_drop [7] hX rfl ?_
          exact vv_LM (by first | with_reducible rfl | (simp [chI, o1, o2, setL_s, setL_t, setL_0, dropL_0, dropL_c, *]; done) | (simp only [chI, o1, o2, setL_s, setL_t, setL_0, dropL_0, dropL_c]; (repeat' split) <;> first | with_reducible rfl | contradiction | (simp_all; done)) | rfl) (by first | with_reducible rfl | (simp [chI, o1, o2, setL_s, setL_t, setL_0, dropL_0, dropL_c, *]; done) | (simp only [chI, o1, o2, setL_s, setL_t, setL_0, dropL_0, dropL_c]; (repeat' split) <;> first | with_reducible rfl | contradiction | (simp_all; done)) | rfl) ih41
    · show VV 0 0 41 [(0, .ref (sz + r)), (1, .int (chI (rlS f 6) k23 (chL (rlS f 6) k23) 6).1), (2, .int (o1 (chI (rlS f 6) k23 (chL (rlS f 6) k23) 6).2)), (3, .int (o2 (chI (rlS f 6) k23 (chL (rlS f 6) k23) 6).2)), (4, .int (nI k23)), (5, .int (cpS (rlS f 6) k23)), (6, .int (nI 6))] [] (patch G r 7 (rlS f 6), T)
      refine ro_iload (i := 6) (q := 43) hX dX1_settle_41 rfl rfl ?_
      refine ro_bipush (v := nI 6) (q := 45) hX dX1_settle_43 rfl rfl ?_
      refine ro_icmp_ge (tgt := 89) (q := 48) hX dX1_settle_45 (by decide) rfl (fun _ => ?_) (fun q => absurd (by decide) q)
      refine ro_iinc (i := 4) (v := nI (k23 + 1)) (q := 92) hX dX1_settle_89 rfl (ni_inc _) (Nat.le_of_ble_eq_true rfl) rfl ?_
      refine ro_goto (tgt := 23) hX dX1_settle_92 (by decide) ?_
      refine ro_drop [5, 6] hX rfl ?_
      exact vv_LM (by first | with_reducible rfl | (simp [chL, o1, o2, setL_s, setL_t, setL_0, dropL_0, dropL_c, *]; done) | (simp only [chL, o1, o2, setL_s, setL_t, setL_0, dropL_0, dropL_c]; (repeat' split) <;> first | with_reducible rfl | contradiction | (simp_all; done)) | rfl) (by first | with_reducible rfl | (simp [chL, o1, o2, setL_s, setL_t, setL_0, dropL_0, dropL_c, *]; done) | (simp only [chL, o1, o2, setL_s, setL_t, setL_0, dropL_0, dropL_c]; (repeat' split) <;> first | with_reducible rfl | contradiction | (simp_all; done)) | rfl) ih23
  · show VV 0 0 23 [(0, .ref (sz + r)), (1, .int (chL (rlS f 6) 30).1), (2, .int (o1 (chL (rlS f 6) 30).2)), (3, .int (o2 (chL (rlS f 6) 30).2)), (4, .int (nI 30))] [] (patch G r 7 (rlS f 6), T)
    refine ro_iload (i := 4) (q := 25) hX dX1_settle_23 rfl rfl ?_
    refine ro_bipush (v := nI 30) (q := 27) hX dX1_settle_25 rfl rfl ?_
    refine ro_icmp_ge (tgt := 95) (q := 30) hX dX1_settle_27 (by decide) rfl (fun _ => ?_) (fun q => absurd (by decide) q)
    refine vv_LM (L' := [(0, .ref (sz + r)), (1, .int (chL (rlS f 6) 30).1), (2, .int (-1)), (3, .int (-1)), (4, .int (nI 30))]) (M' := (patch G r 7 (rlS f 6), T)) (by rw [hc]; rfl) rfl ?_
    refine ro_iload_n (i := 2) (q := 96) hX dX1_settle_95 rfl rfl rfl ?_
    refine ro_iconst (v := (-1)) (q := 97) hX dX1_settle_96 rfl rfl ?_
    refine ro_icmp_eq (tgt := 132) (q := 100) hX dX1_settle_97 (by decide) rfl (fun _ => ?_) (fun q => absurd (by decide) q)
    exact fin_v hF (Nat.le_of_ble_eq_true rfl) (Nat.le_of_ble_eq_true rfl) dX1_settle_132 (by first | with_reducible rfl | (simp [seS, seS1, setL_s, setL_t, setL_0, dropL_0, dropL_c, *]; done) | (simp only [seS, seS1, setL_s, setL_t, setL_0, dropL_0, dropL_c]; (repeat' split) <;> first | with_reducible rfl | contradiction | (simp_all; done)) | rfl)
set_option maxRecDepth 20000 in
set_option maxHeartbeats 2000000 in
theorem s_settle_s (hB : isB r) (hb : rlS f 6 0 11 = -1) {p h : Nat} (hc : (chL (rlS f 6) 30).2 = some (p, h)) (hp : p < 30) (hh : h < 6) : Does sz I_X1_settle [.ref (sz + r)] (patch G r 7 f, T) 0 0 (.inl none) (patch G r 7 (seS f), T) := by
  refine Does.of (L := [(0, .ref (sz + r))]) (by decide +kernel) (Nat.le_of_ble_eq_true rfl) rfl ⟨rfl, (by simp), trivial⟩ (fun VV hF => ?_)
  have hX := hF.c
  refine ro_aload_n (i := 0) (q := 1) hX dX1_settle_0 rfl rfl rfl ?_
  refine ro_callVv (q9 := 4) hX (s_releaseHosts hB) mw_X1_releaseHosts kl_X1_138 (isB_lt hB) (fun cy => cell1 (isB_kd hB).2.2.1) rfl rfl rfl (Nat.le_of_ble_eq_true rfl) ⟨Nat.le_of_ble_eq_true rfl, Nat.le_of_ble_eq_true rfl⟩ dX1_settle_1 ⟨Nat.le_of_ble_eq_true rfl, Nat.le_of_ble_eq_true rfl⟩ rfl ?_
  refine ro_aload_n (i := 0) (q := 5) hX dX1_settle_4 rfl rfl rfl ?_
  refine ro_Sgi (j := 11) (q9 := 8) ⟨by decide, by decide⟩ hX hB kf_X1_46 dX1_settle_5 rfl ?_
  refine ro_iconst (v := (-1)) (q := 9) hX dX1_settle_8 rfl rfl ?_
  refine ro_icmp_eq (tgt := 13) (q := 12) hX dX1_settle_9 (by decide) rfl (fun _ => ?_) (fun q => absurd (hb) q)
  refine ro_ldc (v := nI 90000000) (q := 15) hX kc_X1_141 dX1_settle_13 rfl ?_
  refine ro_istore_n (i := 1) (q := 16) hX dX1_settle_15 rfl (Nat.le_of_ble_eq_true rfl) rfl ?_
  refine ro_iconst (v := (-1)) (q := 17) hX dX1_settle_16 rfl rfl ?_
  refine ro_istore_n (i := 2) (q := 18) hX dX1_settle_17 rfl (Nat.le_of_ble_eq_true rfl) rfl ?_
  refine ro_iconst (v := (-1)) (q := 19) hX dX1_settle_18 rfl rfl ?_
  refine ro_istore_n (i := 3) (q := 20) hX dX1_settle_19 rfl (Nat.le_of_ble_eq_true rfl) rfl ?_
  refine ro_iconst (v := nI 0) (q := 21) hX dX1_settle_20 rfl rfl ?_
  refine ro_istore (i := 4) (q := 23) hX dX1_settle_21 (Nat.le_of_ble_eq_true rfl) rfl ?_
  refine vv_LM (L' := [(0, .ref (sz + r)), (1, .int (chL (rlS f 6) 0).1), (2, .int (o1 (chL (rlS f 6) 0).2)), (3, .int (o2 (chL (rlS f 6) 0).2)), (4, .int (nI 0))]) (M' := (patch G r 7 (rlS f 6), T)) (by first | with_reducible rfl | (simp [chL, o1, o2, setL_s, setL_t, setL_0, dropL_0, dropL_c, *]; done) | (simp only [chL, o1, o2, setL_s, setL_t, setL_0, dropL_0, dropL_c]; (repeat' split) <;> first | with_reducible rfl | contradiction | (simp_all; done)) | rfl) (by first | with_reducible rfl | (simp [chL, o1, o2, setL_s, setL_t, setL_0, dropL_0, dropL_c, *]; done) | (simp only [chL, o1, o2, setL_s, setL_t, setL_0, dropL_0, dropL_c]; (repeat' split) <;> first | with_reducible rfl | contradiction | (simp_all; done)) | rfl) ?_
  refine down_ind (P := fun k23 => VV 0 0 23 [(0, .ref (sz + r)), (1, .int (chL (rlS f 6) k23).1), (2, .int (o1 (chL (rlS f 6) k23).2)), (3, .int (o2 (chL (rlS f 6) k23).2)), (4, .int (nI k23))] [] (patch G r 7 (rlS f 6), T)) (30) (fun k23 hk23 ih23 => ?_) ?_
  · have ih23 : VV 0 0 23 [(0, .ref (sz + r)), (1, .int (chL (rlS f 6) (k23 + 1)).1), (2, .int (o1 (chL (rlS f 6) (k23 + 1)).2)), (3, .int (o2 (chL (rlS f 6) (k23 + 1)).2)), (4, .int (nI (k23 + 1)))] [] (patch G r 7 (rlS f 6), T) := ih23
    show VV 0 0 23 [(0, .ref (sz + r)), (1, .int (chL (rlS f 6) k23).1), (2, .int (o1 (chL (rlS f 6) k23).2)), (3, .int (o2 (chL (rlS f 6) k23).2)), (4, .int (nI k23))] [] (patch G r 7 (rlS f 6), T)
    refine ro_iload (i := 4) (q := 25) hX dX1_settle_23 rfl rfl ?_
    refine ro_bipush (v := nI 30) (q := 27) hX dX1_settle_25 rfl rfl ?_
    refine ro_icmp_ge (tgt := 95) (q := 30) hX dX1_settle_27 (by decide) rfl (fun q => absurd q (by first | exact ni_nle (by omega) (by omega) | exact ni_lt (by omega) (by omega))) (fun _ => ?_)
    refine ro_aload_n (i := 0) (q := 31) hX dX1_settle_30 rfl rfl rfl ?_
    refine ro_iload (i := 4) (q := 33) hX dX1_settle_31 rfl rfl ?_
    refine ro_callVi (q9 := 36) hX (s_copySet hB (by omega)) mw_X1_copySet kl_X1_75 (isB_lt hB) (fun cy => cell1 (isB_kd hB).2.2.1) rfl rfl rfl (Nat.le_of_ble_eq_true rfl) ⟨Nat.le_of_ble_eq_true rfl, Nat.le_of_ble_eq_true rfl⟩ dX1_settle_33 ⟨Nat.le_of_ble_eq_true rfl, Nat.le_of_ble_eq_true rfl⟩ rfl ?_
    refine ro_istore (i := 5) (q := 38) hX dX1_settle_36 (Nat.le_of_ble_eq_true rfl) rfl ?_
    refine ro_iconst (v := nI 0) (q := 39) hX dX1_settle_38 rfl rfl ?_
    refine ro_istore (i := 6) (q := 41) hX dX1_settle_39 (Nat.le_of_ble_eq_true rfl) rfl ?_
    refine vv_LM (L' := [(0, .ref (sz + r)), (1, .int (chI (rlS f 6) k23 (chL (rlS f 6) k23) 0).1), (2, .int (o1 (chI (rlS f 6) k23 (chL (rlS f 6) k23) 0).2)), (3, .int (o2 (chI (rlS f 6) k23 (chL (rlS f 6) k23) 0).2)), (4, .int (nI k23)), (5, .int (cpS (rlS f 6) k23)), (6, .int (nI 0))]) (M' := (patch G r 7 (rlS f 6), T)) (by first | with_reducible rfl | (simp [chI, o1, o2, setL_s, setL_t, setL_0, dropL_0, dropL_c, *]; done) | (simp only [chI, o1, o2, setL_s, setL_t, setL_0, dropL_0, dropL_c]; (repeat' split) <;> first | with_reducible rfl | contradiction | (simp_all; done)) | rfl) (by first | with_reducible rfl | (simp [chI, o1, o2, setL_s, setL_t, setL_0, dropL_0, dropL_c, *]; done) | (simp only [chI, o1, o2, setL_s, setL_t, setL_0, dropL_0, dropL_c]; (repeat' split) <;> first | with_reducible rfl | contradiction | (simp_all; done)) | rfl) ?_
    refine down_ind (P := fun k41 => VV 0 0 41 [(0, .ref (sz + r)), (1, .int (chI (rlS f 6) k23 (chL (rlS f 6) k23) k41).1), (2, .int (o1 (chI (rlS f 6) k23 (chL (rlS f 6) k23) k41).2)), (3, .int (o2 (chI (rlS f 6) k23 (chL (rlS f 6) k23) k41).2)), (4, .int (nI k23)), (5, .int (cpS (rlS f 6) k23)), (6, .int (nI k41))] [] (patch G r 7 (rlS f 6), T)) (6) (fun k41 hk41 ih41 => ?_) ?_
    · have ih41 : VV 0 0 41 [(0, .ref (sz + r)), (1, .int (chI (rlS f 6) k23 (chL (rlS f 6) k23) (k41 + 1)).1), (2, .int (o1 (chI (rlS f 6) k23 (chL (rlS f 6) k23) (k41 + 1)).2)), (3, .int (o2 (chI (rlS f 6) k23 (chL (rlS f 6) k23) (k41 + 1)).2)), (4, .int (nI k23)), (5, .int (cpS (rlS f 6) k23)), (6, .int (nI (k41 + 1)))] [] (patch G r 7 (rlS f 6), T) := ih41
      show VV 0 0 41 [(0, .ref (sz + r)), (1, .int (chI (rlS f 6) k23 (chL (rlS f 6) k23) k41).1), (2, .int (o1 (chI (rlS f 6) k23 (chL (rlS f 6) k23) k41).2)), (3, .int (o2 (chI (rlS f 6) k23 (chL (rlS f 6) k23) k41).2)), (4, .int (nI k23)), (5, .int (cpS (rlS f 6) k23)), (6, .int (nI k41))] [] (patch G r 7 (rlS f 6), T)
      refine ro_iload (i := 6) (q := 43) hX dX1_settle_41 rfl rfl ?_
      refine ro_bipush (v := nI 6) (q := 45) hX dX1_settle_43 rfl rfl ?_
      refine ro_icmp_ge (tgt := 89) (q := 48) hX dX1_settle_45 (by decide) rfl (fun q => absurd q (by first | exact ni_nle (by omega) (by omega) | exact ni_lt (by omega) (by omega))) (fun _ => ?_)
      refine ro_aload_n (i := 0) (q := 49) hX dX1_settle_48 rfl rfl rfl ?_
      refine ro_iload (i := 6) (q := 51) hX dX1_settle_49 rfl rfl ?_
      refine ro_iload (i := 5) (q := 53) hX dX1_settle_51 rfl rfl ?_
      refine ro_callVi (q9 := 56) hX (s_rankOf hB (by omega)) mw_X1_rankOf kl_X1_142 (isB_lt hB) (fun cy => cell1 (isB_kd hB).2.2.1) rfl rfl rfl (Nat.le_of_ble_eq_true rfl) ⟨Nat.le_of_ble_eq_true rfl, Nat.le_of_ble_eq_true rfl⟩ dX1_settle_53 ⟨Nat.le_of_ble_eq_true rfl, Nat.le_of_ble_eq_true rfl⟩ rfl ?_
      refine ro_istore (i := 7) (q := 58) hX dX1_settle_56 (Nat.le_of_ble_eq_true rfl) rfl ?_
      refine ro_iload (i := 7) (q := 60) hX dX1_settle_58 rfl rfl ?_
      refine ro_iload_n (i := 1) (q := 61) hX dX1_settle_60 rfl rfl rfl ?_
      refine ro_icmp_ge (tgt := 83) (q := 64) hX dX1_settle_61 (by decide) rfl (fun q1 => ?_) (fun q1 => ?_)
      · skip
        refine ro_iinc (i := 6) (v := nI (k41 + 1)) (q := 86) hX dX1_settle_83 rfl (ni_inc _) (Nat.le_of_ble_eq_true rfl) rfl ?_
        refine ro_goto (tgt := 41) hX dX1_settle_86 (by decide) ?_
        refine ro_drop [7] hX rfl ?_
        exact vv_LM (by first | with_reducible rfl | (simp [chI, o1, o2, setL_s, setL_t, setL_0, dropL_0, dropL_c, *]; done) | (simp only [chI, o1, o2, setL_s, setL_t, setL_0, dropL_0, dropL_c]; (repeat' split) <;> first | with_reducible rfl | contradiction | (simp_all; done)) | rfl) (by first | with_reducible rfl | (simp [chI, o1, o2, setL_s, setL_t, setL_0, dropL_0, dropL_c, *]; done) | (simp only [chI, o1, o2, setL_s, setL_t, setL_0, dropL_0, dropL_c]; (repeat' split) <;> first | with_reducible rfl | contradiction | (simp_all; done)) | rfl) ih41
      · skip
        refine ro_aload_n (i := 0) (q := 65) hX dX1_settle_64 rfl rfl rfl ?_
        refine ro_iload (i := 4) (q := 67) hX dX1_settle_65 rfl rfl ?_
        refine ro_callVi (q9 := 70) hX (s_bestHost hB (by omega)) mw_X1_bestHost kl_X1_79 (isB_lt hB) (fun cy => cell1 (isB_kd hB).2.2.1) rfl rfl rfl (Nat.le_of_ble_eq_true rfl) ⟨Nat.le_of_ble_eq_true rfl, Nat.le_of_ble_eq_true rfl⟩ dX1_settle_67 ⟨Nat.le_of_ble_eq_true rfl, Nat.le_of_ble_eq_true rfl⟩ rfl ?_
        refine ro_iconst (v := (-1)) (q := 71) hX dX1_settle_70 rfl rfl ?_
        refine ro_icmp_eq (tgt := 83) (q := 74) hX dX1_settle_71 (by decide) rfl (fun q2 => ?_) (fun q2 => ?_)
        · rw [oNb] at q2
          refine ro_iinc (i := 6) (v := nI (k41 + 1)) (q := 86) hX dX1_settle_83 rfl (ni_inc _) (Nat.le_of_ble_eq_true rfl) rfl ?_
          refine ro_goto (tgt := 41) hX dX1_settle_86 (by decide) ?_
          refine ro_drop [7] hX rfl ?_
          exact vv_LM (by first | with_reducible rfl | (simp [chI, o1, o2, setL_s, setL_t, setL_0, dropL_0, dropL_c, *]; done) | (simp only [chI, o1, o2, setL_s, setL_t, setL_0, dropL_0, dropL_c]; (repeat' split) <;> first | with_reducible rfl | contradiction | (simp_all; done)) | rfl) (by first | with_reducible rfl | (simp [chI, o1, o2, setL_s, setL_t, setL_0, dropL_0, dropL_c, *]; done) | (simp only [chI, o1, o2, setL_s, setL_t, setL_0, dropL_0, dropL_c]; (repeat' split) <;> first | with_reducible rfl | contradiction | (simp_all; done)) | rfl) ih41
        · rw [oNb] at q2
          refine ro_iload (i := 7) (q := 76) hX dX1_settle_74 rfl rfl ?_
          refine ro_istore_n (i := 1) (q := 77) hX dX1_settle_76 rfl (Nat.le_of_ble_eq_true rfl) rfl ?_
          refine ro_iload (i := 4) (q := 79) hX dX1_settle_77 rfl rfl ?_
          refine ro_istore_n (i := 2) (q := 80) hX dX1_settle_79 rfl (Nat.le_of_ble_eq_true rfl) rfl ?_
          refine ro_iload (i := 6) (q := 82) hX dX1_settle_80 rfl rfl ?_
          refine ro_istore_n (i := 3) (q := 83) hX dX1_settle_82 rfl (Nat.le_of_ble_eq_true rfl) rfl ?_
          refine ro_iinc (i := 6) (v := nI (k41 + 1)) (q := 86) hX dX1_settle_83 rfl (ni_inc _) (Nat.le_of_ble_eq_true rfl) rfl ?_
          refine ro_goto (tgt := 41) hX dX1_settle_86 (by decide) ?_
          refine ro_drop [7] hX rfl ?_
          exact vv_LM (by first | with_reducible rfl | (simp [chI, o1, o2, setL_s, setL_t, setL_0, dropL_0, dropL_c, *]; done) | (simp only [chI, o1, o2, setL_s, setL_t, setL_0, dropL_0, dropL_c]; (repeat' split) <;> first | with_reducible rfl | contradiction | (simp_all; done)) | rfl) (by first | with_reducible rfl | (simp [chI, o1, o2, setL_s, setL_t, setL_0, dropL_0, dropL_c, *]; done) | (simp only [chI, o1, o2, setL_s, setL_t, setL_0, dropL_0, dropL_c]; (repeat' split) <;> first | with_reducible rfl | contradiction | (simp_all; done)) | rfl) ih41
    · show VV 0 0 41 [(0, .ref (sz + r)), (1, .int (chI (rlS f 6) k23 (chL (rlS f 6) k23) 6).1), (2, .int (o1 (chI (rlS f 6) k23 (chL (rlS f 6) k23) 6).2)), (3, .int (o2 (chI (rlS f 6) k23 (chL (rlS f 6) k23) 6).2)), (4, .int (nI k23)), (5, .int (cpS (rlS f 6) k23)), (6, .int (nI 6))] [] (patch G r 7 (rlS f 6), T)
      refine ro_iload (i := 6) (q := 43) hX dX1_settle_41 rfl rfl ?_
      refine ro_bipush (v := nI 6) (q := 45) hX dX1_settle_43 rfl rfl ?_
      refine ro_icmp_ge (tgt := 89) (q := 48) hX dX1_settle_45 (by decide) rfl (fun _ => ?_) (fun q => absurd (by decide) q)
      refine ro_iinc (i := 4) (v := nI (k23 + 1)) (q := 92) hX dX1_settle_89 rfl (ni_inc _) (Nat.le_of_ble_eq_true rfl) rfl ?_
      refine ro_goto (tgt := 23) hX dX1_settle_92 (by decide) ?_
      refine ro_drop [5, 6] hX rfl ?_
      exact vv_LM (by first | with_reducible rfl | (simp [chL, o1, o2, setL_s, setL_t, setL_0, dropL_0, dropL_c, *]; done) | (simp only [chL, o1, o2, setL_s, setL_t, setL_0, dropL_0, dropL_c]; (repeat' split) <;> first | with_reducible rfl | contradiction | (simp_all; done)) | rfl) (by first | with_reducible rfl | (simp [chL, o1, o2, setL_s, setL_t, setL_0, dropL_0, dropL_c, *]; done) | (simp only [chL, o1, o2, setL_s, setL_t, setL_0, dropL_0, dropL_c]; (repeat' split) <;> first | with_reducible rfl | contradiction | (simp_all; done)) | rfl) ih23
  · show VV 0 0 23 [(0, .ref (sz + r)), (1, .int (chL (rlS f 6) 30).1), (2, .int (o1 (chL (rlS f 6) 30).2)), (3, .int (o2 (chL (rlS f 6) 30).2)), (4, .int (nI 30))] [] (patch G r 7 (rlS f 6), T)
    refine ro_iload (i := 4) (q := 25) hX dX1_settle_23 rfl rfl ?_
    refine ro_bipush (v := nI 30) (q := 27) hX dX1_settle_25 rfl rfl ?_
    refine ro_icmp_ge (tgt := 95) (q := 30) hX dX1_settle_27 (by decide) rfl (fun _ => ?_) (fun q => absurd (by decide) q)
    refine vv_LM (L' := [(0, .ref (sz + r)), (1, .int (chL (rlS f 6) 30).1), (2, .int (nI p)), (3, .int (nI h)), (4, .int (nI 30))]) (M' := (patch G r 7 (rlS f 6), T)) (by rw [hc]; rfl) rfl ?_
    refine ro_iload_n (i := 2) (q := 96) hX dX1_settle_95 rfl rfl rfl ?_
    refine ro_iconst (v := (-1)) (q := 97) hX dX1_settle_96 rfl rfl ?_
    refine ro_icmp_eq (tgt := 132) (q := 100) hX dX1_settle_97 (by decide) rfl (fun q => absurd q (ni_m1 (by omega))) (fun _ => ?_)
    refine ro_aload_n (i := 0) (q := 101) hX dX1_settle_100 rfl rfl rfl ?_
    refine ro_aload_n (i := 0) (q := 102) hX dX1_settle_101 rfl rfl rfl ?_
    refine ro_iload_n (i := 2) (q := 103) hX dX1_settle_102 rfl rfl rfl ?_
    refine ro_callVi (q9 := 106) hX (s_bestHost hB (by omega)) mw_X1_bestHost kl_X1_79 (isB_lt hB) (fun cy => cell1 (isB_kd hB).2.2.1) rfl rfl rfl (Nat.le_of_ble_eq_true rfl) ⟨Nat.le_of_ble_eq_true rfl, Nat.le_of_ble_eq_true rfl⟩ dX1_settle_103 ⟨Nat.le_of_ble_eq_true rfl, Nat.le_of_ble_eq_true rfl⟩ rfl ?_
    refine ro_Spi (j := 13) (q9 := 109) ⟨by decide, by decide⟩ hX hB kf_X1_52 dX1_settle_106 rfl ?_
    refine ro_aload_n (i := 0) (q := 110) hX dX1_settle_109 rfl rfl rfl ?_
    refine ro_iload_n (i := 2) (q := 111) hX dX1_settle_110 rfl rfl rfl ?_
    refine ro_Spi (j := 11) (q9 := 114) ⟨by decide, by decide⟩ hX hB kf_X1_46 dX1_settle_111 rfl ?_
    refine ro_aload_n (i := 0) (q := 115) hX dX1_settle_114 rfl rfl rfl ?_
    refine ro_iload_n (i := 3) (q := 116) hX dX1_settle_115 rfl rfl rfl ?_
    refine ro_Spi (j := 12) (q9 := 119) ⟨by decide, by decide⟩ hX hB kf_X1_49 dX1_settle_116 rfl ?_
    refine ro_aload_n (i := 0) (q := 120) hX dX1_settle_119 rfl rfl rfl ?_
    refine ro_aload_n (i := 0) (q := 121) hX dX1_settle_120 rfl rfl rfl ?_
    refine ro_Sgi (j := 8) (q9 := 124) ⟨by decide, by decide⟩ hX hB kf_X1_37 dX1_settle_121 rfl ?_
    refine ro_aload_n (i := 0) (q := 125) hX dX1_settle_124 rfl rfl rfl ?_
    refine ro_Sgi (j := 9) (q9 := 128) ⟨by decide, by decide⟩ hX hB kf_X1_40 dX1_settle_125 rfl ?_
    refine ro_iadd (q := 129) hX dX1_settle_128 rfl ?_
    refine ro_Spi (j := 14) (q9 := 132) ⟨by decide, by decide⟩ hX hB kf_X1_55 dX1_settle_129 rfl ?_
    exact fin_v hF (Nat.le_of_ble_eq_true rfl) (Nat.le_of_ble_eq_true rfl) dX1_settle_132 (by first | with_reducible rfl | (simp [seS, seS1, setT, put_at, setL_s, setL_t, setL_0, dropL_0, dropL_c, *]; done) | (simp only [seS, seS1, setT, put_at, setL_s, setL_t, setL_0, dropL_0, dropL_c]; (repeat' split) <;> first | with_reducible rfl | contradiction | (simp_all; done)) | rfl)
theorem s_settle (hB : isB r) : Does sz I_X1_settle [.ref (sz + r)] (patch G r 7 f, T) 0 0 (.inl none) (patch G r 7 (seS f), T) := by
  by_cases hb : rlS f 6 0 11 = -1
  · cases hc : (chL (rlS f 6) 30).2 with
    | none => exact s_settle_n hB hb hc
    | some q => exact s_settle_s hB hb (p := q.1) (h := q.2) hc (chL_in 30 hc).1 (chL_in 30 hc).2
  · exact s_settle_b hB hb
set_option maxRecDepth 20000 in
set_option maxHeartbeats 2000000 in
theorem s_place_n (hB : isB r) {p : Nat} (hp : p < 30) (hb : bestO f p = none) : Does sz I_X1_placeReplica [.ref (sz + r), .int (nI p)] (patch G r 7 f, T) 0 0 (.inl none) (patch G r 7 (plS f p), T) := by
  refine Does.of (L := [(0, .ref (sz + r)), (1, .int (nI p))]) (by decide +kernel) (Nat.le_of_ble_eq_true rfl) rfl ⟨rfl, (by simp), ⟨rfl, (by simp), trivial⟩⟩ (fun VV hF => ?_)
  have hX := hF.c
  refine ro_aload_n (i := 0) (q := 1) hX dX1_placeReplica_0 rfl rfl rfl ?_
  refine ro_iload_n (i := 1) (q := 2) hX dX1_placeReplica_1 rfl rfl rfl ?_
  refine ro_callVi (q9 := 5) hX (s_bestHost hB (by omega)) mw_X1_bestHost kl_X1_79 (isB_lt hB) (fun cy => cell1 (isB_kd hB).2.2.1) rfl rfl rfl (Nat.le_of_ble_eq_true rfl) ⟨Nat.le_of_ble_eq_true rfl, Nat.le_of_ble_eq_true rfl⟩ dX1_placeReplica_2 ⟨Nat.le_of_ble_eq_true rfl, Nat.le_of_ble_eq_true rfl⟩ rfl ?_
  refine vv_top (y := (-1)) (by rw [hb]; rfl) ?_
  refine ro_istore_n (i := 2) (q := 6) hX dX1_placeReplica_5 rfl (Nat.le_of_ble_eq_true rfl) rfl ?_
  refine ro_iload_n (i := 2) (q := 7) hX dX1_placeReplica_6 rfl rfl rfl ?_
  refine ro_callSi (q9 := 10) hX (s_isHost_m1) mw_X1_isHost kl_X1_82 rfl rfl (Nat.le_of_ble_eq_true rfl) ⟨Nat.le_of_ble_eq_true rfl, Nat.le_of_ble_eq_true rfl⟩ dX1_placeReplica_7 ⟨Nat.le_of_ble_eq_true rfl, Nat.le_of_ble_eq_true rfl⟩ rfl ?_
  refine ro_if_eq (tgt := 25) (q := 13) hX dX1_placeReplica_10 (by decide) rfl (fun _ => ?_) (fun q => absurd (by decide) q)
  exact fin_v hF (Nat.le_of_ble_eq_true rfl) (Nat.le_of_ble_eq_true rfl) dX1_placeReplica_25 (by rw [plS_n hb])
set_option maxRecDepth 20000 in
set_option maxHeartbeats 2000000 in
theorem s_place_s (hB : isB r) {p h : Nat} (hp : p < 30) (hh : h < 6) (hb : bestO f p = some h) : Does sz I_X1_placeReplica [.ref (sz + r), .int (nI p)] (patch G r 7 f, T) 0 0 (.inl none) (patch G r 7 (plS f p), T) := by
  refine Does.of (L := [(0, .ref (sz + r)), (1, .int (nI p))]) (by decide +kernel) (Nat.le_of_ble_eq_true rfl) rfl ⟨rfl, (by simp), ⟨rfl, (by simp), trivial⟩⟩ (fun VV hF => ?_)
  have hX := hF.c
  refine ro_aload_n (i := 0) (q := 1) hX dX1_placeReplica_0 rfl rfl rfl ?_
  refine ro_iload_n (i := 1) (q := 2) hX dX1_placeReplica_1 rfl rfl rfl ?_
  refine ro_callVi (q9 := 5) hX (s_bestHost hB (by omega)) mw_X1_bestHost kl_X1_79 (isB_lt hB) (fun cy => cell1 (isB_kd hB).2.2.1) rfl rfl rfl (Nat.le_of_ble_eq_true rfl) ⟨Nat.le_of_ble_eq_true rfl, Nat.le_of_ble_eq_true rfl⟩ dX1_placeReplica_2 ⟨Nat.le_of_ble_eq_true rfl, Nat.le_of_ble_eq_true rfl⟩ rfl ?_
  refine vv_top (y := (nI h)) (by rw [hb]; rfl) ?_
  refine ro_istore_n (i := 2) (q := 6) hX dX1_placeReplica_5 rfl (Nat.le_of_ble_eq_true rfl) rfl ?_
  refine ro_iload_n (i := 2) (q := 7) hX dX1_placeReplica_6 rfl rfl rfl ?_
  refine ro_callSi (q9 := 10) hX (s_isHost_t (by omega)) mw_X1_isHost kl_X1_82 rfl rfl (Nat.le_of_ble_eq_true rfl) ⟨Nat.le_of_ble_eq_true rfl, Nat.le_of_ble_eq_true rfl⟩ dX1_placeReplica_7 ⟨Nat.le_of_ble_eq_true rfl, Nat.le_of_ble_eq_true rfl⟩ rfl ?_
  refine ro_if_eq (tgt := 25) (q := 13) hX dX1_placeReplica_10 (by decide) rfl (fun q => absurd q (by decide)) (fun _ => ?_)
  refine ro_aload_n (i := 0) (q := 14) hX dX1_placeReplica_13 rfl rfl rfl ?_
  refine ro_Sga (j := 3) (a := 4) (q9 := 17) ⟨by decide, rfl⟩ hX hB kf_X1_21 dX1_placeReplica_14 rfl ?_
  refine ro_iload_n (i := 2) (q := 18) hX dX1_placeReplica_17 rfl rfl rfl ?_
  refine ro_dup2 (q := 19) hX dX1_placeReplica_18 rfl rfl rfl ?_
  refine ro_Sald (a := 4) (n := h) (q9 := 20) ⟨by decide, by decide⟩ hX hB rfl (show h < 6 from by omega) dX1_placeReplica_19 rfl ?_
  refine ro_iconst (v := nI 1) (q := 21) hX dX1_placeReplica_20 rfl rfl ?_
  refine ro_iload_n (i := 1) (q := 22) hX dX1_placeReplica_21 rfl rfl rfl ?_
  refine ro_ishl (q := 23) hX dX1_placeReplica_22 rfl ?_
  refine ro_ior (q := 24) hX dX1_placeReplica_23 rfl ?_
  refine ro_Sast (a := 4) (n := h) (q9 := 25) ⟨by decide, by decide⟩ hX hB rfl (show h < 6 from by omega) dX1_placeReplica_24 rfl ?_
  exact fin_v hF (Nat.le_of_ble_eq_true rfl) (Nat.le_of_ble_eq_true rfl) dX1_placeReplica_25 (by rw [plS_s hb]; rfl)
theorem s_placeReplica (hB : isB r) {p : Nat} (hp : p < 30) : Does sz I_X1_placeReplica [.ref (sz + r), .int (nI p)] (patch G r 7 f, T) 0 0 (.inl none) (patch G r 7 (plS f p), T) := by
  cases hb : bestO f p with
  | none => exact s_place_n hB hp hb
  | some h => exact s_place_s hB hp (bestO_lt hb) hb
end
