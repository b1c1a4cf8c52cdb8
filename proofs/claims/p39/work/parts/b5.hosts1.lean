section
variable {sz : Nat} {G : Nat → Nat → Int32} {T : (Nat → Nat) × Int64} {f : SV} {B M : Nat}
set_option maxRecDepth 20000 in
set_option maxHeartbeats 2000000 in
theorem ah_pre {VV : VT} (hX : Ctx VV sz RL cL_areHosts (roomOf I_L_areHosts 0 0) 9) {pg : Int32} (e : trV f 0 = pg) (kk : VV 0 0 10 [(0, .ref (sz + 0)), (1, .int (nI 1)), (2, .int pg), (3, .int (nI 0))] [] (patch G 1 7 f, T)) : VV 0 0 0 [(0, .ref (sz + 0))] [] (patch G 1 7 f, T) := by
  refine ro_iconst (v := nI 1) (q := 1) hX dL_areHosts_0 rfl rfl ?_
  refine ro_istore_n (i := 1) (q := 2) hX dL_areHosts_1 rfl (Nat.le_of_ble_eq_true rfl) rfl ?_
  refine ro_aload_n (i := 0) (q := 3) hX dL_areHosts_2 rfl rfl rfl ?_
  refine ro_iconst (v := nI 0) (q := 4) hX dL_areHosts_3 rfl rfl ?_
  refine ro_callVi (q9 := 7) hX (x_tr (by omega)) mw_X2_transfer kl_L_51 (by decide) (fun cy => cell2 (by decide +kernel)) rfl rfl rfl (Nat.le_of_ble_eq_true rfl) ⟨Nat.le_of_ble_eq_true rfl, Nat.le_of_ble_eq_true rfl⟩ dL_areHosts_4 ⟨Nat.le_of_ble_eq_true rfl, Nat.le_of_ble_eq_true rfl⟩ rfl ?_
  refine vv_top (y := pg) (e) ?_
  refine ro_istore_n (i := 2) (q := 8) hX dL_areHosts_7 rfl (Nat.le_of_ble_eq_true rfl) rfl ?_
  refine ro_iconst (v := nI 0) (q := 9) hX dL_areHosts_8 rfl rfl ?_
  refine ro_istore_n (i := 3) (q := 10) hX dL_areHosts_9 rfl (Nat.le_of_ble_eq_true rfl) rfl ?_
  exact kk
set_option maxRecDepth 20000 in
set_option maxHeartbeats 2000000 in
theorem ah_h0 {VV : VT} (hX : Ctx VV sz RL cL_areHosts (roomOf I_L_areHosts 0 0) 9) {pg : Int32} {h : Nat} (hh : h < 6) (ho : tb (f 0 7) (nI h) = false) (kk : VV 0 0 36 [(0, .ref (sz + 0)), (1, .int (nI 1)), (2, .int pg), (3, .int (nI h)), (4, .int (nI 0)), (5, .int (nI 0)), (6, .int (f 1 h)), (7, .int (nI 0))] [] (patch G 1 7 f, T)) : VV 0 0 16 [(0, .ref (sz + 0)), (1, .int (nI 1)), (2, .int pg), (3, .int (nI h))] [] (patch G 1 7 f, T) := by
  refine ro_iconst (v := nI 0) (q := 17) hX dL_areHosts_16 rfl rfl ?_
  refine ro_istore (i := 4) (q := 19) hX dL_areHosts_17 (Nat.le_of_ble_eq_true rfl) rfl ?_
  refine ro_aload_n (i := 0) (q := 20) hX dL_areHosts_19 rfl rfl rfl ?_
  refine ro_iload_n (i := 3) (q := 21) hX dL_areHosts_20 rfl rfl rfl ?_
  refine ro_callVi (q9 := 24) hX (x_isConnected (by omega)) mw_X2_isConnected kl_L_32 (by decide) (fun cy => cell2 (by decide +kernel)) rfl rfl rfl (Nat.le_of_ble_eq_true rfl) ⟨Nat.le_of_ble_eq_true rfl, Nat.le_of_ble_eq_true rfl⟩ dL_areHosts_21 ⟨Nat.le_of_ble_eq_true rfl, Nat.le_of_ble_eq_true rfl⟩ rfl ?_
  refine vv_top (y := (nI 0)) (by rw [ho]; rfl) ?_
  refine ro_istore (i := 5) (q := 26) hX dL_areHosts_24 (Nat.le_of_ble_eq_true rfl) rfl ?_
  refine ro_aload_n (i := 0) (q := 27) hX dL_areHosts_26 rfl rfl rfl ?_
  refine ro_iload_n (i := 3) (q := 28) hX dL_areHosts_27 rfl rfl rfl ?_
  refine ro_callVi (q9 := 31) hX (x_mode (by omega)) mw_X2_mode kl_L_19 (by decide) (fun cy => cell2 (by decide +kernel)) rfl rfl rfl (Nat.le_of_ble_eq_true rfl) ⟨Nat.le_of_ble_eq_true rfl, Nat.le_of_ble_eq_true rfl⟩ dL_areHosts_28 ⟨Nat.le_of_ble_eq_true rfl, Nat.le_of_ble_eq_true rfl⟩ rfl ?_
  refine ro_istore (i := 6) (q := 33) hX dL_areHosts_31 (Nat.le_of_ble_eq_true rfl) rfl ?_
  refine ro_iconst (v := nI 0) (q := 34) hX dL_areHosts_33 rfl rfl ?_
  refine ro_istore (i := 7) (q := 36) hX dL_areHosts_34 (Nat.le_of_ble_eq_true rfl) rfl ?_
  exact kk
set_option maxRecDepth 20000 in
set_option maxHeartbeats 2000000 in
theorem ah_h1 {VV : VT} (hX : Ctx VV sz RL cL_areHosts (roomOf I_L_areHosts 0 0) 9) {pg : Int32} {h : Nat} (hh : h < 6) (ho : tb (f 0 7) (nI h) = true) (kk : VV 0 0 36 [(0, .ref (sz + 0)), (1, .int (nI 1)), (2, .int pg), (3, .int (nI h)), (4, .int (nI 0)), (5, .int (nI 1)), (6, .int (f 1 h)), (7, .int (nI 0))] [] (patch G 1 7 f, T)) : VV 0 0 16 [(0, .ref (sz + 0)), (1, .int (nI 1)), (2, .int pg), (3, .int (nI h))] [] (patch G 1 7 f, T) := by
  refine ro_iconst (v := nI 0) (q := 17) hX dL_areHosts_16 rfl rfl ?_
  refine ro_istore (i := 4) (q := 19) hX dL_areHosts_17 (Nat.le_of_ble_eq_true rfl) rfl ?_
  refine ro_aload_n (i := 0) (q := 20) hX dL_areHosts_19 rfl rfl rfl ?_
  refine ro_iload_n (i := 3) (q := 21) hX dL_areHosts_20 rfl rfl rfl ?_
  refine ro_callVi (q9 := 24) hX (x_isConnected (by omega)) mw_X2_isConnected kl_L_32 (by decide) (fun cy => cell2 (by decide +kernel)) rfl rfl rfl (Nat.le_of_ble_eq_true rfl) ⟨Nat.le_of_ble_eq_true rfl, Nat.le_of_ble_eq_true rfl⟩ dL_areHosts_21 ⟨Nat.le_of_ble_eq_true rfl, Nat.le_of_ble_eq_true rfl⟩ rfl ?_
  refine vv_top (y := (nI 1)) (by rw [ho]; rfl) ?_
  refine ro_istore (i := 5) (q := 26) hX dL_areHosts_24 (Nat.le_of_ble_eq_true rfl) rfl ?_
  refine ro_aload_n (i := 0) (q := 27) hX dL_areHosts_26 rfl rfl rfl ?_
  refine ro_iload_n (i := 3) (q := 28) hX dL_areHosts_27 rfl rfl rfl ?_
  refine ro_callVi (q9 := 31) hX (x_mode (by omega)) mw_X2_mode kl_L_19 (by decide) (fun cy => cell2 (by decide +kernel)) rfl rfl rfl (Nat.le_of_ble_eq_true rfl) ⟨Nat.le_of_ble_eq_true rfl, Nat.le_of_ble_eq_true rfl⟩ dL_areHosts_28 ⟨Nat.le_of_ble_eq_true rfl, Nat.le_of_ble_eq_true rfl⟩ rfl ?_
  refine ro_istore (i := 6) (q := 33) hX dL_areHosts_31 (Nat.le_of_ble_eq_true rfl) rfl ?_
  refine ro_iconst (v := nI 0) (q := 34) hX dL_areHosts_33 rfl rfl ?_
  refine ro_istore (i := 7) (q := 36) hX dL_areHosts_34 (Nat.le_of_ble_eq_true rfl) rfl ?_
  exact kk
set_option maxRecDepth 20000 in
set_option maxHeartbeats 2000000 in
theorem ah_in0 {VV : VT} (hX : Ctx VV sz RL cL_areHosts (roomOf I_L_areHosts 0 0) 9) {pg md : Int32} {h : Nat} (hh : h < 6) (ho : tb (f 0 7) (nI h) = false) (kk : VV 0 0 132 [(0, .ref (sz + 0)), (1, .int (nI 1)), (2, .int pg), (3, .int (nI h)), (4, .int (nI (hdN f h 30))), (5, .int (nI 0)), (6, .int md), (7, .int (nI 30))] [] (patch G 1 7 f, T)) : VV 0 0 36 [(0, .ref (sz + 0)), (1, .int (nI 1)), (2, .int pg), (3, .int (nI h)), (4, .int (nI 0)), (5, .int (nI 0)), (6, .int md), (7, .int (nI 0))] [] (patch G 1 7 f, T) := by
  refine vv_LM (L' := [(0, .ref (sz + 0)), (1, .int (nI 1)), (2, .int pg), (3, .int (nI h)), (4, .int (nI (hdN f h 0))), (5, .int (nI 0)), (6, .int md), (7, .int (nI 0))]) (M' := (patch G 1 7 f, T)) (by rfl) rfl ?_
  refine down_ind (P := fun k36 => VV 0 0 36 [(0, .ref (sz + 0)), (1, .int (nI 1)), (2, .int pg), (3, .int (nI h)), (4, .int (nI (hdN f h k36))), (5, .int (nI 0)), (6, .int md), (7, .int (nI k36))] [] (patch G 1 7 f, T)) (30) (fun k36 hk36 ih36 => ?_) ?_
  · have ih36 : VV 0 0 36 [(0, .ref (sz + 0)), (1, .int (nI 1)), (2, .int pg), (3, .int (nI h)), (4, .int (nI (hdN f h (k36 + 1)))), (5, .int (nI 0)), (6, .int md), (7, .int (nI (k36 + 1)))] [] (patch G 1 7 f, T) := ih36
    show VV 0 0 36 [(0, .ref (sz + 0)), (1, .int (nI 1)), (2, .int pg), (3, .int (nI h)), (4, .int (nI (hdN f h k36))), (5, .int (nI 0)), (6, .int md), (7, .int (nI k36))] [] (patch G 1 7 f, T)
    refine ro_iload (i := 7) (q := 38) hX dL_areHosts_36 rfl rfl ?_
    refine ro_bipush (v := nI 30) (q := 40) hX dL_areHosts_38 rfl rfl ?_
    refine ro_icmp_ge (tgt := 132) (q := 43) hX dL_areHosts_40 (by decide) rfl (fun q => absurd q (ni_nle (by omega) (by omega))) (fun _ => ?_)
    rcases rp_cases (f := f) (h := h) (p := k36) with e | e | e
    · skip
      refine ro_aload_n (i := 0) (q := 44) hX dL_areHosts_43 rfl rfl rfl ?_
      refine ro_iload_n (i := 3) (q := 45) hX dL_areHosts_44 rfl rfl rfl ?_
      refine ro_iload (i := 7) (q := 47) hX dL_areHosts_45 rfl rfl ?_
      refine ro_callVi (q9 := 50) hX (x_rep (by omega) (by omega)) mw_X2_replica kl_L_47 (by decide) (fun cy => cell2 (by decide +kernel)) rfl rfl rfl (Nat.le_of_ble_eq_true rfl) ⟨Nat.le_of_ble_eq_true rfl, Nat.le_of_ble_eq_true rfl⟩ dL_areHosts_47 ⟨Nat.le_of_ble_eq_true rfl, Nat.le_of_ble_eq_true rfl⟩ rfl ?_
      refine vv_top (y := (nI 0)) (e) ?_
      refine ro_istore (i := 8) (q := 52) hX dL_areHosts_50 (Nat.le_of_ble_eq_true rfl) rfl ?_
      refine ro_iload (i := 4) (q := 54) hX dL_areHosts_52 rfl rfl ?_
      refine ro_iload (i := 8) (q := 56) hX dL_areHosts_54 rfl rfl ?_
      refine ro_if_ne (tgt := 63) (q := 59) hX dL_areHosts_56 (by decide) rfl (fun q => absurd (by decide) q) (fun _ => ?_)
      refine ro_iconst (v := nI 0) (q := 60) hX dL_areHosts_59 rfl rfl ?_
      refine ro_goto (tgt := 64) hX dL_areHosts_60 (by decide) ?_
      refine ro_iadd (q := 65) hX dL_areHosts_64 rfl ?_
      refine vv_top (y := (nI (hdN f h (k36 + 1)))) (hdN_0 e) ?_
      refine ro_istore (i := 4) (q := 67) hX dL_areHosts_65 (Nat.le_of_ble_eq_true rfl) rfl ?_
      refine ro_iload_n (i := 1) (q := 68) hX dL_areHosts_67 rfl rfl rfl ?_
      refine ro_if_eq (tgt := 124) (q := 71) hX dL_areHosts_68 (by decide) rfl (fun q => absurd q (by decide)) (fun _ => ?_)
      refine ro_iload (i := 5) (q := 73) hX dL_areHosts_71 rfl rfl ?_
      refine ro_if_eq (tgt := 82) (q := 76) hX dL_areHosts_73 (by decide) rfl (fun _ => ?_) (fun q => absurd (by decide) q)
      refine ro_aload_n (i := 0) (q := 83) hX dL_areHosts_82 rfl rfl rfl ?_
      refine ro_iload (i := 7) (q := 85) hX dL_areHosts_83 rfl rfl ?_
      refine ro_callVi (q9 := 88) hX (x_copies (by omega)) mw_X2_copies kl_L_39 (by decide) (fun cy => cell2 (by decide +kernel)) rfl rfl rfl (Nat.le_of_ble_eq_true rfl) ⟨Nat.le_of_ble_eq_true rfl, Nat.le_of_ble_eq_true rfl⟩ dL_areHosts_85 ⟨Nat.le_of_ble_eq_true rfl, Nat.le_of_ble_eq_true rfl⟩ rfl ?_
      refine ro_iload_n (i := 3) (q := 89) hX dL_areHosts_88 rfl rfl rfl ?_
      refine ro_ishr (q := 90) hX dL_areHosts_89 rfl ?_
      refine ro_iconst (v := nI 1) (q := 91) hX dL_areHosts_90 rfl rfl ?_
      refine ro_iand (q := 92) hX dL_areHosts_91 rfl ?_
      refine vv_top (y := (nI 0)) (cpb_o (by omega) hh ho) ?_
      refine ro_iconst (v := nI 1) (q := 93) hX dL_areHosts_92 rfl rfl ?_
      refine ro_icmp_ne (tgt := 100) (q := 96) hX dL_areHosts_93 (by decide) rfl (fun _ => ?_) (fun q => absurd q (by decide))
      refine ro_iconst (v := nI 0) (q := 101) hX dL_areHosts_100 rfl rfl ?_
      refine ro_iload (i := 5) (q := 103) hX dL_areHosts_101 rfl rfl ?_
      refine ro_if_eq (tgt := 116) (q := 106) hX dL_areHosts_103 (by decide) rfl (fun _ => ?_) (fun q => absurd (by decide) q)
      refine ro_iconst (v := nI 0) (q := 117) hX dL_areHosts_116 rfl rfl ?_
      refine ro_icmp_ne (tgt := 124) (q := 120) hX dL_areHosts_117 (by decide) rfl (fun q => absurd (by decide) q) (fun _ => ?_)
      refine ro_iconst (v := nI 1) (q := 121) hX dL_areHosts_120 rfl rfl ?_
      refine ro_goto (tgt := 125) hX dL_areHosts_121 (by decide) ?_
      refine ro_istore_n (i := 1) (q := 126) hX dL_areHosts_125 rfl (Nat.le_of_ble_eq_true rfl) rfl ?_
      refine ro_drop [8] hX rfl ?_
      refine ro_iinc (i := 7) (v := nI (k36 + 1)) (q := 129) hX dL_areHosts_126 rfl (ni_inc _) (Nat.le_of_ble_eq_true rfl) rfl ?_
      refine ro_goto (tgt := 36) hX dL_areHosts_129 (by decide) ?_
      exact vv_LM (by rfl) rfl ih36
    · skip
      refine ro_aload_n (i := 0) (q := 44) hX dL_areHosts_43 rfl rfl rfl ?_
      refine ro_iload_n (i := 3) (q := 45) hX dL_areHosts_44 rfl rfl rfl ?_
      refine ro_iload (i := 7) (q := 47) hX dL_areHosts_45 rfl rfl ?_
      refine ro_callVi (q9 := 50) hX (x_rep (by omega) (by omega)) mw_X2_replica kl_L_47 (by decide) (fun cy => cell2 (by decide +kernel)) rfl rfl rfl (Nat.le_of_ble_eq_true rfl) ⟨Nat.le_of_ble_eq_true rfl, Nat.le_of_ble_eq_true rfl⟩ dL_areHosts_47 ⟨Nat.le_of_ble_eq_true rfl, Nat.le_of_ble_eq_true rfl⟩ rfl ?_
      refine vv_top (y := (nI 1)) (e) ?_
      refine ro_istore (i := 8) (q := 52) hX dL_areHosts_50 (Nat.le_of_ble_eq_true rfl) rfl ?_
      refine ro_iload (i := 4) (q := 54) hX dL_areHosts_52 rfl rfl ?_
      refine ro_iload (i := 8) (q := 56) hX dL_areHosts_54 rfl rfl ?_
      refine ro_if_ne (tgt := 63) (q := 59) hX dL_areHosts_56 (by decide) rfl (fun _ => ?_) (fun q => absurd q (by decide))
      refine ro_iconst (v := nI 1) (q := 64) hX dL_areHosts_63 rfl rfl ?_
      refine ro_iadd (q := 65) hX dL_areHosts_64 rfl ?_
      refine vv_top (y := (nI (hdN f h (k36 + 1)))) (hdN_1 e) ?_
      refine ro_istore (i := 4) (q := 67) hX dL_areHosts_65 (Nat.le_of_ble_eq_true rfl) rfl ?_
      refine ro_iload_n (i := 1) (q := 68) hX dL_areHosts_67 rfl rfl rfl ?_
      refine ro_if_eq (tgt := 124) (q := 71) hX dL_areHosts_68 (by decide) rfl (fun q => absurd q (by decide)) (fun _ => ?_)
      refine ro_iload (i := 5) (q := 73) hX dL_areHosts_71 rfl rfl ?_
      refine ro_if_eq (tgt := 82) (q := 76) hX dL_areHosts_73 (by decide) rfl (fun _ => ?_) (fun q => absurd (by decide) q)
      refine ro_aload_n (i := 0) (q := 83) hX dL_areHosts_82 rfl rfl rfl ?_
      refine ro_iload (i := 7) (q := 85) hX dL_areHosts_83 rfl rfl ?_
      refine ro_callVi (q9 := 88) hX (x_copies (by omega)) mw_X2_copies kl_L_39 (by decide) (fun cy => cell2 (by decide +kernel)) rfl rfl rfl (Nat.le_of_ble_eq_true rfl) ⟨Nat.le_of_ble_eq_true rfl, Nat.le_of_ble_eq_true rfl⟩ dL_areHosts_85 ⟨Nat.le_of_ble_eq_true rfl, Nat.le_of_ble_eq_true rfl⟩ rfl ?_
      refine ro_iload_n (i := 3) (q := 89) hX dL_areHosts_88 rfl rfl rfl ?_
      refine ro_ishr (q := 90) hX dL_areHosts_89 rfl ?_
      refine ro_iconst (v := nI 1) (q := 91) hX dL_areHosts_90 rfl rfl ?_
      refine ro_iand (q := 92) hX dL_areHosts_91 rfl ?_
      refine vv_top (y := (nI 0)) (cpb_o (by omega) hh ho) ?_
      refine ro_iconst (v := nI 1) (q := 93) hX dL_areHosts_92 rfl rfl ?_
      refine ro_icmp_ne (tgt := 100) (q := 96) hX dL_areHosts_93 (by decide) rfl (fun _ => ?_) (fun q => absurd q (by decide))
      refine ro_iconst (v := nI 0) (q := 101) hX dL_areHosts_100 rfl rfl ?_
      refine ro_iload (i := 5) (q := 103) hX dL_areHosts_101 rfl rfl ?_
      refine ro_if_eq (tgt := 116) (q := 106) hX dL_areHosts_103 (by decide) rfl (fun _ => ?_) (fun q => absurd (by decide) q)
      refine ro_iconst (v := nI 0) (q := 117) hX dL_areHosts_116 rfl rfl ?_
      refine ro_icmp_ne (tgt := 124) (q := 120) hX dL_areHosts_117 (by decide) rfl (fun q => absurd (by decide) q) (fun _ => ?_)
      refine ro_iconst (v := nI 1) (q := 121) hX dL_areHosts_120 rfl rfl ?_
      refine ro_goto (tgt := 125) hX dL_areHosts_121 (by decide) ?_
      refine ro_istore_n (i := 1) (q := 126) hX dL_areHosts_125 rfl (Nat.le_of_ble_eq_true rfl) rfl ?_
      refine ro_drop [8] hX rfl ?_
      refine ro_iinc (i := 7) (v := nI (k36 + 1)) (q := 129) hX dL_areHosts_126 rfl (ni_inc _) (Nat.le_of_ble_eq_true rfl) rfl ?_
      refine ro_goto (tgt := 36) hX dL_areHosts_129 (by decide) ?_
      exact vv_LM (by rfl) rfl ih36
    · skip
      refine ro_aload_n (i := 0) (q := 44) hX dL_areHosts_43 rfl rfl rfl ?_
      refine ro_iload_n (i := 3) (q := 45) hX dL_areHosts_44 rfl rfl rfl ?_
      refine ro_iload (i := 7) (q := 47) hX dL_areHosts_45 rfl rfl ?_
      refine ro_callVi (q9 := 50) hX (x_rep (by omega) (by omega)) mw_X2_replica kl_L_47 (by decide) (fun cy => cell2 (by decide +kernel)) rfl rfl rfl (Nat.le_of_ble_eq_true rfl) ⟨Nat.le_of_ble_eq_true rfl, Nat.le_of_ble_eq_true rfl⟩ dL_areHosts_47 ⟨Nat.le_of_ble_eq_true rfl, Nat.le_of_ble_eq_true rfl⟩ rfl ?_
      refine vv_top (y := (nI 2)) (e) ?_
      refine ro_istore (i := 8) (q := 52) hX dL_areHosts_50 (Nat.le_of_ble_eq_true rfl) rfl ?_
      refine ro_iload (i := 4) (q := 54) hX dL_areHosts_52 rfl rfl ?_
      refine ro_iload (i := 8) (q := 56) hX dL_areHosts_54 rfl rfl ?_
      refine ro_if_ne (tgt := 63) (q := 59) hX dL_areHosts_56 (by decide) rfl (fun _ => ?_) (fun q => absurd q (by decide))
      refine ro_iconst (v := nI 1) (q := 64) hX dL_areHosts_63 rfl rfl ?_
      refine ro_iadd (q := 65) hX dL_areHosts_64 rfl ?_
      refine vv_top (y := (nI (hdN f h (k36 + 1)))) (hdN_2 e) ?_
      refine ro_istore (i := 4) (q := 67) hX dL_areHosts_65 (Nat.le_of_ble_eq_true rfl) rfl ?_
      refine ro_iload_n (i := 1) (q := 68) hX dL_areHosts_67 rfl rfl rfl ?_
      refine ro_if_eq (tgt := 124) (q := 71) hX dL_areHosts_68 (by decide) rfl (fun q => absurd q (by decide)) (fun _ => ?_)
      refine ro_iload (i := 5) (q := 73) hX dL_areHosts_71 rfl rfl ?_
      refine ro_if_eq (tgt := 82) (q := 76) hX dL_areHosts_73 (by decide) rfl (fun _ => ?_) (fun q => absurd (by decide) q)
      refine ro_aload_n (i := 0) (q := 83) hX dL_areHosts_82 rfl rfl rfl ?_
      refine ro_iload (i := 7) (q := 85) hX dL_areHosts_83 rfl rfl ?_
      refine ro_callVi (q9 := 88) hX (x_copies (by omega)) mw_X2_copies kl_L_39 (by decide) (fun cy => cell2 (by decide +kernel)) rfl rfl rfl (Nat.le_of_ble_eq_true rfl) ⟨Nat.le_of_ble_eq_true rfl, Nat.le_of_ble_eq_true rfl⟩ dL_areHosts_85 ⟨Nat.le_of_ble_eq_true rfl, Nat.le_of_ble_eq_true rfl⟩ rfl ?_
      refine ro_iload_n (i := 3) (q := 89) hX dL_areHosts_88 rfl rfl rfl ?_
      refine ro_ishr (q := 90) hX dL_areHosts_89 rfl ?_
      refine ro_iconst (v := nI 1) (q := 91) hX dL_areHosts_90 rfl rfl ?_
      refine ro_iand (q := 92) hX dL_areHosts_91 rfl ?_
      refine vv_top (y := (nI 0)) (cpb_o (by omega) hh ho) ?_
      refine ro_iconst (v := nI 1) (q := 93) hX dL_areHosts_92 rfl rfl ?_
      refine ro_icmp_ne (tgt := 100) (q := 96) hX dL_areHosts_93 (by decide) rfl (fun _ => ?_) (fun q => absurd q (by decide))
      refine ro_iconst (v := nI 0) (q := 101) hX dL_areHosts_100 rfl rfl ?_
      refine ro_iload (i := 5) (q := 103) hX dL_areHosts_101 rfl rfl ?_
      refine ro_if_eq (tgt := 116) (q := 106) hX dL_areHosts_103 (by decide) rfl (fun _ => ?_) (fun q => absurd (by decide) q)
      refine ro_iconst (v := nI 0) (q := 117) hX dL_areHosts_116 rfl rfl ?_
      refine ro_icmp_ne (tgt := 124) (q := 120) hX dL_areHosts_117 (by decide) rfl (fun q => absurd (by decide) q) (fun _ => ?_)
      refine ro_iconst (v := nI 1) (q := 121) hX dL_areHosts_120 rfl rfl ?_
      refine ro_goto (tgt := 125) hX dL_areHosts_121 (by decide) ?_
      refine ro_istore_n (i := 1) (q := 126) hX dL_areHosts_125 rfl (Nat.le_of_ble_eq_true rfl) rfl ?_
      refine ro_drop [8] hX rfl ?_
      refine ro_iinc (i := 7) (v := nI (k36 + 1)) (q := 129) hX dL_areHosts_126 rfl (ni_inc _) (Nat.le_of_ble_eq_true rfl) rfl ?_
      refine ro_goto (tgt := 36) hX dL_areHosts_129 (by decide) ?_
      exact vv_LM (by rfl) rfl ih36
  · show VV 0 0 36 [(0, .ref (sz + 0)), (1, .int (nI 1)), (2, .int pg), (3, .int (nI h)), (4, .int (nI (hdN f h 30))), (5, .int (nI 0)), (6, .int md), (7, .int (nI 30))] [] (patch G 1 7 f, T)
    refine ro_iload (i := 7) (q := 38) hX dL_areHosts_36 rfl rfl ?_
    refine ro_bipush (v := nI 30) (q := 40) hX dL_areHosts_38 rfl rfl ?_
    refine ro_icmp_ge (tgt := 132) (q := 43) hX dL_areHosts_40 (by decide) rfl (fun _ => ?_) (fun q => absurd (ni_le (by omega) (by omega)) q)
    exact vv_LM (by rfl) rfl (kk)
set_option maxRecDepth 20000 in
set_option maxHeartbeats 2000000 in
theorem ah_in1 {VV : VT} (hX : Ctx VV sz RL cL_areHosts (roomOf I_L_areHosts 0 0) 9) {pg md : Int32} {h : Nat} (hh : h < 6) (ho : tb (f 0 7) (nI h) = true) (hns : ∀ k, k < 30 → ¬ rpV f h k = nI 2) (kk : VV 0 0 132 [(0, .ref (sz + 0)), (1, .int (nI 1)), (2, .int pg), (3, .int (nI h)), (4, .int (nI (hdN f h 30))), (5, .int (nI 1)), (6, .int md), (7, .int (nI 30))] [] (patch G 1 7 f, T)) : VV 0 0 36 [(0, .ref (sz + 0)), (1, .int (nI 1)), (2, .int pg), (3, .int (nI h)), (4, .int (nI 0)), (5, .int (nI 1)), (6, .int md), (7, .int (nI 0))] [] (patch G 1 7 f, T) := by
  refine vv_LM (L' := [(0, .ref (sz + 0)), (1, .int (nI 1)), (2, .int pg), (3, .int (nI h)), (4, .int (nI (hdN f h 0))), (5, .int (nI 1)), (6, .int md), (7, .int (nI 0))]) (M' := (patch G 1 7 f, T)) (by rfl) rfl ?_
  refine down_ind (P := fun k36 => VV 0 0 36 [(0, .ref (sz + 0)), (1, .int (nI 1)), (2, .int pg), (3, .int (nI h)), (4, .int (nI (hdN f h k36))), (5, .int (nI 1)), (6, .int md), (7, .int (nI k36))] [] (patch G 1 7 f, T)) (30) (fun k36 hk36 ih36 => ?_) ?_
  · have ih36 : VV 0 0 36 [(0, .ref (sz + 0)), (1, .int (nI 1)), (2, .int pg), (3, .int (nI h)), (4, .int (nI (hdN f h (k36 + 1)))), (5, .int (nI 1)), (6, .int md), (7, .int (nI (k36 + 1)))] [] (patch G 1 7 f, T) := ih36
    show VV 0 0 36 [(0, .ref (sz + 0)), (1, .int (nI 1)), (2, .int pg), (3, .int (nI h)), (4, .int (nI (hdN f h k36))), (5, .int (nI 1)), (6, .int md), (7, .int (nI k36))] [] (patch G 1 7 f, T)
    refine ro_iload (i := 7) (q := 38) hX dL_areHosts_36 rfl rfl ?_
    refine ro_bipush (v := nI 30) (q := 40) hX dL_areHosts_38 rfl rfl ?_
    refine ro_icmp_ge (tgt := 132) (q := 43) hX dL_areHosts_40 (by decide) rfl (fun q => absurd q (ni_nle (by omega) (by omega))) (fun _ => ?_)
    rcases rp_cases (f := f) (h := h) (p := k36) with e | e | e
    · skip
      refine ro_aload_n (i := 0) (q := 44) hX dL_areHosts_43 rfl rfl rfl ?_
      refine ro_iload_n (i := 3) (q := 45) hX dL_areHosts_44 rfl rfl rfl ?_
      refine ro_iload (i := 7) (q := 47) hX dL_areHosts_45 rfl rfl ?_
      refine ro_callVi (q9 := 50) hX (x_rep (by omega) (by omega)) mw_X2_replica kl_L_47 (by decide) (fun cy => cell2 (by decide +kernel)) rfl rfl rfl (Nat.le_of_ble_eq_true rfl) ⟨Nat.le_of_ble_eq_true rfl, Nat.le_of_ble_eq_true rfl⟩ dL_areHosts_47 ⟨Nat.le_of_ble_eq_true rfl, Nat.le_of_ble_eq_true rfl⟩ rfl ?_
      refine vv_top (y := (nI 0)) (e) ?_
      refine ro_istore (i := 8) (q := 52) hX dL_areHosts_50 (Nat.le_of_ble_eq_true rfl) rfl ?_
      refine ro_iload (i := 4) (q := 54) hX dL_areHosts_52 rfl rfl ?_
      refine ro_iload (i := 8) (q := 56) hX dL_areHosts_54 rfl rfl ?_
      refine ro_if_ne (tgt := 63) (q := 59) hX dL_areHosts_56 (by decide) rfl (fun q => absurd (by decide) q) (fun _ => ?_)
      refine ro_iconst (v := nI 0) (q := 60) hX dL_areHosts_59 rfl rfl ?_
      refine ro_goto (tgt := 64) hX dL_areHosts_60 (by decide) ?_
      refine ro_iadd (q := 65) hX dL_areHosts_64 rfl ?_
      refine vv_top (y := (nI (hdN f h (k36 + 1)))) (hdN_0 e) ?_
      refine ro_istore (i := 4) (q := 67) hX dL_areHosts_65 (Nat.le_of_ble_eq_true rfl) rfl ?_
      refine ro_iload_n (i := 1) (q := 68) hX dL_areHosts_67 rfl rfl rfl ?_
      refine ro_if_eq (tgt := 124) (q := 71) hX dL_areHosts_68 (by decide) rfl (fun q => absurd q (by decide)) (fun _ => ?_)
      refine ro_iload (i := 5) (q := 73) hX dL_areHosts_71 rfl rfl ?_
      refine ro_if_eq (tgt := 82) (q := 76) hX dL_areHosts_73 (by decide) rfl (fun q => absurd q (by decide)) (fun _ => ?_)
      refine ro_iload (i := 8) (q := 78) hX dL_areHosts_76 rfl rfl ?_
      refine ro_iconst (v := nI 2) (q := 79) hX dL_areHosts_78 rfl rfl ?_
      refine ro_icmp_ge (tgt := 124) (q := 82) hX dL_areHosts_79 (by decide) rfl (fun q => absurd q (by decide)) (fun _ => ?_)
      refine ro_aload_n (i := 0) (q := 83) hX dL_areHosts_82 rfl rfl rfl ?_
      refine ro_iload (i := 7) (q := 85) hX dL_areHosts_83 rfl rfl ?_
      refine ro_callVi (q9 := 88) hX (x_copies (by omega)) mw_X2_copies kl_L_39 (by decide) (fun cy => cell2 (by decide +kernel)) rfl rfl rfl (Nat.le_of_ble_eq_true rfl) ⟨Nat.le_of_ble_eq_true rfl, Nat.le_of_ble_eq_true rfl⟩ dL_areHosts_85 ⟨Nat.le_of_ble_eq_true rfl, Nat.le_of_ble_eq_true rfl⟩ rfl ?_
      refine ro_iload_n (i := 3) (q := 89) hX dL_areHosts_88 rfl rfl rfl ?_
      refine ro_ishr (q := 90) hX dL_areHosts_89 rfl ?_
      refine ro_iconst (v := nI 1) (q := 91) hX dL_areHosts_90 rfl rfl ?_
      refine ro_iand (q := 92) hX dL_areHosts_91 rfl ?_
      refine vv_top (y := (nI 0)) (cpb_n (by omega) hh (by rw [e]; decide)) ?_
      refine ro_iconst (v := nI 1) (q := 93) hX dL_areHosts_92 rfl rfl ?_
      refine ro_icmp_ne (tgt := 100) (q := 96) hX dL_areHosts_93 (by decide) rfl (fun _ => ?_) (fun q => absurd q (by decide))
      refine ro_iconst (v := nI 0) (q := 101) hX dL_areHosts_100 rfl rfl ?_
      refine ro_iload (i := 5) (q := 103) hX dL_areHosts_101 rfl rfl ?_
      refine ro_if_eq (tgt := 116) (q := 106) hX dL_areHosts_103 (by decide) rfl (fun q => absurd q (by decide)) (fun _ => ?_)
      refine ro_iload (i := 8) (q := 108) hX dL_areHosts_106 rfl rfl ?_
      refine ro_iconst (v := nI 1) (q := 109) hX dL_areHosts_108 rfl rfl ?_
      refine ro_icmp_ne (tgt := 116) (q := 112) hX dL_areHosts_109 (by decide) rfl (fun _ => ?_) (fun q => absurd q (by decide))
      refine ro_iconst (v := nI 0) (q := 117) hX dL_areHosts_116 rfl rfl ?_
      refine ro_icmp_ne (tgt := 124) (q := 120) hX dL_areHosts_117 (by decide) rfl (fun q => absurd (by decide) q) (fun _ => ?_)
      refine ro_iconst (v := nI 1) (q := 121) hX dL_areHosts_120 rfl rfl ?_
      refine ro_goto (tgt := 125) hX dL_areHosts_121 (by decide) ?_
      refine ro_istore_n (i := 1) (q := 126) hX dL_areHosts_125 rfl (Nat.le_of_ble_eq_true rfl) rfl ?_
      refine ro_drop [8] hX rfl ?_
      refine ro_iinc (i := 7) (v := nI (k36 + 1)) (q := 129) hX dL_areHosts_126 rfl (ni_inc _) (Nat.le_of_ble_eq_true rfl) rfl ?_
      refine ro_goto (tgt := 36) hX dL_areHosts_129 (by decide) ?_
      exact vv_LM (by rfl) rfl ih36
    · skip
      refine ro_aload_n (i := 0) (q := 44) hX dL_areHosts_43 rfl rfl rfl ?_
      refine ro_iload_n (i := 3) (q := 45) hX dL_areHosts_44 rfl rfl rfl ?_
      refine ro_iload (i := 7) (q := 47) hX dL_areHosts_45 rfl rfl ?_
      refine ro_callVi (q9 := 50) hX (x_rep (by omega) (by omega)) mw_X2_replica kl_L_47 (by decide) (fun cy => cell2 (by decide +kernel)) rfl rfl rfl (Nat.le_of_ble_eq_true rfl) ⟨Nat.le_of_ble_eq_true rfl, Nat.le_of_ble_eq_true rfl⟩ dL_areHosts_47 ⟨Nat.le_of_ble_eq_true rfl, Nat.le_of_ble_eq_true rfl⟩ rfl ?_
      refine vv_top (y := (nI 1)) (e) ?_
      refine ro_istore (i := 8) (q := 52) hX dL_areHosts_50 (Nat.le_of_ble_eq_true rfl) rfl ?_
      refine ro_iload (i := 4) (q := 54) hX dL_areHosts_52 rfl rfl ?_
      refine ro_iload (i := 8) (q := 56) hX dL_areHosts_54 rfl rfl ?_
      refine ro_if_ne (tgt := 63) (q := 59) hX dL_areHosts_56 (by decide) rfl (fun _ => ?_) (fun q => absurd q (by decide))
      refine ro_iconst (v := nI 1) (q := 64) hX dL_areHosts_63 rfl rfl ?_
      refine ro_iadd (q := 65) hX dL_areHosts_64 rfl ?_
      refine vv_top (y := (nI (hdN f h (k36 + 1)))) (hdN_1 e) ?_
      refine ro_istore (i := 4) (q := 67) hX dL_areHosts_65 (Nat.le_of_ble_eq_true rfl) rfl ?_
      refine ro_iload_n (i := 1) (q := 68) hX dL_areHosts_67 rfl rfl rfl ?_
      refine ro_if_eq (tgt := 124) (q := 71) hX dL_areHosts_68 (by decide) rfl (fun q => absurd q (by decide)) (fun _ => ?_)
      refine ro_iload (i := 5) (q := 73) hX dL_areHosts_71 rfl rfl ?_
      refine ro_if_eq (tgt := 82) (q := 76) hX dL_areHosts_73 (by decide) rfl (fun q => absurd q (by decide)) (fun _ => ?_)
      refine ro_iload (i := 8) (q := 78) hX dL_areHosts_76 rfl rfl ?_
      refine ro_iconst (v := nI 2) (q := 79) hX dL_areHosts_78 rfl rfl ?_
      refine ro_icmp_ge (tgt := 124) (q := 82) hX dL_areHosts_79 (by decide) rfl (fun q => absurd q (by decide)) (fun _ => ?_)
      refine ro_aload_n (i := 0) (q := 83) hX dL_areHosts_82 rfl rfl rfl ?_
      refine ro_iload (i := 7) (q := 85) hX dL_areHosts_83 rfl rfl ?_
      refine ro_callVi (q9 := 88) hX (x_copies (by omega)) mw_X2_copies kl_L_39 (by decide) (fun cy => cell2 (by decide +kernel)) rfl rfl rfl (Nat.le_of_ble_eq_true rfl) ⟨Nat.le_of_ble_eq_true rfl, Nat.le_of_ble_eq_true rfl⟩ dL_areHosts_85 ⟨Nat.le_of_ble_eq_true rfl, Nat.le_of_ble_eq_true rfl⟩ rfl ?_
      refine ro_iload_n (i := 3) (q := 89) hX dL_areHosts_88 rfl rfl rfl ?_
      refine ro_ishr (q := 90) hX dL_areHosts_89 rfl ?_
      refine ro_iconst (v := nI 1) (q := 91) hX dL_areHosts_90 rfl rfl ?_
      refine ro_iand (q := 92) hX dL_areHosts_91 rfl ?_
      refine vv_top (y := (nI 1)) (cpb_1 (by omega) hh ho e) ?_
      refine ro_iconst (v := nI 1) (q := 93) hX dL_areHosts_92 rfl rfl ?_
      refine ro_icmp_ne (tgt := 100) (q := 96) hX dL_areHosts_93 (by decide) rfl (fun q => absurd (by decide) q) (fun _ => ?_)
      refine ro_iconst (v := nI 1) (q := 97) hX dL_areHosts_96 rfl rfl ?_
      refine ro_goto (tgt := 101) hX dL_areHosts_97 (by decide) ?_
      refine ro_iload (i := 5) (q := 103) hX dL_areHosts_101 rfl rfl ?_
      refine ro_if_eq (tgt := 116) (q := 106) hX dL_areHosts_103 (by decide) rfl (fun q => absurd q (by decide)) (fun _ => ?_)
      refine ro_iload (i := 8) (q := 108) hX dL_areHosts_106 rfl rfl ?_
      refine ro_iconst (v := nI 1) (q := 109) hX dL_areHosts_108 rfl rfl ?_
      refine ro_icmp_ne (tgt := 116) (q := 112) hX dL_areHosts_109 (by decide) rfl (fun q => absurd (by decide) q) (fun _ => ?_)
      refine ro_iconst (v := nI 1) (q := 113) hX dL_areHosts_112 rfl rfl ?_
      refine ro_goto (tgt := 117) hX dL_areHosts_113 (by decide) ?_
      refine ro_icmp_ne (tgt := 124) (q := 120) hX dL_areHosts_117 (by decide) rfl (fun q => absurd (by decide) q) (fun _ => ?_)
      refine ro_iconst (v := nI 1) (q := 121) hX dL_areHosts_120 rfl rfl ?_
      refine ro_goto (tgt := 125) hX dL_areHosts_121 (by decide) ?_
      refine ro_istore_n (i := 1) (q := 126) hX dL_areHosts_125 rfl (Nat.le_of_ble_eq_true rfl) rfl ?_
      refine ro_drop [8] hX rfl ?_
      refine ro_iinc (i := 7) (v := nI (k36 + 1)) (q := 129) hX dL_areHosts_126 rfl (ni_inc _) (Nat.le_of_ble_eq_true rfl) rfl ?_
      refine ro_goto (tgt := 36) hX dL_areHosts_129 (by decide) ?_
      exact vv_LM (by rfl) rfl ih36
    · skip
      exact absurd e (hns k36 hk36)
  · show VV 0 0 36 [(0, .ref (sz + 0)), (1, .int (nI 1)), (2, .int pg), (3, .int (nI h)), (4, .int (nI (hdN f h 30))), (5, .int (nI 1)), (6, .int md), (7, .int (nI 30))] [] (patch G 1 7 f, T)
    refine ro_iload (i := 7) (q := 38) hX dL_areHosts_36 rfl rfl ?_
    refine ro_bipush (v := nI 30) (q := 40) hX dL_areHosts_38 rfl rfl ?_
    refine ro_icmp_ge (tgt := 132) (q := 43) hX dL_areHosts_40 (by decide) rfl (fun _ => ?_) (fun q => absurd (ni_le (by omega) (by omega)) q)
    exact vv_LM (by rfl) rfl (kk)
set_option maxRecDepth 20000 in
set_option maxHeartbeats 2000000 in
theorem ah_tn {VV : VT} (hX : Ctx VV sz RL cL_areHosts (roomOf I_L_areHosts 0 0) 9) {md : Int32} {h hd on : Nat} (hh : h < 6)  (kk : VV 0 0 152 [(0, .ref (sz + 0)), (1, .int (nI 1)), (2, .int (-1)), (3, .int (nI h)), (4, .int (nI hd)), (5, .int (nI on)), (6, .int md), (7, .int (nI 0))] [] (patch G 1 7 f, T)) : VV 0 0 132 [(0, .ref (sz + 0)), (1, .int (nI 1)), (2, .int (-1)), (3, .int (nI h)), (4, .int (nI hd)), (5, .int (nI on)), (6, .int md), (7, .int (nI 30))] [] (patch G 1 7 f, T) := by
  refine ro_iload_n (i := 2) (q := 133) hX dL_areHosts_132 rfl rfl rfl ?_
  refine ro_if_lt (tgt := 149) (q := 136) hX dL_areHosts_133 (by decide) rfl (fun _ => ?_) (fun q => absurd (by decide) q)
  refine ro_iconst (v := nI 0) (q := 150) hX dL_areHosts_149 rfl rfl ?_
  refine ro_istore (i := 7) (q := 152) hX dL_areHosts_150 (Nat.le_of_ble_eq_true rfl) rfl ?_
  exact kk
set_option maxRecDepth 20000 in
set_option maxHeartbeats 2000000 in
theorem ah_ts {VV : VT} (hX : Ctx VV sz RL cL_areHosts (roomOf I_L_areHosts 0 0) 9) {md : Int32} {h hd on : Nat} (hh : h < 6) {p U : Nat} (hp : p < 30) (e : trV f 2 = nI U) (hu : U = h) (kk : VV 0 0 152 [(0, .ref (sz + 0)), (1, .int (nI 1)), (2, .int (nI p)), (3, .int (nI h)), (4, .int (nI hd)), (5, .int (nI on)), (6, .int md), (7, .int (nI 1))] [] (patch G 1 7 f, T)) : VV 0 0 132 [(0, .ref (sz + 0)), (1, .int (nI 1)), (2, .int (nI p)), (3, .int (nI h)), (4, .int (nI hd)), (5, .int (nI on)), (6, .int md), (7, .int (nI 30))] [] (patch G 1 7 f, T) := by
  refine ro_iload_n (i := 2) (q := 133) hX dL_areHosts_132 rfl rfl rfl ?_
  refine ro_if_lt (tgt := 149) (q := 136) hX dL_areHosts_133 (by decide) rfl (fun q => absurd q (nI_pos (by omega))) (fun _ => ?_)
  refine ro_aload_n (i := 0) (q := 137) hX dL_areHosts_136 rfl rfl rfl ?_
  refine ro_iconst (v := nI 2) (q := 138) hX dL_areHosts_137 rfl rfl ?_
  refine ro_callVi (q9 := 141) hX (x_tr (by omega)) mw_X2_transfer kl_L_51 (by decide) (fun cy => cell2 (by decide +kernel)) rfl rfl rfl (Nat.le_of_ble_eq_true rfl) ⟨Nat.le_of_ble_eq_true rfl, Nat.le_of_ble_eq_true rfl⟩ dL_areHosts_138 ⟨Nat.le_of_ble_eq_true rfl, Nat.le_of_ble_eq_true rfl⟩ rfl ?_
  refine vv_top (y := (nI U)) (e) ?_
  refine ro_iload_n (i := 3) (q := 142) hX dL_areHosts_141 rfl rfl rfl ?_
  refine ro_icmp_ne (tgt := 149) (q := 145) hX dL_areHosts_142 (by decide) rfl (fun q => absurd (by rw [hu]) q) (fun _ => ?_)
  refine ro_iconst (v := nI 1) (q := 146) hX dL_areHosts_145 rfl rfl ?_
  refine ro_goto (tgt := 150) hX dL_areHosts_146 (by decide) ?_
  refine ro_istore (i := 7) (q := 152) hX dL_areHosts_150 (Nat.le_of_ble_eq_true rfl) rfl ?_
  exact kk
set_option maxRecDepth 20000 in
set_option maxHeartbeats 2000000 in
theorem ah_to {VV : VT} (hX : Ctx VV sz RL cL_areHosts (roomOf I_L_areHosts 0 0) 9) {md : Int32} {h hd on : Nat} (hh : h < 6) {p U : Nat} (hp : p < 30) (hU : U < 6) (e : trV f 2 = nI U) (hu : ¬ U = h) (kk : VV 0 0 152 [(0, .ref (sz + 0)), (1, .int (nI 1)), (2, .int (nI p)), (3, .int (nI h)), (4, .int (nI hd)), (5, .int (nI on)), (6, .int md), (7, .int (nI 0))] [] (patch G 1 7 f, T)) : VV 0 0 132 [(0, .ref (sz + 0)), (1, .int (nI 1)), (2, .int (nI p)), (3, .int (nI h)), (4, .int (nI hd)), (5, .int (nI on)), (6, .int md), (7, .int (nI 30))] [] (patch G 1 7 f, T) := by
  refine ro_iload_n (i := 2) (q := 133) hX dL_areHosts_132 rfl rfl rfl ?_
  refine ro_if_lt (tgt := 149) (q := 136) hX dL_areHosts_133 (by decide) rfl (fun q => absurd q (nI_pos (by omega))) (fun _ => ?_)
  refine ro_aload_n (i := 0) (q := 137) hX dL_areHosts_136 rfl rfl rfl ?_
  refine ro_iconst (v := nI 2) (q := 138) hX dL_areHosts_137 rfl rfl ?_
  refine ro_callVi (q9 := 141) hX (x_tr (by omega)) mw_X2_transfer kl_L_51 (by decide) (fun cy => cell2 (by decide +kernel)) rfl rfl rfl (Nat.le_of_ble_eq_true rfl) ⟨Nat.le_of_ble_eq_true rfl, Nat.le_of_ble_eq_true rfl⟩ dL_areHosts_138 ⟨Nat.le_of_ble_eq_true rfl, Nat.le_of_ble_eq_true rfl⟩ rfl ?_
  refine vv_top (y := (nI U)) (e) ?_
  refine ro_iload_n (i := 3) (q := 142) hX dL_areHosts_141 rfl rfl rfl ?_
  refine ro_icmp_ne (tgt := 149) (q := 145) hX dL_areHosts_142 (by decide) rfl (fun _ => ?_) (fun q => absurd q (ni_ne hu (by omega) (by omega)))
  refine ro_iconst (v := nI 0) (q := 150) hX dL_areHosts_149 rfl rfl ?_
  refine ro_istore (i := 7) (q := 152) hX dL_areHosts_150 (Nat.le_of_ble_eq_true rfl) rfl ?_
  exact kk
set_option maxRecDepth 20000 in
set_option maxHeartbeats 2000000 in
theorem ah_u0 {VV : VT} (hX : Ctx VV sz RL cL_areHosts (roomOf I_L_areHosts 0 0) 9) {pg md : Int32} {h hd on : Nat} (hh : h < 6) (e : usS f h = nI hd + nI 0) (kk : VV 0 0 177 [(0, .ref (sz + 0)), (1, .int (nI 1)), (2, .int pg), (3, .int (nI h)), (4, .int (nI hd)), (5, .int (nI on)), (6, .int md), (7, .int (nI 0))] [] (patch G 1 7 f, T)) : VV 0 0 152 [(0, .ref (sz + 0)), (1, .int (nI 1)), (2, .int pg), (3, .int (nI h)), (4, .int (nI hd)), (5, .int (nI on)), (6, .int md), (7, .int (nI 0))] [] (patch G 1 7 f, T) := by
  refine ro_iload_n (i := 1) (q := 153) hX dL_areHosts_152 rfl rfl rfl ?_
  refine ro_if_eq (tgt := 225) (q := 156) hX dL_areHosts_153 (by decide) rfl (fun q => absurd q (by decide)) (fun _ => ?_)
  refine ro_aload_n (i := 0) (q := 157) hX dL_areHosts_156 rfl rfl rfl ?_
  refine ro_iload_n (i := 3) (q := 158) hX dL_areHosts_157 rfl rfl rfl ?_
  refine ro_callVi (q9 := 161) hX (x_usedRoom (by omega)) mw_X2_usedRoom kl_L_23 (by decide) (fun cy => cell2 (by decide +kernel)) rfl rfl rfl (Nat.le_of_ble_eq_true rfl) ⟨Nat.le_of_ble_eq_true rfl, Nat.le_of_ble_eq_true rfl⟩ dL_areHosts_158 ⟨Nat.le_of_ble_eq_true rfl, Nat.le_of_ble_eq_true rfl⟩ rfl ?_
  refine ro_iload (i := 4) (q := 163) hX dL_areHosts_161 rfl rfl ?_
  refine ro_iload (i := 7) (q := 165) hX dL_areHosts_163 rfl rfl ?_
  refine ro_if_eq (tgt := 172) (q := 168) hX dL_areHosts_165 (by decide) rfl (fun _ => ?_) (fun q => absurd (by decide) q)
  refine ro_iconst (v := nI 0) (q := 173) hX dL_areHosts_172 rfl rfl ?_
  refine ro_iadd (q := 174) hX dL_areHosts_173 rfl ?_
  refine ro_icmp_ne (tgt := 225) (q := 177) hX dL_areHosts_174 (by decide) rfl (fun q => absurd (e) q) (fun _ => ?_)
  exact kk
set_option maxRecDepth 20000 in
set_option maxHeartbeats 2000000 in
theorem ah_u1 {VV : VT} (hX : Ctx VV sz RL cL_areHosts (roomOf I_L_areHosts 0 0) 9) {pg md : Int32} {h hd on : Nat} (hh : h < 6) (e : usS f h = nI hd + nI 1) (kk : VV 0 0 177 [(0, .ref (sz + 0)), (1, .int (nI 1)), (2, .int pg), (3, .int (nI h)), (4, .int (nI hd)), (5, .int (nI on)), (6, .int md), (7, .int (nI 1))] [] (patch G 1 7 f, T)) : VV 0 0 152 [(0, .ref (sz + 0)), (1, .int (nI 1)), (2, .int pg), (3, .int (nI h)), (4, .int (nI hd)), (5, .int (nI on)), (6, .int md), (7, .int (nI 1))] [] (patch G 1 7 f, T) := by
  refine ro_iload_n (i := 1) (q := 153) hX dL_areHosts_152 rfl rfl rfl ?_
  refine ro_if_eq (tgt := 225) (q := 156) hX dL_areHosts_153 (by decide) rfl (fun q => absurd q (by decide)) (fun _ => ?_)
  refine ro_aload_n (i := 0) (q := 157) hX dL_areHosts_156 rfl rfl rfl ?_
  refine ro_iload_n (i := 3) (q := 158) hX dL_areHosts_157 rfl rfl rfl ?_
  refine ro_callVi (q9 := 161) hX (x_usedRoom (by omega)) mw_X2_usedRoom kl_L_23 (by decide) (fun cy => cell2 (by decide +kernel)) rfl rfl rfl (Nat.le_of_ble_eq_true rfl) ⟨Nat.le_of_ble_eq_true rfl, Nat.le_of_ble_eq_true rfl⟩ dL_areHosts_158 ⟨Nat.le_of_ble_eq_true rfl, Nat.le_of_ble_eq_true rfl⟩ rfl ?_
  refine ro_iload (i := 4) (q := 163) hX dL_areHosts_161 rfl rfl ?_
  refine ro_iload (i := 7) (q := 165) hX dL_areHosts_163 rfl rfl ?_
  refine ro_if_eq (tgt := 172) (q := 168) hX dL_areHosts_165 (by decide) rfl (fun q => absurd q (by decide)) (fun _ => ?_)
  refine ro_iconst (v := nI 1) (q := 169) hX dL_areHosts_168 rfl rfl ?_
  refine ro_goto (tgt := 173) hX dL_areHosts_169 (by decide) ?_
  refine ro_iadd (q := 174) hX dL_areHosts_173 rfl ?_
  refine ro_icmp_ne (tgt := 225) (q := 177) hX dL_areHosts_174 (by decide) rfl (fun q => absurd (e) q) (fun _ => ?_)
  exact kk
set_option maxRecDepth 20000 in
set_option maxHeartbeats 2000000 in
theorem ah_f00 {VV : VT} (hX : Ctx VV sz RL cL_areHosts (roomOf I_L_areHosts 0 0) 9) {pg : Int32} {h hd tg : Nat} (hh : h < 6) (hm : f 1 h = 0) (hz : hd = 0) (hf0 : rmS f h = 0) (hf1 : ¬ rmS f h < 0) (hd2 : hd ≤ 20) (kk : VV 0 0 227 [(0, .ref (sz + 0)), (1, .int (nI 1)), (2, .int pg), (3, .int (nI h)), (4, .int (nI hd)), (5, .int (nI 0)), (6, .int (f 1 h)), (7, .int (nI tg))] [] (patch G 1 7 f, T)) : VV 0 0 177 [(0, .ref (sz + 0)), (1, .int (nI 1)), (2, .int pg), (3, .int (nI h)), (4, .int (nI hd)), (5, .int (nI 0)), (6, .int (f 1 h)), (7, .int (nI tg))] [] (patch G 1 7 f, T) := by
  refine ro_iload (i := 6) (q := 179) hX dL_areHosts_177 rfl rfl ?_
  refine ro_if_ne (tgt := 187) (q := 182) hX dL_areHosts_179 (by decide) rfl (fun q => absurd (hm) q) (fun _ => ?_)
  refine ro_iload (i := 4) (q := 184) hX dL_areHosts_182 rfl rfl ?_
  refine ro_if_ne (tgt := 225) (q := 187) hX dL_areHosts_184 (by decide) rfl (fun q => absurd (by rw [hz]; rfl) q) (fun _ => ?_)
  refine ro_iload (i := 6) (q := 189) hX dL_areHosts_187 rfl rfl ?_
  refine ro_iconst (v := nI 1) (q := 190) hX dL_areHosts_189 rfl rfl ?_
  refine ro_icmp_ne (tgt := 198) (q := 193) hX dL_areHosts_190 (by decide) rfl (fun _ => ?_) (fun q => absurd q (by rw [hm]; decide))
  refine ro_aload_n (i := 0) (q := 199) hX dL_areHosts_198 rfl rfl rfl ?_
  refine ro_iload_n (i := 3) (q := 200) hX dL_areHosts_199 rfl rfl rfl ?_
  refine ro_callVi (q9 := 203) hX (x_freeRoom (by omega)) mw_X2_freeRoom kl_L_26 (by decide) (fun cy => cell2 (by decide +kernel)) rfl rfl rfl (Nat.le_of_ble_eq_true rfl) ⟨Nat.le_of_ble_eq_true rfl, Nat.le_of_ble_eq_true rfl⟩ dL_areHosts_200 ⟨Nat.le_of_ble_eq_true rfl, Nat.le_of_ble_eq_true rfl⟩ rfl ?_
  refine ro_if_ne (tgt := 225) (q := 206) hX dL_areHosts_203 (by decide) rfl (fun q => absurd (hf0) q) (fun _ => ?_)
  refine ro_aload_n (i := 0) (q := 207) hX dL_areHosts_206 rfl rfl rfl ?_
  refine ro_iload_n (i := 3) (q := 208) hX dL_areHosts_207 rfl rfl rfl ?_
  refine ro_callVi (q9 := 211) hX (x_freeRoom (by omega)) mw_X2_freeRoom kl_L_26 (by decide) (fun cy => cell2 (by decide +kernel)) rfl rfl rfl (Nat.le_of_ble_eq_true rfl) ⟨Nat.le_of_ble_eq_true rfl, Nat.le_of_ble_eq_true rfl⟩ dL_areHosts_208 ⟨Nat.le_of_ble_eq_true rfl, Nat.le_of_ble_eq_true rfl⟩ rfl ?_
  refine ro_if_lt (tgt := 225) (q := 214) hX dL_areHosts_211 (by decide) rfl (fun q => absurd q (hf1)) (fun _ => ?_)
  refine ro_iload (i := 4) (q := 216) hX dL_areHosts_214 rfl rfl ?_
  refine ro_bipush (v := nI 20) (q := 218) hX dL_areHosts_216 rfl rfl ?_
  refine ro_icmp_gt (tgt := 225) (q := 221) hX dL_areHosts_218 (by decide) rfl (fun q => absurd q (ni_nlt (by omega) (by omega))) (fun _ => ?_)
  refine ro_iconst (v := nI 1) (q := 222) hX dL_areHosts_221 rfl rfl ?_
  refine ro_goto (tgt := 226) hX dL_areHosts_222 (by decide) ?_
  refine ro_istore_n (i := 1) (q := 227) hX dL_areHosts_226 rfl (Nat.le_of_ble_eq_true rfl) rfl ?_
  exact kk
set_option maxRecDepth 20000 in
set_option maxHeartbeats 2000000 in
theorem ah_f01 {VV : VT} (hX : Ctx VV sz RL cL_areHosts (roomOf I_L_areHosts 0 0) 9) {pg : Int32} {h hd tg : Nat} (hh : h < 6) (hm : f 1 h = nI 1) (hf0 : rmS f h = 0) (hf1 : ¬ rmS f h < 0) (hd2 : hd ≤ 20) (kk : VV 0 0 227 [(0, .ref (sz + 0)), (1, .int (nI 1)), (2, .int pg), (3, .int (nI h)), (4, .int (nI hd)), (5, .int (nI 0)), (6, .int (f 1 h)), (7, .int (nI tg))] [] (patch G 1 7 f, T)) : VV 0 0 177 [(0, .ref (sz + 0)), (1, .int (nI 1)), (2, .int pg), (3, .int (nI h)), (4, .int (nI hd)), (5, .int (nI 0)), (6, .int (f 1 h)), (7, .int (nI tg))] [] (patch G 1 7 f, T) := by
  refine ro_iload (i := 6) (q := 179) hX dL_areHosts_177 rfl rfl ?_
  refine ro_if_ne (tgt := 187) (q := 182) hX dL_areHosts_179 (by decide) rfl (fun _ => ?_) (fun q => absurd q (by rw [hm]; decide))
  refine ro_iload (i := 6) (q := 189) hX dL_areHosts_187 rfl rfl ?_
  refine ro_iconst (v := nI 1) (q := 190) hX dL_areHosts_189 rfl rfl ?_
  refine ro_icmp_ne (tgt := 198) (q := 193) hX dL_areHosts_190 (by decide) rfl (fun q => absurd (hm) q) (fun _ => ?_)
  refine ro_iload (i := 5) (q := 195) hX dL_areHosts_193 rfl rfl ?_
  refine ro_if_ne (tgt := 206) (q := 198) hX dL_areHosts_195 (by decide) rfl (fun q => absurd (by decide) q) (fun _ => ?_)
  refine ro_aload_n (i := 0) (q := 199) hX dL_areHosts_198 rfl rfl rfl ?_
  refine ro_iload_n (i := 3) (q := 200) hX dL_areHosts_199 rfl rfl rfl ?_
  refine ro_callVi (q9 := 203) hX (x_freeRoom (by omega)) mw_X2_freeRoom kl_L_26 (by decide) (fun cy => cell2 (by decide +kernel)) rfl rfl rfl (Nat.le_of_ble_eq_true rfl) ⟨Nat.le_of_ble_eq_true rfl, Nat.le_of_ble_eq_true rfl⟩ dL_areHosts_200 ⟨Nat.le_of_ble_eq_true rfl, Nat.le_of_ble_eq_true rfl⟩ rfl ?_
  refine ro_if_ne (tgt := 225) (q := 206) hX dL_areHosts_203 (by decide) rfl (fun q => absurd (hf0) q) (fun _ => ?_)
  refine ro_aload_n (i := 0) (q := 207) hX dL_areHosts_206 rfl rfl rfl ?_
  refine ro_iload_n (i := 3) (q := 208) hX dL_areHosts_207 rfl rfl rfl ?_
  refine ro_callVi (q9 := 211) hX (x_freeRoom (by omega)) mw_X2_freeRoom kl_L_26 (by decide) (fun cy => cell2 (by decide +kernel)) rfl rfl rfl (Nat.le_of_ble_eq_true rfl) ⟨Nat.le_of_ble_eq_true rfl, Nat.le_of_ble_eq_true rfl⟩ dL_areHosts_208 ⟨Nat.le_of_ble_eq_true rfl, Nat.le_of_ble_eq_true rfl⟩ rfl ?_
  refine ro_if_lt (tgt := 225) (q := 214) hX dL_areHosts_211 (by decide) rfl (fun q => absurd q (hf1)) (fun _ => ?_)
  refine ro_iload (i := 4) (q := 216) hX dL_areHosts_214 rfl rfl ?_
  refine ro_bipush (v := nI 20) (q := 218) hX dL_areHosts_216 rfl rfl ?_
  refine ro_icmp_gt (tgt := 225) (q := 221) hX dL_areHosts_218 (by decide) rfl (fun q => absurd q (ni_nlt (by omega) (by omega))) (fun _ => ?_)
  refine ro_iconst (v := nI 1) (q := 222) hX dL_areHosts_221 rfl rfl ?_
  refine ro_goto (tgt := 226) hX dL_areHosts_222 (by decide) ?_
  refine ro_istore_n (i := 1) (q := 227) hX dL_areHosts_226 rfl (Nat.le_of_ble_eq_true rfl) rfl ?_
  exact kk
set_option maxRecDepth 20000 in
set_option maxHeartbeats 2000000 in
theorem ah_f02 {VV : VT} (hX : Ctx VV sz RL cL_areHosts (roomOf I_L_areHosts 0 0) 9) {pg : Int32} {h hd tg : Nat} (hh : h < 6) (hm : ¬ f 1 h = 0) (hm1 : ¬ f 1 h = nI 1) (hf0 : rmS f h = 0) (hf1 : ¬ rmS f h < 0) (hd2 : hd ≤ 20) (kk : VV 0 0 227 [(0, .ref (sz + 0)), (1, .int (nI 1)), (2, .int pg), (3, .int (nI h)), (4, .int (nI hd)), (5, .int (nI 0)), (6, .int (f 1 h)), (7, .int (nI tg))] [] (patch G 1 7 f, T)) : VV 0 0 177 [(0, .ref (sz + 0)), (1, .int (nI 1)), (2, .int pg), (3, .int (nI h)), (4, .int (nI hd)), (5, .int (nI 0)), (6, .int (f 1 h)), (7, .int (nI tg))] [] (patch G 1 7 f, T) := by
  refine ro_iload (i := 6) (q := 179) hX dL_areHosts_177 rfl rfl ?_
  refine ro_if_ne (tgt := 187) (q := 182) hX dL_areHosts_179 (by decide) rfl (fun _ => ?_) (fun q => absurd q (hm))
  refine ro_iload (i := 6) (q := 189) hX dL_areHosts_187 rfl rfl ?_
  refine ro_iconst (v := nI 1) (q := 190) hX dL_areHosts_189 rfl rfl ?_
  refine ro_icmp_ne (tgt := 198) (q := 193) hX dL_areHosts_190 (by decide) rfl (fun _ => ?_) (fun q => absurd q (hm1))
  refine ro_aload_n (i := 0) (q := 199) hX dL_areHosts_198 rfl rfl rfl ?_
  refine ro_iload_n (i := 3) (q := 200) hX dL_areHosts_199 rfl rfl rfl ?_
  refine ro_callVi (q9 := 203) hX (x_freeRoom (by omega)) mw_X2_freeRoom kl_L_26 (by decide) (fun cy => cell2 (by decide +kernel)) rfl rfl rfl (Nat.le_of_ble_eq_true rfl) ⟨Nat.le_of_ble_eq_true rfl, Nat.le_of_ble_eq_true rfl⟩ dL_areHosts_200 ⟨Nat.le_of_ble_eq_true rfl, Nat.le_of_ble_eq_true rfl⟩ rfl ?_
  refine ro_if_ne (tgt := 225) (q := 206) hX dL_areHosts_203 (by decide) rfl (fun q => absurd (hf0) q) (fun _ => ?_)
  refine ro_aload_n (i := 0) (q := 207) hX dL_areHosts_206 rfl rfl rfl ?_
  refine ro_iload_n (i := 3) (q := 208) hX dL_areHosts_207 rfl rfl rfl ?_
  refine ro_callVi (q9 := 211) hX (x_freeRoom (by omega)) mw_X2_freeRoom kl_L_26 (by decide) (fun cy => cell2 (by decide +kernel)) rfl rfl rfl (Nat.le_of_ble_eq_true rfl) ⟨Nat.le_of_ble_eq_true rfl, Nat.le_of_ble_eq_true rfl⟩ dL_areHosts_208 ⟨Nat.le_of_ble_eq_true rfl, Nat.le_of_ble_eq_true rfl⟩ rfl ?_
  refine ro_if_lt (tgt := 225) (q := 214) hX dL_areHosts_211 (by decide) rfl (fun q => absurd q (hf1)) (fun _ => ?_)
  refine ro_iload (i := 4) (q := 216) hX dL_areHosts_214 rfl rfl ?_
  refine ro_bipush (v := nI 20) (q := 218) hX dL_areHosts_216 rfl rfl ?_
  refine ro_icmp_gt (tgt := 225) (q := 221) hX dL_areHosts_218 (by decide) rfl (fun q => absurd q (ni_nlt (by omega) (by omega))) (fun _ => ?_)
  refine ro_iconst (v := nI 1) (q := 222) hX dL_areHosts_221 rfl rfl ?_
  refine ro_goto (tgt := 226) hX dL_areHosts_222 (by decide) ?_
  refine ro_istore_n (i := 1) (q := 227) hX dL_areHosts_226 rfl (Nat.le_of_ble_eq_true rfl) rfl ?_
  exact kk
set_option maxRecDepth 20000 in
set_option maxHeartbeats 2000000 in
theorem ah_d02 {VV : VT} (hX : Ctx VV sz RL cL_areHosts (roomOf I_L_areHosts 0 0) 9) {pg : Int32} {h hd tg : Nat} (hh : h < 6) (hm : f 1 h = nI 2) (h1 : ¬ dlV f h ≤ 0) (h2 : ¬ nI 600 < dlV f h) (kk : VV 0 0 10 [(0, .ref (sz + 0)), (1, .int (nI 1)), (2, .int pg), (3, .int (nI (h + 1)))] [] (patch G 1 7 f, T)) : VV 0 0 227 [(0, .ref (sz + 0)), (1, .int (nI 1)), (2, .int pg), (3, .int (nI h)), (4, .int (nI hd)), (5, .int (nI 0)), (6, .int (f 1 h)), (7, .int (nI tg))] [] (patch G 1 7 f, T) := by
  refine ro_iload_n (i := 1) (q := 228) hX dL_areHosts_227 rfl rfl rfl ?_
  refine ro_if_eq (tgt := 288) (q := 231) hX dL_areHosts_228 (by decide) rfl (fun q => absurd q (by decide)) (fun _ => ?_)
  refine ro_iload (i := 6) (q := 233) hX dL_areHosts_231 rfl rfl ?_
  refine ro_iconst (v := nI 2) (q := 234) hX dL_areHosts_233 rfl rfl ?_
  refine ro_icmp_ne (tgt := 247) (q := 237) hX dL_areHosts_234 (by decide) rfl (fun q => absurd (hm) q) (fun _ => ?_)
  refine ro_iload (i := 5) (q := 239) hX dL_areHosts_237 rfl rfl ?_
  refine ro_if_eq (tgt := 247) (q := 242) hX dL_areHosts_239 (by decide) rfl (fun _ => ?_) (fun q => absurd (by decide) q)
  refine ro_iload (i := 6) (q := 249) hX dL_areHosts_247 rfl rfl ?_
  refine ro_iconst (v := nI 2) (q := 250) hX dL_areHosts_249 rfl rfl ?_
  refine ro_icmp_ne (tgt := 275) (q := 253) hX dL_areHosts_250 (by decide) rfl (fun q => absurd (hm) q) (fun _ => ?_)
  refine ro_aload_n (i := 0) (q := 254) hX dL_areHosts_253 rfl rfl rfl ?_
  refine ro_iload_n (i := 3) (q := 255) hX dL_areHosts_254 rfl rfl rfl ?_
  refine ro_callVi (q9 := 258) hX (x_dl (by omega)) mw_X2_deadlineIn kl_L_29 (by decide) (fun cy => cell2 (by decide +kernel)) rfl rfl rfl (Nat.le_of_ble_eq_true rfl) ⟨Nat.le_of_ble_eq_true rfl, Nat.le_of_ble_eq_true rfl⟩ dL_areHosts_255 ⟨Nat.le_of_ble_eq_true rfl, Nat.le_of_ble_eq_true rfl⟩ rfl ?_
  refine ro_if_le (tgt := 288) (q := 261) hX dL_areHosts_258 (by decide) rfl (fun q => absurd q (h1)) (fun _ => ?_)
  refine ro_aload_n (i := 0) (q := 262) hX dL_areHosts_261 rfl rfl rfl ?_
  refine ro_iload_n (i := 3) (q := 263) hX dL_areHosts_262 rfl rfl rfl ?_
  refine ro_callVi (q9 := 266) hX (x_dl (by omega)) mw_X2_deadlineIn kl_L_29 (by decide) (fun cy => cell2 (by decide +kernel)) rfl rfl rfl (Nat.le_of_ble_eq_true rfl) ⟨Nat.le_of_ble_eq_true rfl, Nat.le_of_ble_eq_true rfl⟩ dL_areHosts_263 ⟨Nat.le_of_ble_eq_true rfl, Nat.le_of_ble_eq_true rfl⟩ rfl ?_
  refine ro_sipush (v := nI 600) (q := 269) hX dL_areHosts_266 rfl rfl ?_
  refine ro_icmp_gt (tgt := 288) (q := 272) hX dL_areHosts_269 (by decide) rfl (fun q => absurd q (h2)) (fun _ => ?_)
  refine ro_goto (tgt := 284) hX dL_areHosts_272 (by decide) ?_
  refine ro_iconst (v := nI 1) (q := 285) hX dL_areHosts_284 rfl rfl ?_
  refine ro_goto (tgt := 289) hX dL_areHosts_285 (by decide) ?_
  refine ro_istore_n (i := 1) (q := 290) hX dL_areHosts_289 rfl (Nat.le_of_ble_eq_true rfl) rfl ?_
  refine ro_drop [4, 5, 6, 7] hX rfl ?_
  refine ro_iinc (i := 3) (v := nI (h + 1)) (q := 293) hX dL_areHosts_290 rfl (ni_inc _) (Nat.le_of_ble_eq_true rfl) rfl ?_
  refine ro_goto (tgt := 10) hX dL_areHosts_293 (by decide) ?_
  exact kk
set_option maxRecDepth 20000 in
set_option maxHeartbeats 2000000 in
theorem ah_d03 {VV : VT} (hX : Ctx VV sz RL cL_areHosts (roomOf I_L_areHosts 0 0) 9) {pg : Int32} {h hd tg : Nat} (hh : h < 6) (hm : ¬ f 1 h = nI 2) (h1 : dlV f h = -1) (kk : VV 0 0 10 [(0, .ref (sz + 0)), (1, .int (nI 1)), (2, .int pg), (3, .int (nI (h + 1)))] [] (patch G 1 7 f, T)) : VV 0 0 227 [(0, .ref (sz + 0)), (1, .int (nI 1)), (2, .int pg), (3, .int (nI h)), (4, .int (nI hd)), (5, .int (nI 0)), (6, .int (f 1 h)), (7, .int (nI tg))] [] (patch G 1 7 f, T) := by
  refine ro_iload_n (i := 1) (q := 228) hX dL_areHosts_227 rfl rfl rfl ?_
  refine ro_if_eq (tgt := 288) (q := 231) hX dL_areHosts_228 (by decide) rfl (fun q => absurd q (by decide)) (fun _ => ?_)
  refine ro_iload (i := 6) (q := 233) hX dL_areHosts_231 rfl rfl ?_
  refine ro_iconst (v := nI 2) (q := 234) hX dL_areHosts_233 rfl rfl ?_
  refine ro_icmp_ne (tgt := 247) (q := 237) hX dL_areHosts_234 (by decide) rfl (fun _ => ?_) (fun q => absurd q (hm))
  refine ro_iload (i := 6) (q := 249) hX dL_areHosts_247 rfl rfl ?_
  refine ro_iconst (v := nI 2) (q := 250) hX dL_areHosts_249 rfl rfl ?_
  refine ro_icmp_ne (tgt := 275) (q := 253) hX dL_areHosts_250 (by decide) rfl (fun _ => ?_) (fun q => absurd q (hm))
  refine ro_aload_n (i := 0) (q := 276) hX dL_areHosts_275 rfl rfl rfl ?_
  refine ro_iload_n (i := 3) (q := 277) hX dL_areHosts_276 rfl rfl rfl ?_
  refine ro_callVi (q9 := 280) hX (x_dl (by omega)) mw_X2_deadlineIn kl_L_29 (by decide) (fun cy => cell2 (by decide +kernel)) rfl rfl rfl (Nat.le_of_ble_eq_true rfl) ⟨Nat.le_of_ble_eq_true rfl, Nat.le_of_ble_eq_true rfl⟩ dL_areHosts_277 ⟨Nat.le_of_ble_eq_true rfl, Nat.le_of_ble_eq_true rfl⟩ rfl ?_
  refine ro_iconst (v := (-1)) (q := 281) hX dL_areHosts_280 rfl rfl ?_
  refine ro_icmp_ne (tgt := 288) (q := 284) hX dL_areHosts_281 (by decide) rfl (fun q => absurd (h1) q) (fun _ => ?_)
  refine ro_iconst (v := nI 1) (q := 285) hX dL_areHosts_284 rfl rfl ?_
  refine ro_goto (tgt := 289) hX dL_areHosts_285 (by decide) ?_
  refine ro_istore_n (i := 1) (q := 290) hX dL_areHosts_289 rfl (Nat.le_of_ble_eq_true rfl) rfl ?_
  refine ro_drop [4, 5, 6, 7] hX rfl ?_
  refine ro_iinc (i := 3) (v := nI (h + 1)) (q := 293) hX dL_areHosts_290 rfl (ni_inc _) (Nat.le_of_ble_eq_true rfl) rfl ?_
  refine ro_goto (tgt := 10) hX dL_areHosts_293 (by decide) ?_
  exact kk
set_option maxRecDepth 20000 in
set_option maxHeartbeats 2000000 in
theorem ah_f10 {VV : VT} (hX : Ctx VV sz RL cL_areHosts (roomOf I_L_areHosts 0 0) 9) {pg : Int32} {h hd tg : Nat} (hh : h < 6) (hm : f 1 h = 0) (hz : hd = 0) (hf0 : rmS f h = 0) (hf1 : ¬ rmS f h < 0) (hd2 : hd ≤ 20) (kk : VV 0 0 227 [(0, .ref (sz + 0)), (1, .int (nI 1)), (2, .int pg), (3, .int (nI h)), (4, .int (nI hd)), (5, .int (nI 1)), (6, .int (f 1 h)), (7, .int (nI tg))] [] (patch G 1 7 f, T)) : VV 0 0 177 [(0, .ref (sz + 0)), (1, .int (nI 1)), (2, .int pg), (3, .int (nI h)), (4, .int (nI hd)), (5, .int (nI 1)), (6, .int (f 1 h)), (7, .int (nI tg))] [] (patch G 1 7 f, T) := by
  refine ro_iload (i := 6) (q := 179) hX dL_areHosts_177 rfl rfl ?_
  refine ro_if_ne (tgt := 187) (q := 182) hX dL_areHosts_179 (by decide) rfl (fun q => absurd (hm) q) (fun _ => ?_)
  refine ro_iload (i := 4) (q := 184) hX dL_areHosts_182 rfl rfl ?_
  refine ro_if_ne (tgt := 225) (q := 187) hX dL_areHosts_184 (by decide) rfl (fun q => absurd (by rw [hz]; rfl) q) (fun _ => ?_)
  refine ro_iload (i := 6) (q := 189) hX dL_areHosts_187 rfl rfl ?_
  refine ro_iconst (v := nI 1) (q := 190) hX dL_areHosts_189 rfl rfl ?_
  refine ro_icmp_ne (tgt := 198) (q := 193) hX dL_areHosts_190 (by decide) rfl (fun _ => ?_) (fun q => absurd q (by rw [hm]; decide))
  refine ro_aload_n (i := 0) (q := 199) hX dL_areHosts_198 rfl rfl rfl ?_
  refine ro_iload_n (i := 3) (q := 200) hX dL_areHosts_199 rfl rfl rfl ?_
  refine ro_callVi (q9 := 203) hX (x_freeRoom (by omega)) mw_X2_freeRoom kl_L_26 (by decide) (fun cy => cell2 (by decide +kernel)) rfl rfl rfl (Nat.le_of_ble_eq_true rfl) ⟨Nat.le_of_ble_eq_true rfl, Nat.le_of_ble_eq_true rfl⟩ dL_areHosts_200 ⟨Nat.le_of_ble_eq_true rfl, Nat.le_of_ble_eq_true rfl⟩ rfl ?_
  refine ro_if_ne (tgt := 225) (q := 206) hX dL_areHosts_203 (by decide) rfl (fun q => absurd (hf0) q) (fun _ => ?_)
  refine ro_aload_n (i := 0) (q := 207) hX dL_areHosts_206 rfl rfl rfl ?_
  refine ro_iload_n (i := 3) (q := 208) hX dL_areHosts_207 rfl rfl rfl ?_
  refine ro_callVi (q9 := 211) hX (x_freeRoom (by omega)) mw_X2_freeRoom kl_L_26 (by decide) (fun cy => cell2 (by decide +kernel)) rfl rfl rfl (Nat.le_of_ble_eq_true rfl) ⟨Nat.le_of_ble_eq_true rfl, Nat.le_of_ble_eq_true rfl⟩ dL_areHosts_208 ⟨Nat.le_of_ble_eq_true rfl, Nat.le_of_ble_eq_true rfl⟩ rfl ?_
  refine ro_if_lt (tgt := 225) (q := 214) hX dL_areHosts_211 (by decide) rfl (fun q => absurd q (hf1)) (fun _ => ?_)
  refine ro_iload (i := 4) (q := 216) hX dL_areHosts_214 rfl rfl ?_
  refine ro_bipush (v := nI 20) (q := 218) hX dL_areHosts_216 rfl rfl ?_
  refine ro_icmp_gt (tgt := 225) (q := 221) hX dL_areHosts_218 (by decide) rfl (fun q => absurd q (ni_nlt (by omega) (by omega))) (fun _ => ?_)
  refine ro_iconst (v := nI 1) (q := 222) hX dL_areHosts_221 rfl rfl ?_
  refine ro_goto (tgt := 226) hX dL_areHosts_222 (by decide) ?_
  refine ro_istore_n (i := 1) (q := 227) hX dL_areHosts_226 rfl (Nat.le_of_ble_eq_true rfl) rfl ?_
  exact kk
set_option maxRecDepth 20000 in
set_option maxHeartbeats 2000000 in
theorem ah_f11 {VV : VT} (hX : Ctx VV sz RL cL_areHosts (roomOf I_L_areHosts 0 0) 9) {pg : Int32} {h hd tg : Nat} (hh : h < 6) (hm : f 1 h = nI 1) (hf1 : ¬ rmS f h < 0) (hd2 : hd ≤ 20) (kk : VV 0 0 227 [(0, .ref (sz + 0)), (1, .int (nI 1)), (2, .int pg), (3, .int (nI h)), (4, .int (nI hd)), (5, .int (nI 1)), (6, .int (f 1 h)), (7, .int (nI tg))] [] (patch G 1 7 f, T)) : VV 0 0 177 [(0, .ref (sz + 0)), (1, .int (nI 1)), (2, .int pg), (3, .int (nI h)), (4, .int (nI hd)), (5, .int (nI 1)), (6, .int (f 1 h)), (7, .int (nI tg))] [] (patch G 1 7 f, T) := by
  refine ro_iload (i := 6) (q := 179) hX dL_areHosts_177 rfl rfl ?_
  refine ro_if_ne (tgt := 187) (q := 182) hX dL_areHosts_179 (by decide) rfl (fun _ => ?_) (fun q => absurd q (by rw [hm]; decide))
  refine ro_iload (i := 6) (q := 189) hX dL_areHosts_187 rfl rfl ?_
  refine ro_iconst (v := nI 1) (q := 190) hX dL_areHosts_189 rfl rfl ?_
  refine ro_icmp_ne (tgt := 198) (q := 193) hX dL_areHosts_190 (by decide) rfl (fun q => absurd (hm) q) (fun _ => ?_)
  refine ro_iload (i := 5) (q := 195) hX dL_areHosts_193 rfl rfl ?_
  refine ro_if_ne (tgt := 206) (q := 198) hX dL_areHosts_195 (by decide) rfl (fun _ => ?_) (fun q => absurd q (by decide))
  refine ro_aload_n (i := 0) (q := 207) hX dL_areHosts_206 rfl rfl rfl ?_
  refine ro_iload_n (i := 3) (q := 208) hX dL_areHosts_207 rfl rfl rfl ?_
  refine ro_callVi (q9 := 211) hX (x_freeRoom (by omega)) mw_X2_freeRoom kl_L_26 (by decide) (fun cy => cell2 (by decide +kernel)) rfl rfl rfl (Nat.le_of_ble_eq_true rfl) ⟨Nat.le_of_ble_eq_true rfl, Nat.le_of_ble_eq_true rfl⟩ dL_areHosts_208 ⟨Nat.le_of_ble_eq_true rfl, Nat.le_of_ble_eq_true rfl⟩ rfl ?_
  refine ro_if_lt (tgt := 225) (q := 214) hX dL_areHosts_211 (by decide) rfl (fun q => absurd q (hf1)) (fun _ => ?_)
  refine ro_iload (i := 4) (q := 216) hX dL_areHosts_214 rfl rfl ?_
  refine ro_bipush (v := nI 20) (q := 218) hX dL_areHosts_216 rfl rfl ?_
  refine ro_icmp_gt (tgt := 225) (q := 221) hX dL_areHosts_218 (by decide) rfl (fun q => absurd q (ni_nlt (by omega) (by omega))) (fun _ => ?_)
  refine ro_iconst (v := nI 1) (q := 222) hX dL_areHosts_221 rfl rfl ?_
  refine ro_goto (tgt := 226) hX dL_areHosts_222 (by decide) ?_
  refine ro_istore_n (i := 1) (q := 227) hX dL_areHosts_226 rfl (Nat.le_of_ble_eq_true rfl) rfl ?_
  exact kk
set_option maxRecDepth 20000 in
set_option maxHeartbeats 2000000 in
theorem ah_f12 {VV : VT} (hX : Ctx VV sz RL cL_areHosts (roomOf I_L_areHosts 0 0) 9) {pg : Int32} {h hd tg : Nat} (hh : h < 6) (hm : ¬ f 1 h = 0) (hm1 : ¬ f 1 h = nI 1) (hf0 : rmS f h = 0) (hf1 : ¬ rmS f h < 0) (hd2 : hd ≤ 20) (kk : VV 0 0 227 [(0, .ref (sz + 0)), (1, .int (nI 1)), (2, .int pg), (3, .int (nI h)), (4, .int (nI hd)), (5, .int (nI 1)), (6, .int (f 1 h)), (7, .int (nI tg))] [] (patch G 1 7 f, T)) : VV 0 0 177 [(0, .ref (sz + 0)), (1, .int (nI 1)), (2, .int pg), (3, .int (nI h)), (4, .int (nI hd)), (5, .int (nI 1)), (6, .int (f 1 h)), (7, .int (nI tg))] [] (patch G 1 7 f, T) := by
  refine ro_iload (i := 6) (q := 179) hX dL_areHosts_177 rfl rfl ?_
  refine ro_if_ne (tgt := 187) (q := 182) hX dL_areHosts_179 (by decide) rfl (fun _ => ?_) (fun q => absurd q (hm))
  refine ro_iload (i := 6) (q := 189) hX dL_areHosts_187 rfl rfl ?_
  refine ro_iconst (v := nI 1) (q := 190) hX dL_areHosts_189 rfl rfl ?_
  refine ro_icmp_ne (tgt := 198) (q := 193) hX dL_areHosts_190 (by decide) rfl (fun _ => ?_) (fun q => absurd q (hm1))
  refine ro_aload_n (i := 0) (q := 199) hX dL_areHosts_198 rfl rfl rfl ?_
  refine ro_iload_n (i := 3) (q := 200) hX dL_areHosts_199 rfl rfl rfl ?_
  refine ro_callVi (q9 := 203) hX (x_freeRoom (by omega)) mw_X2_freeRoom kl_L_26 (by decide) (fun cy => cell2 (by decide +kernel)) rfl rfl rfl (Nat.le_of_ble_eq_true rfl) ⟨Nat.le_of_ble_eq_true rfl, Nat.le_of_ble_eq_true rfl⟩ dL_areHosts_200 ⟨Nat.le_of_ble_eq_true rfl, Nat.le_of_ble_eq_true rfl⟩ rfl ?_
  refine ro_if_ne (tgt := 225) (q := 206) hX dL_areHosts_203 (by decide) rfl (fun q => absurd (hf0) q) (fun _ => ?_)
  refine ro_aload_n (i := 0) (q := 207) hX dL_areHosts_206 rfl rfl rfl ?_
  refine ro_iload_n (i := 3) (q := 208) hX dL_areHosts_207 rfl rfl rfl ?_
  refine ro_callVi (q9 := 211) hX (x_freeRoom (by omega)) mw_X2_freeRoom kl_L_26 (by decide) (fun cy => cell2 (by decide +kernel)) rfl rfl rfl (Nat.le_of_ble_eq_true rfl) ⟨Nat.le_of_ble_eq_true rfl, Nat.le_of_ble_eq_true rfl⟩ dL_areHosts_208 ⟨Nat.le_of_ble_eq_true rfl, Nat.le_of_ble_eq_true rfl⟩ rfl ?_
  refine ro_if_lt (tgt := 225) (q := 214) hX dL_areHosts_211 (by decide) rfl (fun q => absurd q (hf1)) (fun _ => ?_)
  refine ro_iload (i := 4) (q := 216) hX dL_areHosts_214 rfl rfl ?_
  refine ro_bipush (v := nI 20) (q := 218) hX dL_areHosts_216 rfl rfl ?_
  refine ro_icmp_gt (tgt := 225) (q := 221) hX dL_areHosts_218 (by decide) rfl (fun q => absurd q (ni_nlt (by omega) (by omega))) (fun _ => ?_)
  refine ro_iconst (v := nI 1) (q := 222) hX dL_areHosts_221 rfl rfl ?_
  refine ro_goto (tgt := 226) hX dL_areHosts_222 (by decide) ?_
  refine ro_istore_n (i := 1) (q := 227) hX dL_areHosts_226 rfl (Nat.le_of_ble_eq_true rfl) rfl ?_
  exact kk
set_option maxRecDepth 20000 in
set_option maxHeartbeats 2000000 in
theorem ah_d12 {VV : VT} (hX : Ctx VV sz RL cL_areHosts (roomOf I_L_areHosts 0 0) 9) {pg : Int32} {h hd tg : Nat} (hh : h < 6) (hm : f 1 h = nI 2) (h1 : ¬ dlV f h ≤ 0) (h2 : ¬ nI 600 < dlV f h) (hd0 : 0 < hd) (hd2 : hd ≤ 20) (kk : VV 0 0 10 [(0, .ref (sz + 0)), (1, .int (nI 1)), (2, .int pg), (3, .int (nI (h + 1)))] [] (patch G 1 7 f, T)) : VV 0 0 227 [(0, .ref (sz + 0)), (1, .int (nI 1)), (2, .int pg), (3, .int (nI h)), (4, .int (nI hd)), (5, .int (nI 1)), (6, .int (f 1 h)), (7, .int (nI tg))] [] (patch G 1 7 f, T) := by
  refine ro_iload_n (i := 1) (q := 228) hX dL_areHosts_227 rfl rfl rfl ?_
  refine ro_if_eq (tgt := 288) (q := 231) hX dL_areHosts_228 (by decide) rfl (fun q => absurd q (by decide)) (fun _ => ?_)
  refine ro_iload (i := 6) (q := 233) hX dL_areHosts_231 rfl rfl ?_
  refine ro_iconst (v := nI 2) (q := 234) hX dL_areHosts_233 rfl rfl ?_
  refine ro_icmp_ne (tgt := 247) (q := 237) hX dL_areHosts_234 (by decide) rfl (fun q => absurd (hm) q) (fun _ => ?_)
  refine ro_iload (i := 5) (q := 239) hX dL_areHosts_237 rfl rfl ?_
  refine ro_if_eq (tgt := 247) (q := 242) hX dL_areHosts_239 (by decide) rfl (fun q => absurd q (by decide)) (fun _ => ?_)
  refine ro_iload (i := 4) (q := 244) hX dL_areHosts_242 rfl rfl ?_
  refine ro_if_le (tgt := 288) (q := 247) hX dL_areHosts_244 (by decide) rfl (fun q => absurd q (fun q => absurd ((ni_le0 (by omega)).mp q) (by omega))) (fun _ => ?_)
  refine ro_iload (i := 6) (q := 249) hX dL_areHosts_247 rfl rfl ?_
  refine ro_iconst (v := nI 2) (q := 250) hX dL_areHosts_249 rfl rfl ?_
  refine ro_icmp_ne (tgt := 275) (q := 253) hX dL_areHosts_250 (by decide) rfl (fun q => absurd (hm) q) (fun _ => ?_)
  refine ro_aload_n (i := 0) (q := 254) hX dL_areHosts_253 rfl rfl rfl ?_
  refine ro_iload_n (i := 3) (q := 255) hX dL_areHosts_254 rfl rfl rfl ?_
  refine ro_callVi (q9 := 258) hX (x_dl (by omega)) mw_X2_deadlineIn kl_L_29 (by decide) (fun cy => cell2 (by decide +kernel)) rfl rfl rfl (Nat.le_of_ble_eq_true rfl) ⟨Nat.le_of_ble_eq_true rfl, Nat.le_of_ble_eq_true rfl⟩ dL_areHosts_255 ⟨Nat.le_of_ble_eq_true rfl, Nat.le_of_ble_eq_true rfl⟩ rfl ?_
  refine ro_if_le (tgt := 288) (q := 261) hX dL_areHosts_258 (by decide) rfl (fun q => absurd q (h1)) (fun _ => ?_)
  refine ro_aload_n (i := 0) (q := 262) hX dL_areHosts_261 rfl rfl rfl ?_
  refine ro_iload_n (i := 3) (q := 263) hX dL_areHosts_262 rfl rfl rfl ?_
  refine ro_callVi (q9 := 266) hX (x_dl (by omega)) mw_X2_deadlineIn kl_L_29 (by decide) (fun cy => cell2 (by decide +kernel)) rfl rfl rfl (Nat.le_of_ble_eq_true rfl) ⟨Nat.le_of_ble_eq_true rfl, Nat.le_of_ble_eq_true rfl⟩ dL_areHosts_263 ⟨Nat.le_of_ble_eq_true rfl, Nat.le_of_ble_eq_true rfl⟩ rfl ?_
  refine ro_sipush (v := nI 600) (q := 269) hX dL_areHosts_266 rfl rfl ?_
  refine ro_icmp_gt (tgt := 288) (q := 272) hX dL_areHosts_269 (by decide) rfl (fun q => absurd q (h2)) (fun _ => ?_)
  refine ro_goto (tgt := 284) hX dL_areHosts_272 (by decide) ?_
  refine ro_iconst (v := nI 1) (q := 285) hX dL_areHosts_284 rfl rfl ?_
  refine ro_goto (tgt := 289) hX dL_areHosts_285 (by decide) ?_
  refine ro_istore_n (i := 1) (q := 290) hX dL_areHosts_289 rfl (Nat.le_of_ble_eq_true rfl) rfl ?_
  refine ro_drop [4, 5, 6, 7] hX rfl ?_
  refine ro_iinc (i := 3) (v := nI (h + 1)) (q := 293) hX dL_areHosts_290 rfl (ni_inc _) (Nat.le_of_ble_eq_true rfl) rfl ?_
  refine ro_goto (tgt := 10) hX dL_areHosts_293 (by decide) ?_
  exact kk
set_option maxRecDepth 20000 in
set_option maxHeartbeats 2000000 in
theorem ah_d13 {VV : VT} (hX : Ctx VV sz RL cL_areHosts (roomOf I_L_areHosts 0 0) 9) {pg : Int32} {h hd tg : Nat} (hh : h < 6) (hm : ¬ f 1 h = nI 2) (h1 : dlV f h = -1) (kk : VV 0 0 10 [(0, .ref (sz + 0)), (1, .int (nI 1)), (2, .int pg), (3, .int (nI (h + 1)))] [] (patch G 1 7 f, T)) : VV 0 0 227 [(0, .ref (sz + 0)), (1, .int (nI 1)), (2, .int pg), (3, .int (nI h)), (4, .int (nI hd)), (5, .int (nI 1)), (6, .int (f 1 h)), (7, .int (nI tg))] [] (patch G 1 7 f, T) := by
  refine ro_iload_n (i := 1) (q := 228) hX dL_areHosts_227 rfl rfl rfl ?_
  refine ro_if_eq (tgt := 288) (q := 231) hX dL_areHosts_228 (by decide) rfl (fun q => absurd q (by decide)) (fun _ => ?_)
  refine ro_iload (i := 6) (q := 233) hX dL_areHosts_231 rfl rfl ?_
  refine ro_iconst (v := nI 2) (q := 234) hX dL_areHosts_233 rfl rfl ?_
  refine ro_icmp_ne (tgt := 247) (q := 237) hX dL_areHosts_234 (by decide) rfl (fun _ => ?_) (fun q => absurd q (hm))
  refine ro_iload (i := 6) (q := 249) hX dL_areHosts_247 rfl rfl ?_
  refine ro_iconst (v := nI 2) (q := 250) hX dL_areHosts_249 rfl rfl ?_
  refine ro_icmp_ne (tgt := 275) (q := 253) hX dL_areHosts_250 (by decide) rfl (fun _ => ?_) (fun q => absurd q (hm))
  refine ro_aload_n (i := 0) (q := 276) hX dL_areHosts_275 rfl rfl rfl ?_
  refine ro_iload_n (i := 3) (q := 277) hX dL_areHosts_276 rfl rfl rfl ?_
  refine ro_callVi (q9 := 280) hX (x_dl (by omega)) mw_X2_deadlineIn kl_L_29 (by decide) (fun cy => cell2 (by decide +kernel)) rfl rfl rfl (Nat.le_of_ble_eq_true rfl) ⟨Nat.le_of_ble_eq_true rfl, Nat.le_of_ble_eq_true rfl⟩ dL_areHosts_277 ⟨Nat.le_of_ble_eq_true rfl, Nat.le_of_ble_eq_true rfl⟩ rfl ?_
  refine ro_iconst (v := (-1)) (q := 281) hX dL_areHosts_280 rfl rfl ?_
  refine ro_icmp_ne (tgt := 288) (q := 284) hX dL_areHosts_281 (by decide) rfl (fun q => absurd (h1) q) (fun _ => ?_)
  refine ro_iconst (v := nI 1) (q := 285) hX dL_areHosts_284 rfl rfl ?_
  refine ro_goto (tgt := 289) hX dL_areHosts_285 (by decide) ?_
  refine ro_istore_n (i := 1) (q := 290) hX dL_areHosts_289 rfl (Nat.le_of_ble_eq_true rfl) rfl ?_
  refine ro_drop [4, 5, 6, 7] hX rfl ?_
  refine ro_iinc (i := 3) (v := nI (h + 1)) (q := 293) hX dL_areHosts_290 rfl (ni_inc _) (Nat.le_of_ble_eq_true rfl) rfl ?_
  refine ro_goto (tgt := 10) hX dL_areHosts_293 (by decide) ?_
  exact kk
set_option maxRecDepth 20000 in
set_option maxHeartbeats 2000000 in
theorem ah_en {VV : VT} (hF : CtxF VV sz RL cL_areHosts (some .boolean) (roomOf I_L_areHosts 0 0) 9 (.inl (some (nI 1))) (patch G 1 7 f, T) 0 0) : VV 0 0 296 [(0, .ref (sz + 0)), (1, .int (nI 1)), (2, .int (-1)), (3, .int (nI 6))] [] (patch G 1 7 f, T) := by
  have hX := hF.c
  refine ro_iload_n (i := 2) (q := 297) hX dL_areHosts_296 rfl rfl rfl ?_
  refine ro_if_lt (tgt := 386) (q := 300) hX dL_areHosts_297 (by decide) rfl (fun _ => ?_) (fun q => absurd (by decide) q)
  refine ro_iload_n (i := 1) (q := 387) hX dL_areHosts_386 rfl rfl rfl ?_
  exact fin_z hF (Nat.le_of_ble_eq_true rfl) (Nat.le_of_ble_eq_true rfl) dL_areHosts_387 rfl rfl rfl
set_option maxRecDepth 20000 in
set_option maxHeartbeats 2000000 in
theorem ah_es {VV : VT} (hF : CtxF VV sz RL cL_areHosts (some .boolean) (roomOf I_L_areHosts 0 0) 9 (.inl (some (nI 1))) (patch G 1 7 f, T) 0 0) {p S U d : Nat} (hp : p < 30) (hS : S < 6) (hU : U < 6) (hSU : S ≠ U) (e1 : trV f 1 = nI S) (e2 : trV f 2 = nI U) (e3 : trV f 3 = nI d) (hd1 : 1 ≤ d) (hd2 : d ≤ 60) (eb : (cpS f p >>> (nI S &&& 31)) &&& nI 1 = nI 1) (hm : f 1 U = nI 1) (ho : tb (f 0 7) (nI U) = true) (hr : rpV f U p = nI 0) : VV 0 0 296 [(0, .ref (sz + 0)), (1, .int (nI 1)), (2, .int (nI p)), (3, .int (nI 6))] [] (patch G 1 7 f, T) := by
  have hX := hF.c
  refine ro_iload_n (i := 2) (q := 297) hX dL_areHosts_296 rfl rfl rfl ?_
  refine ro_if_lt (tgt := 386) (q := 300) hX dL_areHosts_297 (by decide) rfl (fun q => absurd q (nI_pos (by omega))) (fun _ => ?_)
  refine ro_aload_n (i := 0) (q := 301) hX dL_areHosts_300 rfl rfl rfl ?_
  refine ro_iconst (v := nI 2) (q := 302) hX dL_areHosts_301 rfl rfl ?_
  refine ro_callVi (q9 := 305) hX (x_tr (by omega)) mw_X2_transfer kl_L_51 (by decide) (fun cy => cell2 (by decide +kernel)) rfl rfl rfl (Nat.le_of_ble_eq_true rfl) ⟨Nat.le_of_ble_eq_true rfl, Nat.le_of_ble_eq_true rfl⟩ dL_areHosts_302 ⟨Nat.le_of_ble_eq_true rfl, Nat.le_of_ble_eq_true rfl⟩ rfl ?_
  refine vv_top (y := (nI U)) (e2) ?_
  refine ro_istore_n (i := 3) (q := 306) hX dL_areHosts_305 rfl (Nat.le_of_ble_eq_true rfl) rfl ?_
  refine ro_iload_n (i := 1) (q := 307) hX dL_areHosts_306 rfl rfl rfl ?_
  refine ro_if_eq (tgt := 384) (q := 310) hX dL_areHosts_307 (by decide) rfl (fun q => absurd q (by decide)) (fun _ => ?_)
  refine ro_aload_n (i := 0) (q := 311) hX dL_areHosts_310 rfl rfl rfl ?_
  refine ro_iload_n (i := 2) (q := 312) hX dL_areHosts_311 rfl rfl rfl ?_
  refine ro_callVi (q9 := 315) hX (x_copies (by omega)) mw_X2_copies kl_L_39 (by decide) (fun cy => cell2 (by decide +kernel)) rfl rfl rfl (Nat.le_of_ble_eq_true rfl) ⟨Nat.le_of_ble_eq_true rfl, Nat.le_of_ble_eq_true rfl⟩ dL_areHosts_312 ⟨Nat.le_of_ble_eq_true rfl, Nat.le_of_ble_eq_true rfl⟩ rfl ?_
  refine ro_aload_n (i := 0) (q := 316) hX dL_areHosts_315 rfl rfl rfl ?_
  refine ro_iconst (v := nI 1) (q := 317) hX dL_areHosts_316 rfl rfl ?_
  refine ro_callVi (q9 := 320) hX (x_tr (by omega)) mw_X2_transfer kl_L_51 (by decide) (fun cy => cell2 (by decide +kernel)) rfl rfl rfl (Nat.le_of_ble_eq_true rfl) ⟨Nat.le_of_ble_eq_true rfl, Nat.le_of_ble_eq_true rfl⟩ dL_areHosts_317 ⟨Nat.le_of_ble_eq_true rfl, Nat.le_of_ble_eq_true rfl⟩ rfl ?_
  refine vv_top (y := (nI S)) (e1) ?_
  refine ro_ishr (q := 321) hX dL_areHosts_320 rfl ?_
  refine ro_iconst (v := nI 1) (q := 322) hX dL_areHosts_321 rfl rfl ?_
  refine ro_iand (q := 323) hX dL_areHosts_322 rfl ?_
  refine vv_top (y := (nI 1)) (eb) ?_
  refine ro_iconst (v := nI 1) (q := 324) hX dL_areHosts_323 rfl rfl ?_
  refine ro_icmp_ne (tgt := 384) (q := 327) hX dL_areHosts_324 (by decide) rfl (fun q => absurd (by decide) q) (fun _ => ?_)
  refine ro_aload_n (i := 0) (q := 328) hX dL_areHosts_327 rfl rfl rfl ?_
  refine ro_iload_n (i := 3) (q := 329) hX dL_areHosts_328 rfl rfl rfl ?_
  refine ro_callVi (q9 := 332) hX (x_mode (by omega)) mw_X2_mode kl_L_19 (by decide) (fun cy => cell2 (by decide +kernel)) rfl rfl rfl (Nat.le_of_ble_eq_true rfl) ⟨Nat.le_of_ble_eq_true rfl, Nat.le_of_ble_eq_true rfl⟩ dL_areHosts_329 ⟨Nat.le_of_ble_eq_true rfl, Nat.le_of_ble_eq_true rfl⟩ rfl ?_
  refine ro_iconst (v := nI 1) (q := 333) hX dL_areHosts_332 rfl rfl ?_
  refine ro_icmp_ne (tgt := 384) (q := 336) hX dL_areHosts_333 (by decide) rfl (fun q => absurd (hm) q) (fun _ => ?_)
  refine ro_aload_n (i := 0) (q := 337) hX dL_areHosts_336 rfl rfl rfl ?_
  refine ro_iload_n (i := 3) (q := 338) hX dL_areHosts_337 rfl rfl rfl ?_
  refine ro_callVi (q9 := 341) hX (x_isConnected (by omega)) mw_X2_isConnected kl_L_32 (by decide) (fun cy => cell2 (by decide +kernel)) rfl rfl rfl (Nat.le_of_ble_eq_true rfl) ⟨Nat.le_of_ble_eq_true rfl, Nat.le_of_ble_eq_true rfl⟩ dL_areHosts_338 ⟨Nat.le_of_ble_eq_true rfl, Nat.le_of_ble_eq_true rfl⟩ rfl ?_
  refine ro_ifb_eq (tgt := 384) (q := 344) hX dL_areHosts_341 (by decide) rfl (fun q => absurd ((ho).symm.trans q) (by decide)) (fun _ => ?_)
  refine ro_aload_n (i := 0) (q := 345) hX dL_areHosts_344 rfl rfl rfl ?_
  refine ro_iload_n (i := 3) (q := 346) hX dL_areHosts_345 rfl rfl rfl ?_
  refine ro_iload_n (i := 2) (q := 347) hX dL_areHosts_346 rfl rfl rfl ?_
  refine ro_callVi (q9 := 350) hX (x_rep (by omega) (by omega)) mw_X2_replica kl_L_47 (by decide) (fun cy => cell2 (by decide +kernel)) rfl rfl rfl (Nat.le_of_ble_eq_true rfl) ⟨Nat.le_of_ble_eq_true rfl, Nat.le_of_ble_eq_true rfl⟩ dL_areHosts_347 ⟨Nat.le_of_ble_eq_true rfl, Nat.le_of_ble_eq_true rfl⟩ rfl ?_
  refine ro_if_ne (tgt := 384) (q := 353) hX dL_areHosts_350 (by decide) rfl (fun q => absurd (hr) q) (fun _ => ?_)
  refine ro_aload_n (i := 0) (q := 354) hX dL_areHosts_353 rfl rfl rfl ?_
  refine ro_iconst (v := nI 3) (q := 355) hX dL_areHosts_354 rfl rfl ?_
  refine ro_callVi (q9 := 358) hX (x_tr (by omega)) mw_X2_transfer kl_L_51 (by decide) (fun cy => cell2 (by decide +kernel)) rfl rfl rfl (Nat.le_of_ble_eq_true rfl) ⟨Nat.le_of_ble_eq_true rfl, Nat.le_of_ble_eq_true rfl⟩ dL_areHosts_355 ⟨Nat.le_of_ble_eq_true rfl, Nat.le_of_ble_eq_true rfl⟩ rfl ?_
  refine vv_top (y := (nI d)) (e3) ?_
  refine ro_if_le (tgt := 384) (q := 361) hX dL_areHosts_358 (by decide) rfl (fun q => absurd q (fun q => absurd ((ni_le0 (by omega)).mp q) (by omega))) (fun _ => ?_)
  refine ro_aload_n (i := 0) (q := 362) hX dL_areHosts_361 rfl rfl rfl ?_
  refine ro_iconst (v := nI 3) (q := 363) hX dL_areHosts_362 rfl rfl ?_
  refine ro_callVi (q9 := 366) hX (x_tr (by omega)) mw_X2_transfer kl_L_51 (by decide) (fun cy => cell2 (by decide +kernel)) rfl rfl rfl (Nat.le_of_ble_eq_true rfl) ⟨Nat.le_of_ble_eq_true rfl, Nat.le_of_ble_eq_true rfl⟩ dL_areHosts_363 ⟨Nat.le_of_ble_eq_true rfl, Nat.le_of_ble_eq_true rfl⟩ rfl ?_
  refine vv_top (y := (nI d)) (e3) ?_
  refine ro_bipush (v := nI 60) (q := 368) hX dL_areHosts_366 rfl rfl ?_
  refine ro_icmp_gt (tgt := 384) (q := 371) hX dL_areHosts_368 (by decide) rfl (fun q => absurd q (ni_nlt (by omega) (by omega))) (fun _ => ?_)
  refine ro_iload_n (i := 3) (q := 372) hX dL_areHosts_371 rfl rfl rfl ?_
  refine ro_aload_n (i := 0) (q := 373) hX dL_areHosts_372 rfl rfl rfl ?_
  refine ro_iconst (v := nI 1) (q := 374) hX dL_areHosts_373 rfl rfl ?_
  refine ro_callVi (q9 := 377) hX (x_tr (by omega)) mw_X2_transfer kl_L_51 (by decide) (fun cy => cell2 (by decide +kernel)) rfl rfl rfl (Nat.le_of_ble_eq_true rfl) ⟨Nat.le_of_ble_eq_true rfl, Nat.le_of_ble_eq_true rfl⟩ dL_areHosts_374 ⟨Nat.le_of_ble_eq_true rfl, Nat.le_of_ble_eq_true rfl⟩ rfl ?_
  refine vv_top (y := (nI S)) (e1) ?_
  refine ro_icmp_eq (tgt := 384) (q := 380) hX dL_areHosts_377 (by decide) rfl (fun q => absurd q (ni_ne (Ne.symm hSU) (by omega) (by omega))) (fun _ => ?_)
  refine ro_iconst (v := nI 1) (q := 381) hX dL_areHosts_380 rfl rfl ?_
  refine ro_goto (tgt := 385) hX dL_areHosts_381 (by decide) ?_
  refine ro_istore_n (i := 1) (q := 386) hX dL_areHosts_385 rfl (Nat.le_of_ble_eq_true rfl) rfl ?_
  refine ro_iload_n (i := 1) (q := 387) hX dL_areHosts_386 rfl rfl rfl ?_
  exact fin_z hF (Nat.le_of_ble_eq_true rfl) (Nat.le_of_ble_eq_true rfl) dL_areHosts_387 rfl rfl rfl
theorem ah_host {VV : VT} (hX : Ctx VV sz RL cL_areHosts (roomOf I_L_areHosts 0 0) 9) (hf : GoodS f B M) {h : Nat} (hh : h < 6) {pg : Int32} (hp : (f 0 11 = -1 ∧ pg = -1) ∨ ∃ p U, p < 30 ∧ U < 6 ∧ ¬ f 0 11 = -1 ∧ pg = nI p ∧ trV f 2 = nI U ∧ f 0 13 = nI U)
    (kk : VV 0 0 10 [(0, .ref (sz + 0)), (1, .int (nI 1)), (2, .int pg), (3, .int (nI (h + 1)))] [] (patch G 1 7 f, T)) : VV 0 0 16 [(0, .ref (sz + 0)), (1, .int (nI 1)), (2, .int pg), (3, .int (nI h))] [] (patch G 1 7 f, T) := by
  have hu := good_used hf hh
  have hd2 := good_held hf hh
  have hf1 := good_free hf hh
  have tail : ∀ (on tg : Nat), (on = 0 ∧ tb (f 0 7) (nI h) = false) ∨ (on = 1 ∧ tb (f 0 7) (nI h) = true) → (tg = 0 ∨ tg = 1) → usS f h = nI (hdN f h 30) + nI tg →
      VV 0 0 152 [(0, .ref (sz + 0)), (1, .int (nI 1)), (2, .int pg), (3, .int (nI h)), (4, .int (nI (hdN f h 30))), (5, .int (nI on)), (6, .int (f 1 h)), (7, .int (nI tg))] [] (patch G 1 7 f, T) := by
    intro on tg hon htg hus
    generalize hhd : hdN f h 30 = hd at hus hd2
    have k177 : VV 0 0 177 [(0, .ref (sz + 0)), (1, .int (nI 1)), (2, .int pg), (3, .int (nI h)), (4, .int (nI hd)), (5, .int (nI on)), (6, .int (f 1 h)), (7, .int (nI tg))] [] (patch G 1 7 f, T) := by
      rcases hon with ⟨rfl, ho⟩ | ⟨rfl, ho⟩
      · have hf0 : rmS f h = 0 := free_0 fun z => by rw [ho] at z; cases z.2
        have k227 : VV 0 0 227 [(0, .ref (sz + 0)), (1, .int (nI 1)), (2, .int pg), (3, .int (nI h)), (4, .int (nI hd)), (5, .int (nI 0)), (6, .int (f 1 h)), (7, .int (nI tg))] [] (patch G 1 7 f, T) := by
          by_cases hm : f 1 h = nI 2
          · obtain ⟨d, d1, d2, d3⟩ := good_dl hf hh hm
            exact ah_d02 hX hh hm (by rw [d3]; exact fun q => absurd ((ni_le0 (by omega)).mp q) (by omega)) (by rw [d3]; exact ni_nlt (by omega) (by omega)) kk
          · exact ah_d03 hX hh hm (dl_none hm) kk
        by_cases m0 : f 1 h = 0
        · exact ah_f00 hX hh m0 (by rw [← hhd]; exact good_away hf hh m0) hf0 hf1 hd2 k227
        · by_cases m1 : f 1 h = nI 1
          · exact ah_f01 hX hh m1 hf0 hf1 hd2 k227
          · exact ah_f02 hX hh m0 m1 hf0 hf1 hd2 k227
      · have k227 : VV 0 0 227 [(0, .ref (sz + 0)), (1, .int (nI 1)), (2, .int pg), (3, .int (nI h)), (4, .int (nI hd)), (5, .int (nI 1)), (6, .int (f 1 h)), (7, .int (nI tg))] [] (patch G 1 7 f, T) := by
          by_cases hm : f 1 h = nI 2
          · obtain ⟨d, d1, d2, d3⟩ := good_dl hf hh hm
            exact ah_d12 hX hh hm (by rw [d3]; exact fun q => absurd ((ni_le0 (by omega)).mp q) (by omega)) (by rw [d3]; exact ni_nlt (by omega) (by omega)) (by rw [← hhd]; exact good_rec hf hh hm ho) hd2 kk
          · exact ah_d13 hX hh hm (dl_none hm) kk
        by_cases m0 : f 1 h = 0
        · exact ah_f10 hX hh m0 (by rw [← hhd]; exact good_away hf hh m0) (free_0 fun z => by rw [m0] at z; exact absurd z.1 (by decide)) hf1 hd2 k227
        · by_cases m1 : f 1 h = nI 1
          · exact ah_f11 hX hh m1 hf1 hd2 k227
          · exact ah_f12 hX hh m0 m1 (free_0 fun z => m1 z.1) hf1 hd2 k227
    rcases htg with rfl | rfl
    · exact ah_u0 hX hh hus k177
    · exact ah_u1 hX hh hus k177
  have mid : ∀ on : Nat, (on = 0 ∧ tb (f 0 7) (nI h) = false) ∨ (on = 1 ∧ tb (f 0 7) (nI h) = true) →
      VV 0 0 132 [(0, .ref (sz + 0)), (1, .int (nI 1)), (2, .int pg), (3, .int (nI h)), (4, .int (nI (hdN f h 30))), (5, .int (nI on)), (6, .int (f 1 h)), (7, .int (nI 30))] [] (patch G 1 7 f, T) := by
    intro on hon
    rcases hp with ⟨e1, rfl⟩ | ⟨p, U, p1, p2, p3, rfl, p5, p6⟩
    · rw [if_pos e1] at hu
      exact ah_tn hX hh (tail on 0 hon (Or.inl rfl) hu)
    · rw [if_neg p3] at hu
      by_cases e : U = h
      · rw [p6, e, if_pos rfl] at hu
        exact ah_ts hX hh p1 p5 e (tail on 1 hon (Or.inr rfl) hu)
      · rw [p6, if_neg (ni_ne e (by omega) (by omega))] at hu
        exact ah_to hX hh p1 p2 p5 e (tail on 0 hon (Or.inl rfl) hu)
  cases ho : tb (f 0 7) (nI h) with
  | false => exact ah_h0 hX hh ho (ah_in0 hX hh ho (mid 0 (Or.inl ⟨rfl, ho⟩)))
  | true => exact ah_h1 hX hh ho (ah_in1 hX hh ho (fun k hk => good_ns hf hh hk ho) (mid 1 (Or.inr ⟨rfl, ho⟩)))
theorem ah_loop {VV : VT} (hX : Ctx VV sz RL cL_areHosts (roomOf I_L_areHosts 0 0) 9) (hf : GoodS f B M) {pg : Int32} (hp : (f 0 11 = -1 ∧ pg = -1) ∨ ∃ p U, p < 30 ∧ U < 6 ∧ ¬ f 0 11 = -1 ∧ pg = nI p ∧ trV f 2 = nI U ∧ f 0 13 = nI U)
    (kk : VV 0 0 296 [(0, .ref (sz + 0)), (1, .int (nI 1)), (2, .int pg), (3, .int (nI 6))] [] (patch G 1 7 f, T)) : VV 0 0 10 [(0, .ref (sz + 0)), (1, .int (nI 1)), (2, .int pg), (3, .int (nI 0))] [] (patch G 1 7 f, T) := by
  refine down_ind (P := fun k => VV 0 0 10 [(0, .ref (sz + 0)), (1, .int (nI 1)), (2, .int pg), (3, .int (nI k))] [] (patch G 1 7 f, T)) 6 (fun k hk ih => ?_) ?_
  · refine ro_iload_n (i := 3) (q := 11) hX dL_areHosts_10 rfl rfl rfl ?_
    refine ro_bipush (v := nI 6) (q := 13) hX dL_areHosts_11 rfl rfl ?_
    refine ro_icmp_ge (tgt := 296) (q := 16) hX dL_areHosts_13 (by decide) rfl (fun q => absurd q (ni_nle (by omega) (by omega))) (fun _ => ?_)
    exact ah_host hX hf hk hp ih
  · refine ro_iload_n (i := 3) (q := 11) hX dL_areHosts_10 rfl rfl rfl ?_
    refine ro_bipush (v := nI 6) (q := 13) hX dL_areHosts_11 rfl rfl ?_
    exact ro_icmp_ge (tgt := 296) (q := 16) hX dL_areHosts_13 (by decide) rfl (fun _ => kk) (fun q => absurd (ni_le (by omega) (by omega)) q)
theorem l_areHosts (hf : GoodS f B M) : Does sz I_L_areHosts [.ref (sz + 0)] (patch G 1 7 f, T) 0 0 (.inl (some (nI 1))) (patch G 1 7 f, T) := by
  refine Does.of (L := [(0, .ref (sz + 0))]) (by decide +kernel) (Nat.le_of_ble_eq_true rfl) rfl ⟨rfl, (by simp), trivial⟩ (fun VV hF => ?_)
  by_cases hn : f 0 11 = -1
  · exact ah_pre hF.c (tr_none hn) (ah_loop hF.c hf (Or.inl ⟨hn, rfl⟩) (ah_en hF))
  · obtain ⟨p, S, U, d, a1, a2, a3, a4, a5, a6, a7, a8, a9, b1, b2, b3, b4, b5, b6, b7⟩ := good_tr hf hn
    exact ah_pre hF.c a5 (ah_loop hF.c hf (Or.inr ⟨p, U, a1, a3, hn, rfl, a7, b3⟩) (ah_es hF a1 a2 a3 a4 a6 a7 a8 a9 b1 b4 b5 b6 b7))
end
