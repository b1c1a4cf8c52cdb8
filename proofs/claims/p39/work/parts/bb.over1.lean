section
variable {sz : Nat} {G Ga Gb Gc Gd Ge Gf Gg Gh : Nat → Nat → Int32} {T Tb Tc Td Tf Tg Th : (Nat → Nat) × Int64} {f f1 f2 f3 g : SV} {B M : Nat}
set_option maxRecDepth 20000 in
set_option maxHeartbeats 2000000 in
theorem io_an {VV : VT} (hX : Ctx VV sz RL cL_isOver (roomOf I_L_isOver 0 0) 7) (hf : GoodS f B M) {h : Nat} (hh : h < 6) {r : Int32} (e : dlV f h = -1) (hR : Does sz I_X2_restsIn [.ref (sz + 0)] (patch G 1 7 f, T) 0 0 (.inl (some r)) (patch Ga 1 7 f, T)) (kk : VV 0 0 55 [(0, .ref (sz + 0)), (1, .int (nI h)), (2, .long (toldV f)), (5, .int r), (6, .int (nI 1))] [] (patch Ga 1 7 f, T)) : VV 0 0 0 [(0, .ref (sz + 0)), (1, .int (nI h))] [] (patch G 1 7 f, T) := by
  refine ro_aload_n (i := 0) (q := 1) hX dL_isOver_0 rfl rfl rfl ?_
  refine ro_callSR (q9 := 4) hX (l_told (good_told hf)) mw_L_told kl_L_101 rfl rfl (Nat.le_of_ble_eq_true rfl) ⟨Nat.le_of_ble_eq_true rfl, Nat.le_of_ble_eq_true rfl⟩ dL_isOver_1 ⟨Nat.le_of_ble_eq_true rfl, Nat.le_of_ble_eq_true rfl⟩ rfl (fun v9 M9 hv9 => ?_)
  obtain ⟨rfl, rfl⟩ := hv9
  refine ro_lstore_n (i := 2) (q := 5) hX dL_isOver_4 rfl (Nat.le_of_ble_eq_true rfl) rfl (Nat.le_of_ble_eq_true rfl) rfl ?_
  refine ro_aload_n (i := 0) (q := 6) hX dL_isOver_5 rfl rfl rfl ?_
  refine ro_iload_n (i := 1) (q := 7) hX dL_isOver_6 rfl rfl rfl ?_
  refine ro_callVi (q9 := 10) hX (x_dl hh) mw_X2_deadlineIn kl_L_29 (by decide) (fun cy => cell2 (by decide +kernel)) rfl rfl rfl (Nat.le_of_ble_eq_true rfl) ⟨Nat.le_of_ble_eq_true rfl, Nat.le_of_ble_eq_true rfl⟩ dL_isOver_7 ⟨Nat.le_of_ble_eq_true rfl, Nat.le_of_ble_eq_true rfl⟩ rfl ?_
  refine vv_top (y := (-1)) (e) ?_
  refine ro_istore (i := 4) (q := 12) hX dL_isOver_10 (Nat.le_of_ble_eq_true rfl) rfl ?_
  refine ro_aload_n (i := 0) (q := 13) hX dL_isOver_12 rfl rfl rfl ?_
  refine ro_callVi (q9 := 16) hX (hR) mw_X2_restsIn kl_L_108 (by decide) (fun cy => cell2 (by decide +kernel)) rfl rfl rfl (Nat.le_of_ble_eq_true rfl) ⟨Nat.le_of_ble_eq_true rfl, Nat.le_of_ble_eq_true rfl⟩ dL_isOver_13 ⟨Nat.le_of_ble_eq_true rfl, Nat.le_of_ble_eq_true rfl⟩ rfl ?_
  refine ro_istore (i := 5) (q := 18) hX dL_isOver_16 (Nat.le_of_ble_eq_true rfl) rfl ?_
  refine ro_iload (i := 4) (q := 20) hX dL_isOver_18 rfl rfl ?_
  refine ro_if_lt (tgt := 48) (q := 23) hX dL_isOver_20 (by decide) rfl (fun _ => ?_) (fun q => absurd (by decide) q)
  refine ro_iconst (v := nI 1) (q := 49) hX dL_isOver_48 rfl rfl ?_
  refine ro_goto (tgt := 53) hX dL_isOver_49 (by decide) ?_
  refine ro_drop [4] hX rfl ?_
  refine ro_istore (i := 6) (q := 55) hX dL_isOver_53 (Nat.le_of_ble_eq_true rfl) rfl ?_
  exact kk
set_option maxRecDepth 20000 in
set_option maxHeartbeats 2000000 in
theorem io_as {VV : VT} (hX : Ctx VV sz RL cL_isOver (roomOf I_L_isOver 0 0) 7) (hf : GoodS f B M) {h : Nat} (hh : h < 6) {r : Int32} {d a c : Nat} (hd : d < 1000) (ha : a < 1000) (hc : c < 1000) (e : dlV f h = nI d) (hm : ¬ f1 1 h = nI 2) (hR : Does sz I_X2_restsIn [.ref (sz + 0)] (patch G 1 7 f, T) 0 0 (.inl (some r)) (patch Ga 1 7 f, T)) (hP : Does sz I_X2_pass [.ref (sz + 0), .int (nI d)] (patch Ga 1 7 f, T) 0 0 (.inl (some (nI a))) (patch Gb 1 7 f1, Tb)) (hU : Does sz I_X2_undo [.ref (sz + 0)] (patch Gb 1 7 f1, Tb) 0 0 (.inl (some (nI c))) (patch Gc 1 7 f, Tb)) (kk : VV 0 0 55 [(0, .ref (sz + 0)), (1, .int (nI h)), (2, .long (toldV f)), (5, .int r), (6, .int (nI 1))] [] (patch Gc 1 7 f, Tb)) : VV 0 0 0 [(0, .ref (sz + 0)), (1, .int (nI h))] [] (patch G 1 7 f, T) := by
  refine ro_aload_n (i := 0) (q := 1) hX dL_isOver_0 rfl rfl rfl ?_
  refine ro_callSR (q9 := 4) hX (l_told (good_told hf)) mw_L_told kl_L_101 rfl rfl (Nat.le_of_ble_eq_true rfl) ⟨Nat.le_of_ble_eq_true rfl, Nat.le_of_ble_eq_true rfl⟩ dL_isOver_1 ⟨Nat.le_of_ble_eq_true rfl, Nat.le_of_ble_eq_true rfl⟩ rfl (fun v9 M9 hv9 => ?_)
  obtain ⟨rfl, rfl⟩ := hv9
  refine ro_lstore_n (i := 2) (q := 5) hX dL_isOver_4 rfl (Nat.le_of_ble_eq_true rfl) rfl (Nat.le_of_ble_eq_true rfl) rfl ?_
  refine ro_aload_n (i := 0) (q := 6) hX dL_isOver_5 rfl rfl rfl ?_
  refine ro_iload_n (i := 1) (q := 7) hX dL_isOver_6 rfl rfl rfl ?_
  refine ro_callVi (q9 := 10) hX (x_dl hh) mw_X2_deadlineIn kl_L_29 (by decide) (fun cy => cell2 (by decide +kernel)) rfl rfl rfl (Nat.le_of_ble_eq_true rfl) ⟨Nat.le_of_ble_eq_true rfl, Nat.le_of_ble_eq_true rfl⟩ dL_isOver_7 ⟨Nat.le_of_ble_eq_true rfl, Nat.le_of_ble_eq_true rfl⟩ rfl ?_
  refine vv_top (y := (nI d)) (e) ?_
  refine ro_istore (i := 4) (q := 12) hX dL_isOver_10 (Nat.le_of_ble_eq_true rfl) rfl ?_
  refine ro_aload_n (i := 0) (q := 13) hX dL_isOver_12 rfl rfl rfl ?_
  refine ro_callVi (q9 := 16) hX (hR) mw_X2_restsIn kl_L_108 (by decide) (fun cy => cell2 (by decide +kernel)) rfl rfl rfl (Nat.le_of_ble_eq_true rfl) ⟨Nat.le_of_ble_eq_true rfl, Nat.le_of_ble_eq_true rfl⟩ dL_isOver_13 ⟨Nat.le_of_ble_eq_true rfl, Nat.le_of_ble_eq_true rfl⟩ rfl ?_
  refine ro_istore (i := 5) (q := 18) hX dL_isOver_16 (Nat.le_of_ble_eq_true rfl) rfl ?_
  refine ro_iload (i := 4) (q := 20) hX dL_isOver_18 rfl rfl ?_
  refine ro_if_lt (tgt := 48) (q := 23) hX dL_isOver_20 (by decide) rfl (fun q => absurd q (nI_pos (by omega))) (fun _ => ?_)
  refine ro_aload_n (i := 0) (q := 24) hX dL_isOver_23 rfl rfl rfl ?_
  refine ro_iload (i := 4) (q := 26) hX dL_isOver_24 rfl rfl ?_
  refine ro_callVi (q9 := 29) hX (hP) mw_X2_pass kl_L_65 (by decide) (fun cy => cell2 (by decide +kernel)) rfl rfl rfl (Nat.le_of_ble_eq_true rfl) ⟨Nat.le_of_ble_eq_true rfl, Nat.le_of_ble_eq_true rfl⟩ dL_isOver_26 ⟨Nat.le_of_ble_eq_true rfl, Nat.le_of_ble_eq_true rfl⟩ rfl ?_
  refine ro_if_lt (tgt := 52) (q := 32) hX dL_isOver_29 (by decide) rfl (fun q => absurd q (nI_pos (by omega))) (fun _ => ?_)
  refine ro_aload_n (i := 0) (q := 33) hX dL_isOver_32 rfl rfl rfl ?_
  refine ro_iload_n (i := 1) (q := 34) hX dL_isOver_33 rfl rfl rfl ?_
  refine ro_callVi (q9 := 37) hX (x_mode hh) mw_X2_mode kl_L_19 (by decide) (fun cy => cell2 (by decide +kernel)) rfl rfl rfl (Nat.le_of_ble_eq_true rfl) ⟨Nat.le_of_ble_eq_true rfl, Nat.le_of_ble_eq_true rfl⟩ dL_isOver_34 ⟨Nat.le_of_ble_eq_true rfl, Nat.le_of_ble_eq_true rfl⟩ rfl ?_
  refine ro_iconst (v := nI 2) (q := 38) hX dL_isOver_37 rfl rfl ?_
  refine ro_icmp_eq (tgt := 52) (q := 41) hX dL_isOver_38 (by decide) rfl (fun q => absurd q (hm)) (fun _ => ?_)
  refine ro_aload_n (i := 0) (q := 42) hX dL_isOver_41 rfl rfl rfl ?_
  refine ro_callVi (q9 := 45) hX (hU) mw_X2_undo kl_L_105 (by decide) (fun cy => cell2 (by decide +kernel)) rfl rfl rfl (Nat.le_of_ble_eq_true rfl) ⟨Nat.le_of_ble_eq_true rfl, Nat.le_of_ble_eq_true rfl⟩ dL_isOver_42 ⟨Nat.le_of_ble_eq_true rfl, Nat.le_of_ble_eq_true rfl⟩ rfl ?_
  refine ro_if_lt (tgt := 52) (q := 48) hX dL_isOver_45 (by decide) rfl (fun q => absurd q (nI_pos (by omega))) (fun _ => ?_)
  refine ro_iconst (v := nI 1) (q := 49) hX dL_isOver_48 rfl rfl ?_
  refine ro_goto (tgt := 53) hX dL_isOver_49 (by decide) ?_
  refine ro_drop [4] hX rfl ?_
  refine ro_istore (i := 6) (q := 55) hX dL_isOver_53 (Nat.le_of_ble_eq_true rfl) rfl ?_
  exact kk
set_option maxRecDepth 20000 in
set_option maxHeartbeats 2000000 in
theorem io_bm {VV : VT} (hX : Ctx VV sz RL cL_isOver (roomOf I_L_isOver 0 0) 7) {h : Nat} (kk : VV 0 0 120 [(0, .ref (sz + 0)), (1, .int (nI h)), (2, .long (toldV f)), (5, .int (-1)), (6, .int (nI 1))] [] (patch G 1 7 f, T)) : VV 0 0 55 [(0, .ref (sz + 0)), (1, .int (nI h)), (2, .long (toldV f)), (5, .int (-1)), (6, .int (nI 1))] [] (patch G 1 7 f, T) := by
  refine ro_iload (i := 6) (q := 57) hX dL_isOver_55 rfl rfl ?_
  refine ro_if_eq (tgt := 120) (q := 60) hX dL_isOver_57 (by decide) rfl (fun q => absurd q (by decide)) (fun _ => ?_)
  refine ro_iload (i := 5) (q := 62) hX dL_isOver_60 rfl rfl ?_
  refine ro_if_le (tgt := 120) (q := 65) hX dL_isOver_62 (by decide) rfl (fun _ => ?_) (fun q => absurd (by decide) q)
  exact kk
set_option maxRecDepth 20000 in
set_option maxHeartbeats 2000000 in
theorem io_bz {VV : VT} (hX : Ctx VV sz RL cL_isOver (roomOf I_L_isOver 0 0) 7) {h : Nat} (kk : VV 0 0 120 [(0, .ref (sz + 0)), (1, .int (nI h)), (2, .long (toldV f)), (5, .int (nI 0)), (6, .int (nI 1))] [] (patch G 1 7 f, T)) : VV 0 0 55 [(0, .ref (sz + 0)), (1, .int (nI h)), (2, .long (toldV f)), (5, .int (nI 0)), (6, .int (nI 1))] [] (patch G 1 7 f, T) := by
  refine ro_iload (i := 6) (q := 57) hX dL_isOver_55 rfl rfl ?_
  refine ro_if_eq (tgt := 120) (q := 60) hX dL_isOver_57 (by decide) rfl (fun q => absurd q (by decide)) (fun _ => ?_)
  refine ro_iload (i := 5) (q := 62) hX dL_isOver_60 rfl rfl ?_
  refine ro_if_le (tgt := 120) (q := 65) hX dL_isOver_62 (by decide) rfl (fun _ => ?_) (fun q => absurd (by decide) q)
  exact kk
set_option maxRecDepth 20000 in
set_option maxHeartbeats 2000000 in
theorem io_bk {VV : VT} (hX : Ctx VV sz RL cL_isOver (roomOf I_L_isOver 0 0) 7) {h k a c1 c2 : Nat} (hk : 1 ≤ k) (hk2 : k ≤ 600) (ha : a < 1000) (hc1 : c1 < 1000) (hc2 : c2 < 1000) (e : trV f1 0 = -1) (hP : Does sz I_X2_pass [.ref (sz + 0), .int (nI k)] (patch G 1 7 f, T) 0 0 (.inl (some (nI a))) (patch Ga 1 7 f1, Tb)) (hR : Does sz I_X2_restsIn [.ref (sz + 0)] (patch Ga 1 7 f1, Tb) 0 0 (.inl (some (nI 0))) (patch Gb 1 7 f1, Tb)) (hQ : Does sz I_X2_pass [.ref (sz + 0), .int (nI 7)] (patch Gb 1 7 f1, Tb) 0 0 (.inl (some (nI 0))) (patch Gc 1 7 f2, Tc)) (hU1 : Does sz I_X2_undo [.ref (sz + 0)] (patch Gc 1 7 f2, Tc) 0 0 (.inl (some (nI c1))) (patch Gd 1 7 f1, Tc)) (hU2 : Does sz I_X2_undo [.ref (sz + 0)] (patch Gd 1 7 f1, Tc) 0 0 (.inl (some (nI c2))) (patch Ge 1 7 f, Tc)) (kk : VV 0 0 120 [(0, .ref (sz + 0)), (1, .int (nI h)), (2, .long (toldV f)), (5, .int (nI k)), (6, .int (nI 1))] [] (patch Ge 1 7 f, Tc)) : VV 0 0 55 [(0, .ref (sz + 0)), (1, .int (nI h)), (2, .long (toldV f)), (5, .int (nI k)), (6, .int (nI 1))] [] (patch G 1 7 f, T) := by
  refine ro_iload (i := 6) (q := 57) hX dL_isOver_55 rfl rfl ?_
  refine ro_if_eq (tgt := 120) (q := 60) hX dL_isOver_57 (by decide) rfl (fun q => absurd q (by decide)) (fun _ => ?_)
  refine ro_iload (i := 5) (q := 62) hX dL_isOver_60 rfl rfl ?_
  refine ro_if_le (tgt := 120) (q := 65) hX dL_isOver_62 (by decide) rfl (fun q => absurd q (fun q => absurd ((ni_le0 (by omega)).mp q) (by omega))) (fun _ => ?_)
  refine ro_aload_n (i := 0) (q := 66) hX dL_isOver_65 rfl rfl rfl ?_
  refine ro_iload (i := 5) (q := 68) hX dL_isOver_66 rfl rfl ?_
  refine ro_callVi (q9 := 71) hX (hP) mw_X2_pass kl_L_65 (by decide) (fun cy => cell2 (by decide +kernel)) rfl rfl rfl (Nat.le_of_ble_eq_true rfl) ⟨Nat.le_of_ble_eq_true rfl, Nat.le_of_ble_eq_true rfl⟩ dL_isOver_68 ⟨Nat.le_of_ble_eq_true rfl, Nat.le_of_ble_eq_true rfl⟩ rfl ?_
  refine ro_if_lt (tgt := 117) (q := 74) hX dL_isOver_71 (by decide) rfl (fun q => absurd q (nI_pos (by omega))) (fun _ => ?_)
  refine ro_aload_n (i := 0) (q := 75) hX dL_isOver_74 rfl rfl rfl ?_
  refine ro_iconst (v := nI 0) (q := 76) hX dL_isOver_75 rfl rfl ?_
  refine ro_callVi (q9 := 79) hX (x_tr (by omega)) mw_X2_transfer kl_L_51 (by decide) (fun cy => cell2 (by decide +kernel)) rfl rfl rfl (Nat.le_of_ble_eq_true rfl) ⟨Nat.le_of_ble_eq_true rfl, Nat.le_of_ble_eq_true rfl⟩ dL_isOver_76 ⟨Nat.le_of_ble_eq_true rfl, Nat.le_of_ble_eq_true rfl⟩ rfl ?_
  refine vv_top (y := (-1)) (e) ?_
  refine ro_iconst (v := (-1)) (q := 80) hX dL_isOver_79 rfl rfl ?_
  refine ro_icmp_ne (tgt := 117) (q := 83) hX dL_isOver_80 (by decide) rfl (fun q => absurd (by decide) q) (fun _ => ?_)
  refine ro_aload_n (i := 0) (q := 84) hX dL_isOver_83 rfl rfl rfl ?_
  refine ro_callVi (q9 := 87) hX (hR) mw_X2_restsIn kl_L_108 (by decide) (fun cy => cell2 (by decide +kernel)) rfl rfl rfl (Nat.le_of_ble_eq_true rfl) ⟨Nat.le_of_ble_eq_true rfl, Nat.le_of_ble_eq_true rfl⟩ dL_isOver_84 ⟨Nat.le_of_ble_eq_true rfl, Nat.le_of_ble_eq_true rfl⟩ rfl ?_
  refine ro_if_ne (tgt := 117) (q := 90) hX dL_isOver_87 (by decide) rfl (fun q => absurd (by decide) q) (fun _ => ?_)
  refine ro_aload_n (i := 0) (q := 91) hX dL_isOver_90 rfl rfl rfl ?_
  refine ro_bipush (v := nI 7) (q := 93) hX dL_isOver_91 rfl rfl ?_
  refine ro_callVi (q9 := 96) hX (hQ) mw_X2_pass kl_L_65 (by decide) (fun cy => cell2 (by decide +kernel)) rfl rfl rfl (Nat.le_of_ble_eq_true rfl) ⟨Nat.le_of_ble_eq_true rfl, Nat.le_of_ble_eq_true rfl⟩ dL_isOver_93 ⟨Nat.le_of_ble_eq_true rfl, Nat.le_of_ble_eq_true rfl⟩ rfl ?_
  refine ro_if_ne (tgt := 117) (q := 99) hX dL_isOver_96 (by decide) rfl (fun q => absurd (by decide) q) (fun _ => ?_)
  refine ro_aload_n (i := 0) (q := 100) hX dL_isOver_99 rfl rfl rfl ?_
  refine ro_callVi (q9 := 103) hX (hU1) mw_X2_undo kl_L_105 (by decide) (fun cy => cell2 (by decide +kernel)) rfl rfl rfl (Nat.le_of_ble_eq_true rfl) ⟨Nat.le_of_ble_eq_true rfl, Nat.le_of_ble_eq_true rfl⟩ dL_isOver_100 ⟨Nat.le_of_ble_eq_true rfl, Nat.le_of_ble_eq_true rfl⟩ rfl ?_
  refine ro_if_lt (tgt := 117) (q := 106) hX dL_isOver_103 (by decide) rfl (fun q => absurd q (nI_pos (by omega))) (fun _ => ?_)
  refine ro_aload_n (i := 0) (q := 107) hX dL_isOver_106 rfl rfl rfl ?_
  refine ro_callVi (q9 := 110) hX (hU2) mw_X2_undo kl_L_105 (by decide) (fun cy => cell2 (by decide +kernel)) rfl rfl rfl (Nat.le_of_ble_eq_true rfl) ⟨Nat.le_of_ble_eq_true rfl, Nat.le_of_ble_eq_true rfl⟩ dL_isOver_107 ⟨Nat.le_of_ble_eq_true rfl, Nat.le_of_ble_eq_true rfl⟩ rfl ?_
  refine ro_if_lt (tgt := 117) (q := 113) hX dL_isOver_110 (by decide) rfl (fun q => absurd q (nI_pos (by omega))) (fun _ => ?_)
  refine ro_iconst (v := nI 1) (q := 114) hX dL_isOver_113 rfl rfl ?_
  refine ro_goto (tgt := 118) hX dL_isOver_114 (by decide) ?_
  refine ro_istore (i := 6) (q := 120) hX dL_isOver_118 (Nat.le_of_ble_eq_true rfl) rfl ?_
  exact kk
set_option maxRecDepth 20000 in
set_option maxHeartbeats 2000000 in
theorem io_cm {VV : VT} {Po : Pos} (hF : CtxR VV sz RL cL_isOver (some .boolean) (roomOf I_L_isOver 0 0) 7 Po) (hf : GoodS f B M) {h : Nat}  (hPo : Po (.int (nI 1)) (patch G 1 7 f, T)) : VV 0 0 120 [(0, .ref (sz + 0)), (1, .int (nI h)), (2, .long (toldV f)), (5, .int (-1)), (6, .int (nI 1))] [] (patch G 1 7 f, T) := by
  have hX := hF.c
  refine ro_iload (i := 6) (q := 122) hX dL_isOver_120 rfl rfl ?_
  refine ro_if_eq (tgt := 152) (q := 125) hX dL_isOver_122 (by decide) rfl (fun q => absurd q (by decide)) (fun _ => ?_)
  refine ro_iload (i := 5) (q := 127) hX dL_isOver_125 rfl rfl ?_
  refine ro_if_ne (tgt := 139) (q := 130) hX dL_isOver_127 (by decide) rfl (fun _ => ?_) (fun q => absurd q (by decide))
  refine ro_aload_n (i := 0) (q := 140) hX dL_isOver_139 rfl rfl rfl ?_
  refine ro_callSR (q9 := 143) hX (l_told (good_told hf)) mw_L_told kl_L_101 rfl rfl (Nat.le_of_ble_eq_true rfl) ⟨Nat.le_of_ble_eq_true rfl, Nat.le_of_ble_eq_true rfl⟩ dL_isOver_140 ⟨Nat.le_of_ble_eq_true rfl, Nat.le_of_ble_eq_true rfl⟩ rfl (fun v9 M9 hv9 => ?_)
  obtain ⟨rfl, rfl⟩ := hv9
  refine ro_lload_n (i := 2) (q := 144) hX dL_isOver_143 rfl rfl rfl ?_
  refine ro_lcmp (q := 145) hX dL_isOver_144 rfl ?_
  refine vv_top (y := (nI 0)) (lg_self _) ?_
  refine ro_if_ne (tgt := 152) (q := 148) hX dL_isOver_145 (by decide) rfl (fun q => absurd (by decide) q) (fun _ => ?_)
  refine ro_iconst (v := nI 1) (q := 149) hX dL_isOver_148 rfl rfl ?_
  refine ro_goto (tgt := 153) hX dL_isOver_149 (by decide) ?_
  exact fin_zR hF dL_isOver_153 rfl hPo
set_option maxRecDepth 20000 in
set_option maxHeartbeats 2000000 in
theorem io_cz {VV : VT} {Po : Pos} (hF : CtxR VV sz RL cL_isOver (some .boolean) (roomOf I_L_isOver 0 0) 7 Po) (hf : GoodS f B M) {h : Nat} (e : trV f 0 = -1) (hPo : Po (.int (nI 1)) (patch G 1 7 f, T)) : VV 0 0 120 [(0, .ref (sz + 0)), (1, .int (nI h)), (2, .long (toldV f)), (5, .int (nI 0)), (6, .int (nI 1))] [] (patch G 1 7 f, T) := by
  have hX := hF.c
  refine ro_iload (i := 6) (q := 122) hX dL_isOver_120 rfl rfl ?_
  refine ro_if_eq (tgt := 152) (q := 125) hX dL_isOver_122 (by decide) rfl (fun q => absurd q (by decide)) (fun _ => ?_)
  refine ro_iload (i := 5) (q := 127) hX dL_isOver_125 rfl rfl ?_
  refine ro_if_ne (tgt := 139) (q := 130) hX dL_isOver_127 (by decide) rfl (fun q => absurd (by decide) q) (fun _ => ?_)
  refine ro_aload_n (i := 0) (q := 131) hX dL_isOver_130 rfl rfl rfl ?_
  refine ro_iconst (v := nI 0) (q := 132) hX dL_isOver_131 rfl rfl ?_
  refine ro_callVi (q9 := 135) hX (x_tr (by omega)) mw_X2_transfer kl_L_51 (by decide) (fun cy => cell2 (by decide +kernel)) rfl rfl rfl (Nat.le_of_ble_eq_true rfl) ⟨Nat.le_of_ble_eq_true rfl, Nat.le_of_ble_eq_true rfl⟩ dL_isOver_132 ⟨Nat.le_of_ble_eq_true rfl, Nat.le_of_ble_eq_true rfl⟩ rfl ?_
  refine vv_top (y := (-1)) (e) ?_
  refine ro_iconst (v := (-1)) (q := 136) hX dL_isOver_135 rfl rfl ?_
  refine ro_icmp_ne (tgt := 152) (q := 139) hX dL_isOver_136 (by decide) rfl (fun q => absurd (by decide) q) (fun _ => ?_)
  refine ro_aload_n (i := 0) (q := 140) hX dL_isOver_139 rfl rfl rfl ?_
  refine ro_callSR (q9 := 143) hX (l_told (good_told hf)) mw_L_told kl_L_101 rfl rfl (Nat.le_of_ble_eq_true rfl) ⟨Nat.le_of_ble_eq_true rfl, Nat.le_of_ble_eq_true rfl⟩ dL_isOver_140 ⟨Nat.le_of_ble_eq_true rfl, Nat.le_of_ble_eq_true rfl⟩ rfl (fun v9 M9 hv9 => ?_)
  obtain ⟨rfl, rfl⟩ := hv9
  refine ro_lload_n (i := 2) (q := 144) hX dL_isOver_143 rfl rfl rfl ?_
  refine ro_lcmp (q := 145) hX dL_isOver_144 rfl ?_
  refine vv_top (y := (nI 0)) (lg_self _) ?_
  refine ro_if_ne (tgt := 152) (q := 148) hX dL_isOver_145 (by decide) rfl (fun q => absurd (by decide) q) (fun _ => ?_)
  refine ro_iconst (v := nI 1) (q := 149) hX dL_isOver_148 rfl rfl ?_
  refine ro_goto (tgt := 153) hX dL_isOver_149 (by decide) ?_
  exact fin_zR hF dL_isOver_153 rfl hPo
set_option maxRecDepth 20000 in
set_option maxHeartbeats 2000000 in
theorem io_ck {VV : VT} {Po : Pos} (hF : CtxR VV sz RL cL_isOver (some .boolean) (roomOf I_L_isOver 0 0) 7 Po) (hf : GoodS f B M) {h : Nat} {k : Nat} (hk : 1 ≤ k) (hk2 : k ≤ 600) (hPo : Po (.int (nI 1)) (patch G 1 7 f, T)) : VV 0 0 120 [(0, .ref (sz + 0)), (1, .int (nI h)), (2, .long (toldV f)), (5, .int (nI k)), (6, .int (nI 1))] [] (patch G 1 7 f, T) := by
  have hX := hF.c
  refine ro_iload (i := 6) (q := 122) hX dL_isOver_120 rfl rfl ?_
  refine ro_if_eq (tgt := 152) (q := 125) hX dL_isOver_122 (by decide) rfl (fun q => absurd q (by decide)) (fun _ => ?_)
  refine ro_iload (i := 5) (q := 127) hX dL_isOver_125 rfl rfl ?_
  refine ro_if_ne (tgt := 139) (q := 130) hX dL_isOver_127 (by decide) rfl (fun _ => ?_) (fun q => absurd q (ni_ne (b := 0) (by omega) (by omega) (by decide)))
  refine ro_aload_n (i := 0) (q := 140) hX dL_isOver_139 rfl rfl rfl ?_
  refine ro_callSR (q9 := 143) hX (l_told (good_told hf)) mw_L_told kl_L_101 rfl rfl (Nat.le_of_ble_eq_true rfl) ⟨Nat.le_of_ble_eq_true rfl, Nat.le_of_ble_eq_true rfl⟩ dL_isOver_140 ⟨Nat.le_of_ble_eq_true rfl, Nat.le_of_ble_eq_true rfl⟩ rfl (fun v9 M9 hv9 => ?_)
  obtain ⟨rfl, rfl⟩ := hv9
  refine ro_lload_n (i := 2) (q := 144) hX dL_isOver_143 rfl rfl rfl ?_
  refine ro_lcmp (q := 145) hX dL_isOver_144 rfl ?_
  refine vv_top (y := (nI 0)) (lg_self _) ?_
  refine ro_if_ne (tgt := 152) (q := 148) hX dL_isOver_145 (by decide) rfl (fun q => absurd (by decide) q) (fun _ => ?_)
  refine ro_iconst (v := nI 1) (q := 149) hX dL_isOver_148 rfl rfl ?_
  refine ro_goto (tgt := 153) hX dL_isOver_149 (by decide) ?_
  exact fin_zR hF dL_isOver_153 rfl hPo
theorem l_isOver (hf : GoodS f B M) (hM : M ≤ 400000) {h : Nat} (hh : h < 6) {n : Nat} (hW : WorldS G T n g) : DoesR sz I_L_isOver [.ref (sz + 0), .int (nI h)] (patch G 1 7 f, T) (Back1 f g) := by
  refine DoesR.of (L := [(0, .ref (sz + 0)), (1, .int (nI h))]) (by decide +kernel) (Nat.le_of_ble_eq_true rfl) rfl ⟨rfl, (by simp), ⟨rfl, (by simp), trivial⟩⟩ (fun VV hF => ?_)
  have hX := hF.c
  obtain ⟨r, X, hR, hr⟩ := rests_ok hf (by omega)
  have hWa := hW.fc (X := X)
  -- behind the first half: the State f in a world
  have half : ∀ G T n, WorldS G T n g → VV 0 0 55 [(0, .ref (sz + 0)), (1, .int (nI h)), (2, .long (toldV f)), (5, .int r), (6, .int (nI 1))] [] (patch G 1 7 f, T) := by
    intro G T n hW
    rcases hr with rfl | ⟨k, hk, rfl, hrest⟩
    · exact io_bm hX (io_cm hF hf ⟨rfl, G, T, n, hW, rfl⟩)
    · by_cases h0 : k = 0
      · subst h0
        have e : trV f 0 = -1 := tr_none (rest_tr hrest)
        exact io_bz hX (io_cz hF hf e ⟨rfl, G, T, n, hW, rfl⟩)
      · obtain ⟨hG1, d, hd, hP⟩ := pass_ok hf (by omega) (k := k) (by omega)
        generalize avG (f 0 8 + nI k) k f = f1 at hrest hG1 hP
        have hW1 := hW.rm (f := f)
        have ht1 := TopS.rm (f := f) hW
        have h1 := rmN_1 (n := n)
        -- the forecast, then seven seconds more
        have hW2 := hW1.fc (X := f1)
        have ht2 := ht1.fc (X := f1) hW1
        have hQ := rest_pass hG1 (by omega) hrest
        have hW3 := hW2.rm (f := f1)
        have ht3 := TopS.rm (f := f1) hW2
        have hu := TopS.under (X := f1) hW2 ht2
        have h3 := rmN_1 (n := rmN n)
        obtain ⟨c1, ec1⟩ : ∃ c, rmN (rmN n) = c + 1 := ⟨rmN (rmN n) - 1, by omega⟩
        have hc1 : 1 ≤ c1 := by
          have := hu.1
          omega
        obtain ⟨c2, ec2⟩ : ∃ c, c1 = c + 1 := ⟨c1 - 1, by omega⟩
        rw [ec1] at hW3 ht3
        rw [show rmN (rmN n) - 1 = c1 by omega] at hu
        have hW4 := hW3.un
        have hU1 := x_undoT (sz := sz) (f' := avG (f1 0 8 + nI 7) 7 f1) hW3 ht3
        rw [ec2] at hW4 hu
        have hU2 := x_undoT (sz := sz) (f' := f1) hW4 hu
        have hW5 := hW4.un
        refine io_bk (c1 := c1) (c2 := c2) hX (by omega) hk (a := d) (by omega) (by omega) (by omega) (tr_none (rest_tr hrest)) (hP g sz G T n hW) (rest_in hrest) (hQ g sz _ _ _ hW2) hU1 ?_ (io_ck hF hf (by omega) hk ⟨rfl, _, _, c2, hW5, rfl⟩)
        rw [ec2]
        exact hU2
  by_cases hm : f 1 h = nI 2
  · obtain ⟨d, d1, d2, d3⟩ := good_dl hf hh hm
    obtain ⟨-, a, ha, hP⟩ := pass_ok hf (by omega) (k := d) (by omega)
    have hm1 := over_mode hf (by omega) hh (k := d) (by omega) hm d3
    have hW1 := hWa.rm (f := f)
    have ht1 := TopS.rm (f := f) hWa
    have h1 := rmN_1 (n := n)
    obtain ⟨c, ec⟩ : ∃ c, rmN n = c + 1 := ⟨rmN n - 1, by omega⟩
    rw [ec] at hW1 ht1
    exact io_as hX hf hh (by omega) (by omega) (c := c) (by omega) d3 hm1 (hR sz G T) (hP g sz _ T n hWa) (x_undoT hW1 ht1) (half _ _ c hW1.un)
  · exact io_an hX hf hh (dl_none hm) (hR sz G T) (half _ _ n hWa)
end
