section
variable {sz : Nat} {G G1 G2 : Nat → Nat → Int32} {T T1 : (Nat → Nat) × Int64} {f f' g : SV} {B M : Nat}
set_option maxRecDepth 20000 in
set_option maxHeartbeats 2000000 in
theorem ik_pre {VV : VT} (hX : Ctx VV sz RL cL_isKept (roomOf I_L_isKept 0 0) 8) (hf : GoodS f B M) {p cr : Nat} (kk : VV 0 0 11 [(0, .ref (sz + 0)), (1, .int (nI p)), (2, .int (nI cr)), (3, .long (toldV f)), (5, .int (nI 1)), (6, .int (nI 0))] [] (patch G 1 7 f, T)) : VV 0 0 0 [(0, .ref (sz + 0)), (1, .int (nI p)), (2, .int (nI cr))] [] (patch G 1 7 f, T) := by
  refine ro_aload_n (i := 0) (q := 1) hX dL_isKept_0 rfl rfl rfl ?_
  refine ro_callSR (q9 := 4) hX (l_told (good_told hf)) mw_L_told kl_L_101 rfl rfl (Nat.le_of_ble_eq_true rfl) ⟨Nat.le_of_ble_eq_true rfl, Nat.le_of_ble_eq_true rfl⟩ dL_isKept_1 ⟨Nat.le_of_ble_eq_true rfl, Nat.le_of_ble_eq_true rfl⟩ rfl (fun v9 M9 hv9 => ?_)
  obtain ⟨rfl, rfl⟩ := hv9
  refine ro_lstore_n (i := 3) (q := 5) hX dL_isKept_4 rfl (Nat.le_of_ble_eq_true rfl) rfl (Nat.le_of_ble_eq_true rfl) rfl ?_
  refine ro_iconst (v := nI 1) (q := 6) hX dL_isKept_5 rfl rfl ?_
  refine ro_istore (i := 5) (q := 8) hX dL_isKept_6 (Nat.le_of_ble_eq_true rfl) rfl ?_
  refine ro_iconst (v := nI 0) (q := 9) hX dL_isKept_8 rfl rfl ?_
  refine ro_istore (i := 6) (q := 11) hX dL_isKept_9 (Nat.le_of_ble_eq_true rfl) rfl ?_
  exact kk
set_option maxRecDepth 20000 in
set_option maxHeartbeats 2000000 in
theorem ik_out {VV : VT} (hX : Ctx VV sz RL cL_isKept (roomOf I_L_isKept 0 0) 8) {p cr h : Nat} (hp : p < 30) (hs : ¬ stS f p = nI 2) (kk : VV 0 0 122 [(0, .ref (sz + 0)), (1, .int (nI p)), (2, .int (nI cr)), (3, .long (toldV f)), (5, .int (nI 1)), (6, .int (nI h))] [] (patch G 1 7 f, T)) : VV 0 0 18 [(0, .ref (sz + 0)), (1, .int (nI p)), (2, .int (nI cr)), (3, .long (toldV f)), (5, .int (nI 1)), (6, .int (nI h))] [] (patch G 1 7 f, T) := by
  refine ro_iload (i := 5) (q := 20) hX dL_isKept_18 rfl rfl ?_
  refine ro_if_eq (tgt := 122) (q := 23) hX dL_isKept_20 (by decide) rfl (fun q => absurd q (by decide)) (fun _ => ?_)
  refine ro_aload_n (i := 0) (q := 24) hX dL_isKept_23 rfl rfl rfl ?_
  refine ro_iload_n (i := 1) (q := 25) hX dL_isKept_24 rfl rfl rfl ?_
  refine ro_callVi (q9 := 28) hX (x_status hp) mw_X2_status kl_L_36 (by decide) (fun cy => cell2 (by decide +kernel)) rfl rfl rfl (Nat.le_of_ble_eq_true rfl) ⟨Nat.le_of_ble_eq_true rfl, Nat.le_of_ble_eq_true rfl⟩ dL_isKept_25 ⟨Nat.le_of_ble_eq_true rfl, Nat.le_of_ble_eq_true rfl⟩ rfl ?_
  refine ro_iconst (v := nI 2) (q := 29) hX dL_isKept_28 rfl rfl ?_
  refine ro_icmp_ne (tgt := 122) (q := 32) hX dL_isKept_29 (by decide) rfl (fun _ => ?_) (fun q => absurd q (hs))
  exact kk
set_option maxRecDepth 20000 in
set_option maxHeartbeats 2000000 in
theorem ik_no {VV : VT} (hX : Ctx VV sz RL cL_isKept (roomOf I_L_isKept 0 0) 8) {p cr h : Nat} (hp : p < 30) (hs : stS f p = nI 2) (e : (cpS f p >>> (nI h &&& 31)) &&& nI 1 = nI 0) (kk : VV 0 0 11 [(0, .ref (sz + 0)), (1, .int (nI p)), (2, .int (nI cr)), (3, .long (toldV f)), (5, .int (nI 1)), (6, .int (nI (h + 1)))] [] (patch G 1 7 f, T)) : VV 0 0 18 [(0, .ref (sz + 0)), (1, .int (nI p)), (2, .int (nI cr)), (3, .long (toldV f)), (5, .int (nI 1)), (6, .int (nI h))] [] (patch G 1 7 f, T) := by
  refine ro_iload (i := 5) (q := 20) hX dL_isKept_18 rfl rfl ?_
  refine ro_if_eq (tgt := 122) (q := 23) hX dL_isKept_20 (by decide) rfl (fun q => absurd q (by decide)) (fun _ => ?_)
  refine ro_aload_n (i := 0) (q := 24) hX dL_isKept_23 rfl rfl rfl ?_
  refine ro_iload_n (i := 1) (q := 25) hX dL_isKept_24 rfl rfl rfl ?_
  refine ro_callVi (q9 := 28) hX (x_status hp) mw_X2_status kl_L_36 (by decide) (fun cy => cell2 (by decide +kernel)) rfl rfl rfl (Nat.le_of_ble_eq_true rfl) ⟨Nat.le_of_ble_eq_true rfl, Nat.le_of_ble_eq_true rfl⟩ dL_isKept_25 ⟨Nat.le_of_ble_eq_true rfl, Nat.le_of_ble_eq_true rfl⟩ rfl ?_
  refine ro_iconst (v := nI 2) (q := 29) hX dL_isKept_28 rfl rfl ?_
  refine ro_icmp_ne (tgt := 122) (q := 32) hX dL_isKept_29 (by decide) rfl (fun q => absurd (hs) q) (fun _ => ?_)
  refine ro_aload_n (i := 0) (q := 33) hX dL_isKept_32 rfl rfl rfl ?_
  refine ro_iload_n (i := 1) (q := 34) hX dL_isKept_33 rfl rfl rfl ?_
  refine ro_callVi (q9 := 37) hX (x_copies hp) mw_X2_copies kl_L_39 (by decide) (fun cy => cell2 (by decide +kernel)) rfl rfl rfl (Nat.le_of_ble_eq_true rfl) ⟨Nat.le_of_ble_eq_true rfl, Nat.le_of_ble_eq_true rfl⟩ dL_isKept_34 ⟨Nat.le_of_ble_eq_true rfl, Nat.le_of_ble_eq_true rfl⟩ rfl ?_
  refine ro_iload (i := 6) (q := 39) hX dL_isKept_37 rfl rfl ?_
  refine ro_ishr (q := 40) hX dL_isKept_39 rfl ?_
  refine ro_iconst (v := nI 1) (q := 41) hX dL_isKept_40 rfl rfl ?_
  refine ro_iand (q := 42) hX dL_isKept_41 rfl ?_
  refine vv_top (y := (nI 0)) (e) ?_
  refine ro_iconst (v := nI 1) (q := 43) hX dL_isKept_42 rfl rfl ?_
  refine ro_icmp_ne (tgt := 116) (q := 46) hX dL_isKept_43 (by decide) rfl (fun _ => ?_) (fun q => absurd q (by decide))
  refine ro_iinc (i := 6) (v := nI (h + 1)) (q := 119) hX dL_isKept_116 rfl (ni_inc _) (Nat.le_of_ble_eq_true rfl) rfl ?_
  refine ro_goto (tgt := 11) hX dL_isKept_119 (by decide) ?_
  exact kk
set_option maxRecDepth 20000 in
set_option maxHeartbeats 2000000 in
theorem ik_go1 {VV : VT} (hX : Ctx VV sz RL cL_isKept (roomOf I_L_isKept 0 0) 8) (hf : GoodS f B M) {p h v m : Nat} (hp : p < 30) (hh : h < 6) (hs : stS f p = nI 2) (e : (cpS f p >>> (nI h &&& 31)) &&& nI 1 = nI 1) (hre : reS f p = true) (hv0 : 0 < v) (hv : v < 2147483648) (hm : m < 10) (hS : Stays f f' p)
    (hD : Does sz I_X2_crash [.ref (sz + 0), .int (nI h)] (patch G 1 7 f, T) 0 0 (.inl (some (nI v))) (patch G1 1 7 f', T1)) (hU : Does sz I_X2_undo [.ref (sz + 0)] (patch G1 1 7 f', T1) 0 0 (.inl (some (nI m))) (patch G2 1 7 f, T1))
    (kk : VV 0 0 11 [(0, .ref (sz + 0)), (1, .int (nI p)), (2, .int (nI 1)), (3, .long (toldV f)), (5, .int (nI 1)), (6, .int (nI (h + 1)))] [] (patch G2 1 7 f, T1)) : VV 0 0 18 [(0, .ref (sz + 0)), (1, .int (nI p)), (2, .int (nI 1)), (3, .long (toldV f)), (5, .int (nI 1)), (6, .int (nI h))] [] (patch G 1 7 f, T) := by
  refine ro_iload (i := 5) (q := 20) hX dL_isKept_18 rfl rfl ?_
  refine ro_if_eq (tgt := 122) (q := 23) hX dL_isKept_20 (by decide) rfl (fun q => absurd q (by decide)) (fun _ => ?_)
  refine ro_aload_n (i := 0) (q := 24) hX dL_isKept_23 rfl rfl rfl ?_
  refine ro_iload_n (i := 1) (q := 25) hX dL_isKept_24 rfl rfl rfl ?_
  refine ro_callVi (q9 := 28) hX (x_status hp) mw_X2_status kl_L_36 (by decide) (fun cy => cell2 (by decide +kernel)) rfl rfl rfl (Nat.le_of_ble_eq_true rfl) ⟨Nat.le_of_ble_eq_true rfl, Nat.le_of_ble_eq_true rfl⟩ dL_isKept_25 ⟨Nat.le_of_ble_eq_true rfl, Nat.le_of_ble_eq_true rfl⟩ rfl ?_
  refine ro_iconst (v := nI 2) (q := 29) hX dL_isKept_28 rfl rfl ?_
  refine ro_icmp_ne (tgt := 122) (q := 32) hX dL_isKept_29 (by decide) rfl (fun q => absurd (hs) q) (fun _ => ?_)
  refine ro_aload_n (i := 0) (q := 33) hX dL_isKept_32 rfl rfl rfl ?_
  refine ro_iload_n (i := 1) (q := 34) hX dL_isKept_33 rfl rfl rfl ?_
  refine ro_callVi (q9 := 37) hX (x_copies hp) mw_X2_copies kl_L_39 (by decide) (fun cy => cell2 (by decide +kernel)) rfl rfl rfl (Nat.le_of_ble_eq_true rfl) ⟨Nat.le_of_ble_eq_true rfl, Nat.le_of_ble_eq_true rfl⟩ dL_isKept_34 ⟨Nat.le_of_ble_eq_true rfl, Nat.le_of_ble_eq_true rfl⟩ rfl ?_
  refine ro_iload (i := 6) (q := 39) hX dL_isKept_37 rfl rfl ?_
  refine ro_ishr (q := 40) hX dL_isKept_39 rfl ?_
  refine ro_iconst (v := nI 1) (q := 41) hX dL_isKept_40 rfl rfl ?_
  refine ro_iand (q := 42) hX dL_isKept_41 rfl ?_
  refine vv_top (y := (nI 1)) (e) ?_
  refine ro_iconst (v := nI 1) (q := 43) hX dL_isKept_42 rfl rfl ?_
  refine ro_icmp_ne (tgt := 116) (q := 46) hX dL_isKept_43 (by decide) rfl (fun q => absurd (by decide) q) (fun _ => ?_)
  refine ro_aload_n (i := 0) (q := 47) hX dL_isKept_46 rfl rfl rfl ?_
  refine ro_iload_n (i := 1) (q := 48) hX dL_isKept_47 rfl rfl rfl ?_
  refine ro_callVi (q9 := 51) hX (x_read hp hre) mw_X2_read kl_L_42 (by decide) (fun cy => cell2 (by decide +kernel)) rfl rfl rfl (Nat.le_of_ble_eq_true rfl) ⟨Nat.le_of_ble_eq_true rfl, Nat.le_of_ble_eq_true rfl⟩ dL_isKept_48 ⟨Nat.le_of_ble_eq_true rfl, Nat.le_of_ble_eq_true rfl⟩ rfl ?_
  refine ro_istore (i := 7) (q := 53) hX dL_isKept_51 (Nat.le_of_ble_eq_true rfl) rfl ?_
  refine ro_iload_n (i := 2) (q := 54) hX dL_isKept_53 rfl rfl rfl ?_
  refine ro_if_eq (tgt := 66) (q := 57) hX dL_isKept_54 (by decide) rfl (fun q => absurd q (by decide)) (fun _ => ?_)
  refine ro_aload_n (i := 0) (q := 58) hX dL_isKept_57 rfl rfl rfl ?_
  refine ro_iload (i := 6) (q := 60) hX dL_isKept_58 rfl rfl ?_
  refine ro_callVi (q9 := 63) hX (hD) mw_X2_crash kl_L_77 (by decide) (fun cy => cell2 (by decide +kernel)) rfl rfl rfl (Nat.le_of_ble_eq_true rfl) ⟨Nat.le_of_ble_eq_true rfl, Nat.le_of_ble_eq_true rfl⟩ dL_isKept_60 ⟨Nat.le_of_ble_eq_true rfl, Nat.le_of_ble_eq_true rfl⟩ rfl ?_
  refine ro_goto (tgt := 72) hX dL_isKept_63 (by decide) ?_
  refine ro_if_le (tgt := 113) (q := 75) hX dL_isKept_72 (by decide) rfl (fun q => absurd q (fun q => absurd ((ni_le0 (by omega)).mp q) (by omega))) (fun _ => ?_)
  refine ro_aload_n (i := 0) (q := 76) hX dL_isKept_75 rfl rfl rfl ?_
  refine ro_iload_n (i := 1) (q := 77) hX dL_isKept_76 rfl rfl rfl ?_
  refine ro_callVi (q9 := 80) hX (x_copies hp) mw_X2_copies kl_L_39 (by decide) (fun cy => cell2 (by decide +kernel)) rfl rfl rfl (Nat.le_of_ble_eq_true rfl) ⟨Nat.le_of_ble_eq_true rfl, Nat.le_of_ble_eq_true rfl⟩ dL_isKept_77 ⟨Nat.le_of_ble_eq_true rfl, Nat.le_of_ble_eq_true rfl⟩ rfl ?_
  refine ro_if_eq (tgt := 113) (q := 83) hX dL_isKept_80 (by decide) rfl (fun q => absurd q (hS.1)) (fun _ => ?_)
  refine ro_aload_n (i := 0) (q := 84) hX dL_isKept_83 rfl rfl rfl ?_
  refine ro_iload_n (i := 1) (q := 85) hX dL_isKept_84 rfl rfl rfl ?_
  refine ro_callVi (q9 := 88) hX (x_read hp hS.2.1) mw_X2_read kl_L_42 (by decide) (fun cy => cell2 (by decide +kernel)) rfl rfl rfl (Nat.le_of_ble_eq_true rfl) ⟨Nat.le_of_ble_eq_true rfl, Nat.le_of_ble_eq_true rfl⟩ dL_isKept_85 ⟨Nat.le_of_ble_eq_true rfl, Nat.le_of_ble_eq_true rfl⟩ rfl ?_
  refine ro_iload (i := 7) (q := 90) hX dL_isKept_88 rfl rfl ?_
  refine ro_icmp_ne (tgt := 113) (q := 93) hX dL_isKept_90 (by decide) rfl (fun q => absurd (hS.2.2) q) (fun _ => ?_)
  refine ro_aload_n (i := 0) (q := 94) hX dL_isKept_93 rfl rfl rfl ?_
  refine ro_callVi (q9 := 97) hX (hU) mw_X2_undo kl_L_105 (by decide) (fun cy => cell2 (by decide +kernel)) rfl rfl rfl (Nat.le_of_ble_eq_true rfl) ⟨Nat.le_of_ble_eq_true rfl, Nat.le_of_ble_eq_true rfl⟩ dL_isKept_94 ⟨Nat.le_of_ble_eq_true rfl, Nat.le_of_ble_eq_true rfl⟩ rfl ?_
  refine ro_if_lt (tgt := 113) (q := 100) hX dL_isKept_97 (by decide) rfl (fun q => absurd q (nI_pos (by omega))) (fun _ => ?_)
  refine ro_aload_n (i := 0) (q := 101) hX dL_isKept_100 rfl rfl rfl ?_
  refine ro_callSR (q9 := 104) hX (l_told (good_told hf)) mw_L_told kl_L_101 rfl rfl (Nat.le_of_ble_eq_true rfl) ⟨Nat.le_of_ble_eq_true rfl, Nat.le_of_ble_eq_true rfl⟩ dL_isKept_101 ⟨Nat.le_of_ble_eq_true rfl, Nat.le_of_ble_eq_true rfl⟩ rfl (fun v9 M9 hv9 => ?_)
  obtain ⟨rfl, rfl⟩ := hv9
  refine ro_lload_n (i := 3) (q := 105) hX dL_isKept_104 rfl rfl rfl ?_
  refine ro_lcmp (q := 106) hX dL_isKept_105 rfl ?_
  refine vv_top (y := (nI 0)) (lg_self _) ?_
  refine ro_if_ne (tgt := 113) (q := 109) hX dL_isKept_106 (by decide) rfl (fun q => absurd (by decide) q) (fun _ => ?_)
  refine ro_iconst (v := nI 1) (q := 110) hX dL_isKept_109 rfl rfl ?_
  refine ro_goto (tgt := 114) hX dL_isKept_110 (by decide) ?_
  refine ro_istore (i := 5) (q := 116) hX dL_isKept_114 (Nat.le_of_ble_eq_true rfl) rfl ?_
  refine ro_drop [7] hX rfl ?_
  refine ro_iinc (i := 6) (v := nI (h + 1)) (q := 119) hX dL_isKept_116 rfl (ni_inc _) (Nat.le_of_ble_eq_true rfl) rfl ?_
  refine ro_goto (tgt := 11) hX dL_isKept_119 (by decide) ?_
  exact kk
set_option maxRecDepth 20000 in
set_option maxHeartbeats 2000000 in
theorem ik_go0 {VV : VT} (hX : Ctx VV sz RL cL_isKept (roomOf I_L_isKept 0 0) 8) (hf : GoodS f B M) {p h v m : Nat} (hp : p < 30) (hh : h < 6) (hs : stS f p = nI 2) (e : (cpS f p >>> (nI h &&& 31)) &&& nI 1 = nI 1) (hre : reS f p = true) (hv0 : 0 < v) (hv : v < 2147483648) (hm : m < 10) (hS : Stays f f' p)
    (hD : Does sz I_X2_disconnect [.ref (sz + 0), .int (nI h)] (patch G 1 7 f, T) 0 0 (.inl (some (nI v))) (patch G1 1 7 f', T1)) (hU : Does sz I_X2_undo [.ref (sz + 0)] (patch G1 1 7 f', T1) 0 0 (.inl (some (nI m))) (patch G2 1 7 f, T1))
    (kk : VV 0 0 11 [(0, .ref (sz + 0)), (1, .int (nI p)), (2, .int (nI 0)), (3, .long (toldV f)), (5, .int (nI 1)), (6, .int (nI (h + 1)))] [] (patch G2 1 7 f, T1)) : VV 0 0 18 [(0, .ref (sz + 0)), (1, .int (nI p)), (2, .int (nI 0)), (3, .long (toldV f)), (5, .int (nI 1)), (6, .int (nI h))] [] (patch G 1 7 f, T) := by
  refine ro_iload (i := 5) (q := 20) hX dL_isKept_18 rfl rfl ?_
  refine ro_if_eq (tgt := 122) (q := 23) hX dL_isKept_20 (by decide) rfl (fun q => absurd q (by decide)) (fun _ => ?_)
  refine ro_aload_n (i := 0) (q := 24) hX dL_isKept_23 rfl rfl rfl ?_
  refine ro_iload_n (i := 1) (q := 25) hX dL_isKept_24 rfl rfl rfl ?_
  refine ro_callVi (q9 := 28) hX (x_status hp) mw_X2_status kl_L_36 (by decide) (fun cy => cell2 (by decide +kernel)) rfl rfl rfl (Nat.le_of_ble_eq_true rfl) ⟨Nat.le_of_ble_eq_true rfl, Nat.le_of_ble_eq_true rfl⟩ dL_isKept_25 ⟨Nat.le_of_ble_eq_true rfl, Nat.le_of_ble_eq_true rfl⟩ rfl ?_
  refine ro_iconst (v := nI 2) (q := 29) hX dL_isKept_28 rfl rfl ?_
  refine ro_icmp_ne (tgt := 122) (q := 32) hX dL_isKept_29 (by decide) rfl (fun q => absurd (hs) q) (fun _ => ?_)
  refine ro_aload_n (i := 0) (q := 33) hX dL_isKept_32 rfl rfl rfl ?_
  refine ro_iload_n (i := 1) (q := 34) hX dL_isKept_33 rfl rfl rfl ?_
  refine ro_callVi (q9 := 37) hX (x_copies hp) mw_X2_copies kl_L_39 (by decide) (fun cy => cell2 (by decide +kernel)) rfl rfl rfl (Nat.le_of_ble_eq_true rfl) ⟨Nat.le_of_ble_eq_true rfl, Nat.le_of_ble_eq_true rfl⟩ dL_isKept_34 ⟨Nat.le_of_ble_eq_true rfl, Nat.le_of_ble_eq_true rfl⟩ rfl ?_
  refine ro_iload (i := 6) (q := 39) hX dL_isKept_37 rfl rfl ?_
  refine ro_ishr (q := 40) hX dL_isKept_39 rfl ?_
  refine ro_iconst (v := nI 1) (q := 41) hX dL_isKept_40 rfl rfl ?_
  refine ro_iand (q := 42) hX dL_isKept_41 rfl ?_
  refine vv_top (y := (nI 1)) (e) ?_
  refine ro_iconst (v := nI 1) (q := 43) hX dL_isKept_42 rfl rfl ?_
  refine ro_icmp_ne (tgt := 116) (q := 46) hX dL_isKept_43 (by decide) rfl (fun q => absurd (by decide) q) (fun _ => ?_)
  refine ro_aload_n (i := 0) (q := 47) hX dL_isKept_46 rfl rfl rfl ?_
  refine ro_iload_n (i := 1) (q := 48) hX dL_isKept_47 rfl rfl rfl ?_
  refine ro_callVi (q9 := 51) hX (x_read hp hre) mw_X2_read kl_L_42 (by decide) (fun cy => cell2 (by decide +kernel)) rfl rfl rfl (Nat.le_of_ble_eq_true rfl) ⟨Nat.le_of_ble_eq_true rfl, Nat.le_of_ble_eq_true rfl⟩ dL_isKept_48 ⟨Nat.le_of_ble_eq_true rfl, Nat.le_of_ble_eq_true rfl⟩ rfl ?_
  refine ro_istore (i := 7) (q := 53) hX dL_isKept_51 (Nat.le_of_ble_eq_true rfl) rfl ?_
  refine ro_iload_n (i := 2) (q := 54) hX dL_isKept_53 rfl rfl rfl ?_
  refine ro_if_eq (tgt := 66) (q := 57) hX dL_isKept_54 (by decide) rfl (fun _ => ?_) (fun q => absurd (by decide) q)
  refine ro_aload_n (i := 0) (q := 67) hX dL_isKept_66 rfl rfl rfl ?_
  refine ro_iload (i := 6) (q := 69) hX dL_isKept_67 rfl rfl ?_
  refine ro_callVi (q9 := 72) hX (hD) mw_X2_disconnect kl_L_86 (by decide) (fun cy => cell2 (by decide +kernel)) rfl rfl rfl (Nat.le_of_ble_eq_true rfl) ⟨Nat.le_of_ble_eq_true rfl, Nat.le_of_ble_eq_true rfl⟩ dL_isKept_69 ⟨Nat.le_of_ble_eq_true rfl, Nat.le_of_ble_eq_true rfl⟩ rfl ?_
  refine ro_if_le (tgt := 113) (q := 75) hX dL_isKept_72 (by decide) rfl (fun q => absurd q (fun q => absurd ((ni_le0 (by omega)).mp q) (by omega))) (fun _ => ?_)
  refine ro_aload_n (i := 0) (q := 76) hX dL_isKept_75 rfl rfl rfl ?_
  refine ro_iload_n (i := 1) (q := 77) hX dL_isKept_76 rfl rfl rfl ?_
  refine ro_callVi (q9 := 80) hX (x_copies hp) mw_X2_copies kl_L_39 (by decide) (fun cy => cell2 (by decide +kernel)) rfl rfl rfl (Nat.le_of_ble_eq_true rfl) ⟨Nat.le_of_ble_eq_true rfl, Nat.le_of_ble_eq_true rfl⟩ dL_isKept_77 ⟨Nat.le_of_ble_eq_true rfl, Nat.le_of_ble_eq_true rfl⟩ rfl ?_
  refine ro_if_eq (tgt := 113) (q := 83) hX dL_isKept_80 (by decide) rfl (fun q => absurd q (hS.1)) (fun _ => ?_)
  refine ro_aload_n (i := 0) (q := 84) hX dL_isKept_83 rfl rfl rfl ?_
  refine ro_iload_n (i := 1) (q := 85) hX dL_isKept_84 rfl rfl rfl ?_
  refine ro_callVi (q9 := 88) hX (x_read hp hS.2.1) mw_X2_read kl_L_42 (by decide) (fun cy => cell2 (by decide +kernel)) rfl rfl rfl (Nat.le_of_ble_eq_true rfl) ⟨Nat.le_of_ble_eq_true rfl, Nat.le_of_ble_eq_true rfl⟩ dL_isKept_85 ⟨Nat.le_of_ble_eq_true rfl, Nat.le_of_ble_eq_true rfl⟩ rfl ?_
  refine ro_iload (i := 7) (q := 90) hX dL_isKept_88 rfl rfl ?_
  refine ro_icmp_ne (tgt := 113) (q := 93) hX dL_isKept_90 (by decide) rfl (fun q => absurd (hS.2.2) q) (fun _ => ?_)
  refine ro_aload_n (i := 0) (q := 94) hX dL_isKept_93 rfl rfl rfl ?_
  refine ro_callVi (q9 := 97) hX (hU) mw_X2_undo kl_L_105 (by decide) (fun cy => cell2 (by decide +kernel)) rfl rfl rfl (Nat.le_of_ble_eq_true rfl) ⟨Nat.le_of_ble_eq_true rfl, Nat.le_of_ble_eq_true rfl⟩ dL_isKept_94 ⟨Nat.le_of_ble_eq_true rfl, Nat.le_of_ble_eq_true rfl⟩ rfl ?_
  refine ro_if_lt (tgt := 113) (q := 100) hX dL_isKept_97 (by decide) rfl (fun q => absurd q (nI_pos (by omega))) (fun _ => ?_)
  refine ro_aload_n (i := 0) (q := 101) hX dL_isKept_100 rfl rfl rfl ?_
  refine ro_callSR (q9 := 104) hX (l_told (good_told hf)) mw_L_told kl_L_101 rfl rfl (Nat.le_of_ble_eq_true rfl) ⟨Nat.le_of_ble_eq_true rfl, Nat.le_of_ble_eq_true rfl⟩ dL_isKept_101 ⟨Nat.le_of_ble_eq_true rfl, Nat.le_of_ble_eq_true rfl⟩ rfl (fun v9 M9 hv9 => ?_)
  obtain ⟨rfl, rfl⟩ := hv9
  refine ro_lload_n (i := 3) (q := 105) hX dL_isKept_104 rfl rfl rfl ?_
  refine ro_lcmp (q := 106) hX dL_isKept_105 rfl ?_
  refine vv_top (y := (nI 0)) (lg_self _) ?_
  refine ro_if_ne (tgt := 113) (q := 109) hX dL_isKept_106 (by decide) rfl (fun q => absurd (by decide) q) (fun _ => ?_)
  refine ro_iconst (v := nI 1) (q := 110) hX dL_isKept_109 rfl rfl ?_
  refine ro_goto (tgt := 114) hX dL_isKept_110 (by decide) ?_
  refine ro_istore (i := 5) (q := 116) hX dL_isKept_114 (Nat.le_of_ble_eq_true rfl) rfl ?_
  refine ro_drop [7] hX rfl ?_
  refine ro_iinc (i := 6) (v := nI (h + 1)) (q := 119) hX dL_isKept_116 rfl (ni_inc _) (Nat.le_of_ble_eq_true rfl) rfl ?_
  refine ro_goto (tgt := 11) hX dL_isKept_119 (by decide) ?_
  exact kk
set_option maxRecDepth 20000 in
set_option maxHeartbeats 2000000 in
theorem ik_end {VV : VT} {Po : Pos} (hF : CtxR VV sz RL cL_isKept (some .boolean) (roomOf I_L_isKept 0 0) 8 Po) {p cr h : Nat} (hPo : Po (.int (nI 1)) (patch G 1 7 f, T)) : VV 0 0 122 [(0, .ref (sz + 0)), (1, .int (nI p)), (2, .int (nI cr)), (3, .long (toldV f)), (5, .int (nI 1)), (6, .int (nI h))] [] (patch G 1 7 f, T) := by
  have hX := hF.c
  refine ro_iload (i := 5) (q := 124) hX dL_isKept_122 rfl rfl ?_
  exact fin_zR hF dL_isKept_124 rfl hPo
/-- the pool as before, but for what nobody sees -/
def Back1 (f g : SV) : Pos := fun v M' => v = .int (nI 1) ∧ ∃ G' T' n', WorldS G' T' n' g ∧ M' = (patch G' 1 7 f, T')
theorem l_isKept (hf : GoodS f B M) {p cr : Nat} (hp : p < 10) (hcr : cr = 0 ∨ cr = 1) {n : Nat} (hW : WorldS G T n g) : DoesR sz I_L_isKept [.ref (sz + 0), .int (nI p), .int (nI cr)] (patch G 1 7 f, T) (Back1 f g) := by
  refine DoesR.of (L := [(0, .ref (sz + 0)), (1, .int (nI p)), (2, .int (nI cr))]) (by decide +kernel) (Nat.le_of_ble_eq_true rfl) rfl ⟨rfl, (by simp), ⟨rfl, (by simp), ⟨rfl, (by simp), trivial⟩⟩⟩ (fun VV hF => ?_)
  have hX := hF.c
  refine ik_pre hX hf ?_
  have key : ∀ G T n, WorldS G T n g → VV 0 0 11 [(0, .ref (sz + 0)), (1, .int (nI p)), (2, .int (nI cr)), (3, .long (toldV f)), (5, .int (nI 1)), (6, .int (nI 0))] [] (patch G 1 7 f, T) := by
    refine down_ind (P := fun k => ∀ G T n, WorldS G T n g → VV 0 0 11 [(0, .ref (sz + 0)), (1, .int (nI p)), (2, .int (nI cr)), (3, .long (toldV f)), (5, .int (nI 1)), (6, .int (nI k))] [] (patch G 1 7 f, T)) 6 (fun k hk ih => ?_) ?_
    · intro G T n hW
      refine ro_iload (i := 6) (q := 13) hX dL_isKept_11 rfl rfl ?_
      refine ro_bipush (v := nI 6) (q := 15) hX dL_isKept_13 rfl rfl ?_
      refine ro_icmp_ge (tgt := 122) (q := 18) hX dL_isKept_15 (by decide) rfl (fun q => absurd q (ni_nle (by omega) (by omega))) (fun _ => ?_)
      by_cases hs : stS f p = nI 2
      · cases ec : tb (cpS f p) (nI k) with
        | false => exact ik_no hX (by omega) hs (by rw [get_bi (by omega), ec]; rfl) (ih G T n hW)
        | true =>
          have e : (cpS f p >>> (nI k &&& 31)) &&& nI 1 = nI 1 := by rw [get_bi (by omega), ec]; rfl
          have hre := good_re hf (by omega) (cp_n0 (by omega) hk ec)
          have hm := hW.rm (f := f)
          have h1 := rmN_1 (n := n)
          obtain ⟨m, em⟩ : ∃ m, rmN n = m + 1 := ⟨rmN n - 1, by omega⟩
          have ht := TopS.rm (f := f) hW
          rw [em] at hm ht
          rcases hcr with rfl | rfl
          · obtain ⟨v, f', v0, v1, hS, hD⟩ := go_disc (g := g) hf (by omega) hs hk ec
            exact ik_go0 hX hf (by omega) hk hs e hre v0 v1 (by omega) hS (hD sz G T n hW) (x_undoT hm ht) (ih _ _ m hm.un)
          · obtain ⟨v, f', v0, v1, hS, hD⟩ := go_crash (g := g) hf (by omega) hs hk ec
            exact ik_go1 hX hf (by omega) hk hs e hre v0 v1 (by omega) hS (hD sz G T n hW) (x_undoT hm ht) (ih _ _ m hm.un)
      · exact ik_out hX (by omega) hs (ik_end hF ⟨rfl, G, T, n, hW, rfl⟩)
    · intro G T n hW
      refine ro_iload (i := 6) (q := 13) hX dL_isKept_11 rfl rfl ?_
      refine ro_bipush (v := nI 6) (q := 15) hX dL_isKept_13 rfl rfl ?_
      exact ro_icmp_ge (tgt := 122) (q := 18) hX dL_isKept_15 (by decide) rfl (fun _ => ik_end hF ⟨rfl, G, T, n, hW, rfl⟩) (fun q => absurd (ni_le (by omega) (by omega)) q)
  exact key G T n hW
end
