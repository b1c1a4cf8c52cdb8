section
variable {sz r : Nat} {G : Nat → Nat → Int32} {T : (Nat → Nat) × Int64} {f : SV}
set_option maxRecDepth 20000 in
set_option maxHeartbeats 2000000 in
theorem p_remember_l (hT : ∀ i, i < 6 → isV (T.1 i)) {m : Nat} (hm : m < 6) (hn : G 0 3 = nI m) : Does sz I_X2_remember [.ref (sz + 0)] (patch G 1 7 f, T) 0 0 (.inl none) (patch (rmG G f T m) 1 7 f, rmT T m) := by
  refine Does.of (L := [(0, .ref (sz + 0))]) (by decide +kernel) (Nat.le_of_ble_eq_true rfl) rfl ⟨rfl, (by simp), trivial⟩ (fun VV hF => ?_)
  have hX := hF.c
  have hV := isV_B (hT m hm)
  refine ro_aload_n (i := 0) (q := 1) hX dX2_remember_0 rfl rfl rfl ?_
  refine ro_Pgi (j := 3) (q9 := 4) (by decide) hX kf_X2_23 dX2_remember_1 rfl ?_
  refine vv_top (y := (nI m)) (hn) ?_
  refine ro_bipush (v := nI 6) (q := 6) hX dX2_remember_4 rfl rfl ?_
  refine ro_icmp_ne (tgt := 64) (q := 9) hX dX2_remember_6 (by decide) rfl (fun _ => ?_) (fun q => absurd q (by first | exact ni_nle (by omega) (by omega) | exact ni_lt (by omega) (by omega) | exact ni_nlt (by omega) (by omega) | exact ni_le (by omega) (by omega) | exact ni_ne (by omega) (by omega) (by omega)))
  refine ro_aload_n (i := 0) (q := 65) hX dX2_remember_64 rfl rfl rfl ?_
  refine ro_Pga0 (q9 := 68) hX kf_X2_12 dX2_remember_65 rfl ?_
  refine ro_aload_n (i := 0) (q := 69) hX dX2_remember_68 rfl rfl rfl ?_
  refine ro_Pga2 (q9 := 72) hX kf_X2_19 dX2_remember_69 rfl ?_
  refine ro_aload_n (i := 0) (q := 73) hX dX2_remember_72 rfl rfl rfl ?_
  refine ro_Pgi (j := 3) (q9 := 76) (by decide) hX kf_X2_23 dX2_remember_73 rfl ?_
  refine vv_top (y := (nI m)) (hn) ?_
  refine ro_aald (n := m) (q9 := 77) hX rfl (by omega) dX2_remember_76 rfl ?_
  refine ro_callSv (q9 := 80) hX (s_copy (by unfold isB; decide) hV.1 (by omega)) mw_X1_copy kl_X2_158 rfl rfl (Nat.le_of_ble_eq_true rfl) ⟨Nat.le_of_ble_eq_true rfl, Nat.le_of_ble_eq_true rfl⟩ dX2_remember_77 ⟨Nat.le_of_ble_eq_true rfl, Nat.le_of_ble_eq_true rfl⟩ rfl ?_
  refine vv_LM rfl (mV (by omega)) ?_
  refine ro_aload_n (i := 0) (q := 81) hX dX2_remember_80 rfl rfl rfl ?_
  refine ro_dup (q := 82) hX dX2_remember_81 rfl rfl ?_
  refine ro_Pgi (j := 3) (q9 := 85) (by decide) hX kf_X2_23 dX2_remember_82 rfl ?_
  refine vv_top (y := (nI m)) (by show patch G (T.1 m) 7 f 0 3 = nI m; rw [patch_out (Or.inl (by omega))]; exact hn) ?_
  refine ro_iconst (v := nI 1) (q := 86) hX dX2_remember_85 rfl rfl ?_
  refine ro_iadd (q := 87) hX dX2_remember_86 rfl ?_
  refine vv_top (y := nI (m + 1)) (nI_add' rfl rfl) ?_
  refine ro_Ppi (j := 3) (q9 := 90) (ty := .int) (by decide) hX rfl rfl rfl kf_X2_23 dX2_remember_87 rfl ?_
  exact fin_v hF (Nat.le_of_ble_eq_true rfl) (Nat.le_of_ble_eq_true rfl) dX2_remember_90 (by rw [pP_put (Or.inl (by decide))]; simp only [rmG, rmR, rmN, rmT, if_pos hm])
set_option maxRecDepth 20000 in
set_option maxHeartbeats 2000000 in
theorem p_remember_6 (hT : ∀ i, i < 6 → isV (T.1 i)) (hn : G 0 3 = nI 6) : Does sz I_X2_remember [.ref (sz + 0)] (patch G 1 7 f, T) 0 0 (.inl none) (patch (rmG G f T 6) 1 7 f, rmT T 6) := by
  refine Does.of (L := [(0, .ref (sz + 0))]) (by decide +kernel) (Nat.le_of_ble_eq_true rfl) rfl ⟨rfl, (by simp), trivial⟩ (fun VV hF => ?_)
  have hX := hF.c
  have hV := isV_B (hT 0 (by decide))
  refine ro_aload_n (i := 0) (q := 1) hX dX2_remember_0 rfl rfl rfl ?_
  refine ro_Pgi (j := 3) (q9 := 4) (by decide) hX kf_X2_23 dX2_remember_1 rfl ?_
  refine vv_top (y := (nI 6)) (hn) ?_
  refine ro_bipush (v := nI 6) (q := 6) hX dX2_remember_4 rfl rfl ?_
  refine ro_icmp_ne (tgt := 64) (q := 9) hX dX2_remember_6 (by decide) rfl (fun q => absurd (by decide) q) (fun _ => ?_)
  refine ro_aload_n (i := 0) (q := 10) hX dX2_remember_9 rfl rfl rfl ?_
  refine ro_Pga2 (q9 := 13) hX kf_X2_19 dX2_remember_10 rfl ?_
  refine ro_iconst (v := nI 0) (q := 14) hX dX2_remember_13 rfl rfl ?_
  refine ro_aald (n := 0) (q9 := 15) hX rfl (by omega) dX2_remember_14 rfl ?_
  refine ro_astore_n (i := 1) (q := 16) hX dX2_remember_15 rfl (Nat.le_of_ble_eq_true rfl) rfl ?_
  refine ro_iconst (v := nI 1) (q := 17) hX dX2_remember_16 rfl rfl ?_
  refine ro_istore_n (i := 2) (q := 18) hX dX2_remember_17 rfl (Nat.le_of_ble_eq_true rfl) rfl ?_
  refine vv_LM (L' := [(0, .ref (sz + 0)), (1, .ref (sz + T.1 0)), (2, .int (nI 1))]) (M' := (patch G 1 7 f, (rtL T.1 1, T.2))) (by rfl) (by rfl) ?_
  refine down_from (P := fun k18 => VV 0 0 18 [(0, .ref (sz + 0)), (1, .ref (sz + T.1 0)), (2, .int (nI k18))] [] (patch G 1 7 f, (rtL T.1 k18, T.2))) (1) (6) (by omega) (fun k18 hj18 hk18 ih18 => ?_) ?_
  · have ih18 : VV 0 0 18 [(0, .ref (sz + 0)), (1, .ref (sz + T.1 0)), (2, .int (nI (k18 + 1)))] [] (patch G 1 7 f, (rtL T.1 (k18 + 1), T.2)) := ih18
    show VV 0 0 18 [(0, .ref (sz + 0)), (1, .ref (sz + T.1 0)), (2, .int (nI k18))] [] (patch G 1 7 f, (rtL T.1 k18, T.2))
    refine ro_iload_n (i := 2) (q := 19) hX dX2_remember_18 rfl rfl rfl ?_
    refine ro_bipush (v := nI 6) (q := 21) hX dX2_remember_19 rfl rfl ?_
    refine ro_icmp_ge (tgt := 44) (q := 24) hX dX2_remember_21 (by decide) rfl (fun q => absurd q (by first | exact ni_nle (by omega) (by omega) | exact ni_lt (by omega) (by omega))) (fun _ => ?_)
    refine ro_aload_n (i := 0) (q := 25) hX dX2_remember_24 rfl rfl rfl ?_
    refine ro_Pga2 (q9 := 28) hX kf_X2_19 dX2_remember_25 rfl ?_
    refine ro_iload_n (i := 2) (q := 29) hX dX2_remember_28 rfl rfl rfl ?_
    refine ro_iconst (v := nI 1) (q := 30) hX dX2_remember_29 rfl rfl ?_
    refine ro_isub (q := 31) hX dX2_remember_30 rfl ?_
    refine vv_top (y := (nI (k18 - 1))) (ni_sub hj18) ?_
    refine ro_aload_n (i := 0) (q := 32) hX dX2_remember_31 rfl rfl rfl ?_
    refine ro_Pga2 (q9 := 35) hX kf_X2_19 dX2_remember_32 rfl ?_
    refine ro_iload_n (i := 2) (q := 36) hX dX2_remember_35 rfl rfl rfl ?_
    refine ro_aald (n := k18) (q9 := 37) hX rfl (by omega) dX2_remember_36 rfl ?_
    refine ro_aast (n := (k18 - 1)) (q9 := 38) hX rfl (by omega) (isV_B (rtL_V hT k18 (by omega) k18 hk18)).1 dX2_remember_37 rfl ?_
    refine ro_iinc (i := 2) (v := nI (k18 + 1)) (q := 41) hX dX2_remember_38 rfl (ni_inc _) (Nat.le_of_ble_eq_true rfl) rfl ?_
    refine ro_goto (tgt := 18) hX dX2_remember_41 (by decide) ?_
    exact vv_LM (by rfl) (by rw [rtL_s (by omega)]) ih18
  · show VV 0 0 18 [(0, .ref (sz + 0)), (1, .ref (sz + T.1 0)), (2, .int (nI 6))] [] (patch G 1 7 f, (rtL T.1 6, T.2))
    refine ro_iload_n (i := 2) (q := 19) hX dX2_remember_18 rfl rfl rfl ?_
    refine ro_bipush (v := nI 6) (q := 21) hX dX2_remember_19 rfl rfl ?_
    refine ro_icmp_ge (tgt := 44) (q := 24) hX dX2_remember_21 (by decide) rfl (fun _ => ?_) (fun q => absurd (by decide) q)
    refine ro_aload_n (i := 0) (q := 45) hX dX2_remember_44 rfl rfl rfl ?_
    refine ro_dup (q := 46) hX dX2_remember_45 rfl rfl ?_
    refine ro_Pgi (j := 3) (q9 := 49) (by decide) hX kf_X2_23 dX2_remember_46 rfl ?_
    refine vv_top (y := (nI 6)) (hn) ?_
    refine ro_iconst (v := nI 1) (q := 50) hX dX2_remember_49 rfl rfl ?_
    refine ro_isub (q := 51) hX dX2_remember_50 rfl ?_
    refine vv_top (y := (nI 5)) (ni_sub (by decide)) ?_
    refine ro_Ppi (j := 3) (q9 := 54) (ty := .int) (by decide) hX rfl rfl rfl kf_X2_23 dX2_remember_51 rfl ?_
    refine vv_LM rfl (mP (Or.inl (by decide))) ?_
    refine ro_aload_n (i := 0) (q := 55) hX dX2_remember_54 rfl rfl rfl ?_
    refine ro_Pga2 (q9 := 58) hX kf_X2_19 dX2_remember_55 rfl ?_
    refine ro_aload_n (i := 0) (q := 59) hX dX2_remember_58 rfl rfl rfl ?_
    refine ro_Pgi (j := 3) (q9 := 62) (by decide) hX kf_X2_23 dX2_remember_59 rfl ?_
    refine vv_top (y := (nI 5)) (rfl) ?_
    refine ro_aload_n (i := 1) (q := 63) hX dX2_remember_62 rfl rfl rfl ?_
    refine ro_aast (n := 5) (q9 := 64) hX rfl (by omega) hV.1 dX2_remember_63 rfl ?_
    refine ro_aload_n (i := 0) (q := 65) hX dX2_remember_64 rfl rfl rfl ?_
    refine ro_Pga0 (q9 := 68) hX kf_X2_12 dX2_remember_65 rfl ?_
    refine ro_aload_n (i := 0) (q := 69) hX dX2_remember_68 rfl rfl rfl ?_
    refine ro_Pga2 (q9 := 72) hX kf_X2_19 dX2_remember_69 rfl ?_
    refine ro_aload_n (i := 0) (q := 73) hX dX2_remember_72 rfl rfl rfl ?_
    refine ro_Pgi (j := 3) (q9 := 76) (by decide) hX kf_X2_23 dX2_remember_73 rfl ?_
    refine vv_top (y := (nI 5)) (rfl) ?_
    refine ro_aald (n := 5) (q9 := 77) hX rfl (by omega) dX2_remember_76 rfl ?_
    rw [show ((va_up (rtL T.1 6) 5 (T.1 0), T.2) : (Nat → Nat) × Int64).1 5 = T.1 0 by show va_up (rtL T.1 6) 5 (T.1 0) 5 = T.1 0; exact va_up_self _ _ _]
    refine ro_callSv (q9 := 80) hX (s_copy (by unfold isB; decide) hV.1 (by omega)) mw_X1_copy kl_X2_158 rfl rfl (Nat.le_of_ble_eq_true rfl) ⟨Nat.le_of_ble_eq_true rfl, Nat.le_of_ble_eq_true rfl⟩ dX2_remember_77 ⟨Nat.le_of_ble_eq_true rfl, Nat.le_of_ble_eq_true rfl⟩ rfl ?_
    refine vv_LM rfl (mV (by omega)) ?_
    refine ro_aload_n (i := 0) (q := 81) hX dX2_remember_80 rfl rfl rfl ?_
    refine ro_dup (q := 82) hX dX2_remember_81 rfl rfl ?_
    refine ro_Pgi (j := 3) (q9 := 85) (by decide) hX kf_X2_23 dX2_remember_82 rfl ?_
    refine vv_top (y := (nI 5)) (by show patch (put G 0 3 (nI 5)) (T.1 0) 7 f 0 3 = nI 5; rw [patch_out (Or.inl (by omega))]; rfl) ?_
    refine ro_iconst (v := nI 1) (q := 86) hX dX2_remember_85 rfl rfl ?_
    refine ro_iadd (q := 87) hX dX2_remember_86 rfl ?_
    refine vv_top (y := nI 6) (nI_add' rfl rfl) ?_
    refine ro_Ppi (j := 3) (q9 := 90) (ty := .int) (by decide) hX rfl rfl rfl kf_X2_23 dX2_remember_87 rfl ?_
    exact fin_v hF (Nat.le_of_ble_eq_true rfl) (Nat.le_of_ble_eq_true rfl) dX2_remember_90 (by rw [pP_put (Or.inl (by decide)), pPp (by omega)]; rfl)
theorem p_remember (hT : ∀ i, i < 6 → isV (T.1 i)) {m : Nat} (hm : m ≤ 6) (hn : G 0 3 = nI m) : Does sz I_X2_remember [.ref (sz + 0)] (patch G 1 7 f, T) 0 0 (.inl none) (patch (rmG G f T m) 1 7 f, rmT T m) := by
  by_cases h : m < 6
  · exact p_remember_l hT h hn
  · have e : m = 6 := by omega
    subst e
    exact p_remember_6 hT hn
end
