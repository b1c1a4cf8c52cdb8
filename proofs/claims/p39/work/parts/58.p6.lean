section
variable {sz r : Nat} {G : Nat → Nat → Int32} {T : (Nat → Nat) × Int64} {f : SV}
set_option maxRecDepth 20000 in
set_option maxHeartbeats 2000000 in
theorem x_restsIn_0 {K : Nat} (hK : K ≤ 600) (hr : ∀ k, k < K → restS (rsG f (f 0 8 + nI 600) k) = false ∧ (rsG f (f 0 8 + nI 600) k) 0 8 < (f 0 8 + nI 600)) (hd : ∀ k, k < K → rsD (rsG f (f 0 8 + nI 600) k) (f 0 8 + nI 600) = nI (cN (rsD (rsG f (f 0 8 + nI 600) k) (f 0 8 + nI 600))) ∧ cN (rsD (rsG f (f 0 8 + nI 600) k) (f 0 8 + nI 600)) ≤ 1000) (hs : restS (rsG f (f 0 8 + nI 600) K) = true) : Does sz I_X2_restsIn [.ref (sz + 0)] (patch G 1 7 f, T) 0 0 (.inl (some ((rsG f (f 0 8 + nI 600) K) 0 8 - f 0 8))) (patch (patch G 8 7 (rsG f (f 0 8 + nI 600) K)) 1 7 f, T) := by
  refine Does.of (L := [(0, .ref (sz + 0))]) (by decide +kernel) (Nat.le_of_ble_eq_true rfl) rfl ⟨rfl, (by simp), trivial⟩ (fun VV hF => ?_)
  have hX := hF.c
  refine ro_aload_n (i := 0) (q := 1) hX dX2_restsIn_0 rfl rfl rfl ?_
  refine ro_Pga0 (q9 := 4) hX kf_X2_12 dX2_restsIn_1 rfl ?_
  refine ro_aload_n (i := 0) (q := 5) hX dX2_restsIn_4 rfl rfl rfl ?_
  refine ro_Pga1 (q9 := 8) hX kf_X2_16 dX2_restsIn_5 rfl ?_
  refine ro_callSv (q9 := 11) hX (s_copy (by unfold isB; decide) (by unfold isB; decide) (by decide)) mw_X1_copy kl_X2_158 rfl rfl (Nat.le_of_ble_eq_true rfl) ⟨Nat.le_of_ble_eq_true rfl, Nat.le_of_ble_eq_true rfl⟩ dX2_restsIn_8 ⟨Nat.le_of_ble_eq_true rfl, Nat.le_of_ble_eq_true rfl⟩ rfl ?_
  refine vv_LM rfl (mVw (by decide)) ?_
  refine ro_aload_n (i := 0) (q := 12) hX dX2_restsIn_11 rfl rfl rfl ?_
  refine ro_Pga1 (q9 := 15) hX kf_X2_16 dX2_restsIn_12 rfl ?_
  refine ro_Sgi (j := 8) (q9 := 18) ⟨by decide, by decide⟩ hX (by unfold isB; decide) kf_X2_166 dX2_restsIn_15 rfl ?_
  refine ro_istore_n (i := 1) (q := 19) hX dX2_restsIn_18 rfl (Nat.le_of_ble_eq_true rfl) rfl ?_
  refine ro_iload_n (i := 1) (q := 20) hX dX2_restsIn_19 rfl rfl rfl ?_
  refine ro_sipush (v := nI 600) (q := 23) hX dX2_restsIn_20 rfl rfl ?_
  refine ro_iadd (q := 24) hX dX2_restsIn_23 rfl ?_
  refine ro_istore_n (i := 2) (q := 25) hX dX2_restsIn_24 rfl (Nat.le_of_ble_eq_true rfl) rfl ?_
  refine ro_iconst (v := nI 0) (q := 26) hX dX2_restsIn_25 rfl rfl ?_
  refine ro_istore_n (i := 3) (q := 27) hX dX2_restsIn_26 rfl (Nat.le_of_ble_eq_true rfl) rfl ?_
  refine vv_LM (L' := [(0, .ref (sz + 0)), (1, .int (f 0 8)), (2, .int (f 0 8 + nI 600)), (3, .int (nI 0))]) (M' := (patch (patch G 1 7 f) 8 7 (rsG f (f 0 8 + nI 600) 0), T)) (by rfl) (by rfl) ?_
  refine down_ind (P := fun k27 => VV 0 0 27 [(0, .ref (sz + 0)), (1, .int (f 0 8)), (2, .int (f 0 8 + nI 600)), (3, .int (nI k27))] [] (patch (patch G 1 7 f) 8 7 (rsG f (f 0 8 + nI 600) k27), T)) (K) (fun k27 hk27 ih27 => ?_) ?_
  · have ih27 : VV 0 0 27 [(0, .ref (sz + 0)), (1, .int (f 0 8)), (2, .int (f 0 8 + nI 600)), (3, .int (nI (k27 + 1)))] [] (patch (patch G 1 7 f) 8 7 (rsG f (f 0 8 + nI 600) (k27 + 1)), T) := ih27
    show VV 0 0 27 [(0, .ref (sz + 0)), (1, .int (f 0 8)), (2, .int (f 0 8 + nI 600)), (3, .int (nI k27))] [] (patch (patch G 1 7 f) 8 7 (rsG f (f 0 8 + nI 600) k27), T)
    refine ro_iload_n (i := 3) (q := 28) hX dX2_restsIn_27 rfl rfl rfl ?_
    refine ro_sipush (v := nI 600) (q := 31) hX dX2_restsIn_28 rfl rfl ?_
    refine ro_icmp_gt (tgt := 97) (q := 34) hX dX2_restsIn_31 (by decide) rfl (fun q => absurd q (ni_nlt (by omega) (by omega))) (fun _ => ?_)
    refine ro_aload_n (i := 0) (q := 35) hX dX2_restsIn_34 rfl rfl rfl ?_
    refine ro_Pga1 (q9 := 38) hX kf_X2_16 dX2_restsIn_35 rfl ?_
    refine ro_callVi (q9 := 41) hX (s_isAtRest (by unfold isB; decide)) mw_X1_isAtRest kl_X2_221 (isB_lt (by unfold isB; decide)) (fun cy => cell1 (isB_kd (by unfold isB; decide)).2.2.1) rfl rfl rfl (Nat.le_of_ble_eq_true rfl) ⟨Nat.le_of_ble_eq_true rfl, Nat.le_of_ble_eq_true rfl⟩ dX2_restsIn_38 ⟨Nat.le_of_ble_eq_true rfl, Nat.le_of_ble_eq_true rfl⟩ rfl ?_
    refine ro_ifb_eq (tgt := 54) (q := 44) hX dX2_restsIn_41 (by decide) rfl (fun _ => ?_) (fun q => absurd q (by rw [(hr k27 hk27).1]; decide))
    refine ro_aload_n (i := 0) (q := 55) hX dX2_restsIn_54 rfl rfl rfl ?_
    refine ro_Pga1 (q9 := 58) hX kf_X2_16 dX2_restsIn_55 rfl ?_
    refine ro_Sgi (j := 8) (q9 := 61) ⟨by decide, by decide⟩ hX (by unfold isB; decide) kf_X2_166 dX2_restsIn_58 rfl ?_
    refine ro_iload_n (i := 2) (q := 62) hX dX2_restsIn_61 rfl rfl rfl ?_
    refine ro_icmp_lt (tgt := 67) (q := 65) hX dX2_restsIn_62 (by decide) rfl (fun _ => ?_) (fun q => absurd ((hr k27 hk27).2) q)
    refine ro_aload_n (i := 0) (q := 68) hX dX2_restsIn_67 rfl rfl rfl ?_
    refine ro_Pga1 (q9 := 71) hX kf_X2_16 dX2_restsIn_68 rfl ?_
    refine ro_aload_n (i := 0) (q := 72) hX dX2_restsIn_71 rfl rfl rfl ?_
    refine ro_Pga1 (q9 := 75) hX kf_X2_16 dX2_restsIn_72 rfl ?_
    refine ro_iload_n (i := 2) (q := 76) hX dX2_restsIn_75 rfl rfl rfl ?_
    refine ro_callVi (q9 := 79) hX (s_nextEvent (by unfold isB; decide)) mw_X1_nextEvent kl_X2_224 (isB_lt (by unfold isB; decide)) (fun cy => cell1 (isB_kd (by unfold isB; decide)).2.2.1) rfl rfl rfl (Nat.le_of_ble_eq_true rfl) ⟨Nat.le_of_ble_eq_true rfl, Nat.le_of_ble_eq_true rfl⟩ dX2_restsIn_76 ⟨Nat.le_of_ble_eq_true rfl, Nat.le_of_ble_eq_true rfl⟩ rfl ?_
    refine ro_aload_n (i := 0) (q := 80) hX dX2_restsIn_79 rfl rfl rfl ?_
    refine ro_Pga1 (q9 := 83) hX kf_X2_16 dX2_restsIn_80 rfl ?_
    refine ro_Sgi (j := 8) (q9 := 86) ⟨by decide, by decide⟩ hX (by unfold isB; decide) kf_X2_166 dX2_restsIn_83 rfl ?_
    refine ro_isub (q := 87) hX dX2_restsIn_86 rfl ?_
    refine vv_top (y := (nI (cN (rsD (rsG f (f 0 8 + nI 600) k27) (f 0 8 + nI 600))))) ((hd k27 hk27).1) ?_
    refine ro_callVi (q9 := 90) hX (s_advance (by unfold isB; decide) (hd k27 hk27).2) mw_X1_advance kl_X2_123 (isB_lt (by unfold isB; decide)) (fun cy => cell1 (isB_kd (by unfold isB; decide)).2.2.1) rfl rfl rfl (Nat.le_of_ble_eq_true rfl) ⟨Nat.le_of_ble_eq_true rfl, Nat.le_of_ble_eq_true rfl⟩ dX2_restsIn_87 ⟨Nat.le_of_ble_eq_true rfl, Nat.le_of_ble_eq_true rfl⟩ rfl ?_
    refine ro_pop (q := 91) hX dX2_restsIn_90 rfl rfl ?_
    refine ro_iinc (i := 3) (v := nI (k27 + 1)) (q := 94) hX dX2_restsIn_91 rfl (ni_inc _) (Nat.le_of_ble_eq_true rfl) rfl ?_
    refine ro_goto (tgt := 27) hX dX2_restsIn_94 (by decide) ?_
    exact vv_LM (by rfl) (by rfl) ih27
  · show VV 0 0 27 [(0, .ref (sz + 0)), (1, .int (f 0 8)), (2, .int (f 0 8 + nI 600)), (3, .int (nI K))] [] (patch (patch G 1 7 f) 8 7 (rsG f (f 0 8 + nI 600) K), T)
    refine ro_iload_n (i := 3) (q := 28) hX dX2_restsIn_27 rfl rfl rfl ?_
    refine ro_sipush (v := nI 600) (q := 31) hX dX2_restsIn_28 rfl rfl ?_
    refine ro_icmp_gt (tgt := 97) (q := 34) hX dX2_restsIn_31 (by decide) rfl (fun q => absurd q (ni_nlt (by omega) (by omega))) (fun _ => ?_)
    refine ro_aload_n (i := 0) (q := 35) hX dX2_restsIn_34 rfl rfl rfl ?_
    refine ro_Pga1 (q9 := 38) hX kf_X2_16 dX2_restsIn_35 rfl ?_
    refine ro_callVi (q9 := 41) hX (s_isAtRest (by unfold isB; decide)) mw_X1_isAtRest kl_X2_221 (isB_lt (by unfold isB; decide)) (fun cy => cell1 (isB_kd (by unfold isB; decide)).2.2.1) rfl rfl rfl (Nat.le_of_ble_eq_true rfl) ⟨Nat.le_of_ble_eq_true rfl, Nat.le_of_ble_eq_true rfl⟩ dX2_restsIn_38 ⟨Nat.le_of_ble_eq_true rfl, Nat.le_of_ble_eq_true rfl⟩ rfl ?_
    refine ro_ifb_eq (tgt := 54) (q := 44) hX dX2_restsIn_41 (by decide) rfl (fun q => absurd q (by rw [hs]; decide)) (fun _ => ?_)
    refine ro_aload_n (i := 0) (q := 45) hX dX2_restsIn_44 rfl rfl rfl ?_
    refine ro_Pga1 (q9 := 48) hX kf_X2_16 dX2_restsIn_45 rfl ?_
    refine ro_Sgi (j := 8) (q9 := 51) ⟨by decide, by decide⟩ hX (by unfold isB; decide) kf_X2_166 dX2_restsIn_48 rfl ?_
    refine ro_iload_n (i := 1) (q := 52) hX dX2_restsIn_51 rfl rfl rfl ?_
    refine ro_isub (q := 53) hX dX2_restsIn_52 rfl ?_
    exact fin_i hF (Nat.le_of_ble_eq_true rfl) (Nat.le_of_ble_eq_true rfl) dX2_restsIn_53 (by rfl) (by exact mSx (by decide))
set_option maxRecDepth 20000 in
set_option maxHeartbeats 2000000 in
theorem x_restsIn_1 {K : Nat} (hK : K ≤ 600) (hr : ∀ k, k < K → restS (rsG f (f 0 8 + nI 600) k) = false ∧ (rsG f (f 0 8 + nI 600) k) 0 8 < (f 0 8 + nI 600)) (hd : ∀ k, k < K → rsD (rsG f (f 0 8 + nI 600) k) (f 0 8 + nI 600) = nI (cN (rsD (rsG f (f 0 8 + nI 600) k) (f 0 8 + nI 600))) ∧ cN (rsD (rsG f (f 0 8 + nI 600) k) (f 0 8 + nI 600)) ≤ 1000) (hs : restS (rsG f (f 0 8 + nI 600) K) = false) (he : ¬ (rsG f (f 0 8 + nI 600) K) 0 8 < (f 0 8 + nI 600)) : Does sz I_X2_restsIn [.ref (sz + 0)] (patch G 1 7 f, T) 0 0 (.inl (some (-1))) (patch (patch G 8 7 (rsG f (f 0 8 + nI 600) K)) 1 7 f, T) := by
  refine Does.of (L := [(0, .ref (sz + 0))]) (by decide +kernel) (Nat.le_of_ble_eq_true rfl) rfl ⟨rfl, (by simp), trivial⟩ (fun VV hF => ?_)
  have hX := hF.c
  refine ro_aload_n (i := 0) (q := 1) hX dX2_restsIn_0 rfl rfl rfl ?_
  refine ro_Pga0 (q9 := 4) hX kf_X2_12 dX2_restsIn_1 rfl ?_
  refine ro_aload_n (i := 0) (q := 5) hX dX2_restsIn_4 rfl rfl rfl ?_
  refine ro_Pga1 (q9 := 8) hX kf_X2_16 dX2_restsIn_5 rfl ?_
  refine ro_callSv (q9 := 11) hX (s_copy (by unfold isB; decide) (by unfold isB; decide) (by decide)) mw_X1_copy kl_X2_158 rfl rfl (Nat.le_of_ble_eq_true rfl) ⟨Nat.le_of_ble_eq_true rfl, Nat.le_of_ble_eq_true rfl⟩ dX2_restsIn_8 ⟨Nat.le_of_ble_eq_true rfl, Nat.le_of_ble_eq_true rfl⟩ rfl ?_
  refine vv_LM rfl (mVw (by decide)) ?_
  refine ro_aload_n (i := 0) (q := 12) hX dX2_restsIn_11 rfl rfl rfl ?_
  refine ro_Pga1 (q9 := 15) hX kf_X2_16 dX2_restsIn_12 rfl ?_
  refine ro_Sgi (j := 8) (q9 := 18) ⟨by decide, by decide⟩ hX (by unfold isB; decide) kf_X2_166 dX2_restsIn_15 rfl ?_
  refine ro_istore_n (i := 1) (q := 19) hX dX2_restsIn_18 rfl (Nat.le_of_ble_eq_true rfl) rfl ?_
  refine ro_iload_n (i := 1) (q := 20) hX dX2_restsIn_19 rfl rfl rfl ?_
  refine ro_sipush (v := nI 600) (q := 23) hX dX2_restsIn_20 rfl rfl ?_
  refine ro_iadd (q := 24) hX dX2_restsIn_23 rfl ?_
  refine ro_istore_n (i := 2) (q := 25) hX dX2_restsIn_24 rfl (Nat.le_of_ble_eq_true rfl) rfl ?_
  refine ro_iconst (v := nI 0) (q := 26) hX dX2_restsIn_25 rfl rfl ?_
  refine ro_istore_n (i := 3) (q := 27) hX dX2_restsIn_26 rfl (Nat.le_of_ble_eq_true rfl) rfl ?_
  refine vv_LM (L' := [(0, .ref (sz + 0)), (1, .int (f 0 8)), (2, .int (f 0 8 + nI 600)), (3, .int (nI 0))]) (M' := (patch (patch G 1 7 f) 8 7 (rsG f (f 0 8 + nI 600) 0), T)) (by rfl) (by rfl) ?_
  refine down_ind (P := fun k27 => VV 0 0 27 [(0, .ref (sz + 0)), (1, .int (f 0 8)), (2, .int (f 0 8 + nI 600)), (3, .int (nI k27))] [] (patch (patch G 1 7 f) 8 7 (rsG f (f 0 8 + nI 600) k27), T)) (K) (fun k27 hk27 ih27 => ?_) ?_
  · have ih27 : VV 0 0 27 [(0, .ref (sz + 0)), (1, .int (f 0 8)), (2, .int (f 0 8 + nI 600)), (3, .int (nI (k27 + 1)))] [] (patch (patch G 1 7 f) 8 7 (rsG f (f 0 8 + nI 600) (k27 + 1)), T) := ih27
    show VV 0 0 27 [(0, .ref (sz + 0)), (1, .int (f 0 8)), (2, .int (f 0 8 + nI 600)), (3, .int (nI k27))] [] (patch (patch G 1 7 f) 8 7 (rsG f (f 0 8 + nI 600) k27), T)
    refine ro_iload_n (i := 3) (q := 28) hX dX2_restsIn_27 rfl rfl rfl ?_
    refine ro_sipush (v := nI 600) (q := 31) hX dX2_restsIn_28 rfl rfl ?_
    refine ro_icmp_gt (tgt := 97) (q := 34) hX dX2_restsIn_31 (by decide) rfl (fun q => absurd q (ni_nlt (by omega) (by omega))) (fun _ => ?_)
    refine ro_aload_n (i := 0) (q := 35) hX dX2_restsIn_34 rfl rfl rfl ?_
    refine ro_Pga1 (q9 := 38) hX kf_X2_16 dX2_restsIn_35 rfl ?_
    refine ro_callVi (q9 := 41) hX (s_isAtRest (by unfold isB; decide)) mw_X1_isAtRest kl_X2_221 (isB_lt (by unfold isB; decide)) (fun cy => cell1 (isB_kd (by unfold isB; decide)).2.2.1) rfl rfl rfl (Nat.le_of_ble_eq_true rfl) ⟨Nat.le_of_ble_eq_true rfl, Nat.le_of_ble_eq_true rfl⟩ dX2_restsIn_38 ⟨Nat.le_of_ble_eq_true rfl, Nat.le_of_ble_eq_true rfl⟩ rfl ?_
    refine ro_ifb_eq (tgt := 54) (q := 44) hX dX2_restsIn_41 (by decide) rfl (fun _ => ?_) (fun q => absurd q (by rw [(hr k27 hk27).1]; decide))
    refine ro_aload_n (i := 0) (q := 55) hX dX2_restsIn_54 rfl rfl rfl ?_
    refine ro_Pga1 (q9 := 58) hX kf_X2_16 dX2_restsIn_55 rfl ?_
    refine ro_Sgi (j := 8) (q9 := 61) ⟨by decide, by decide⟩ hX (by unfold isB; decide) kf_X2_166 dX2_restsIn_58 rfl ?_
    refine ro_iload_n (i := 2) (q := 62) hX dX2_restsIn_61 rfl rfl rfl ?_
    refine ro_icmp_lt (tgt := 67) (q := 65) hX dX2_restsIn_62 (by decide) rfl (fun _ => ?_) (fun q => absurd ((hr k27 hk27).2) q)
    refine ro_aload_n (i := 0) (q := 68) hX dX2_restsIn_67 rfl rfl rfl ?_
    refine ro_Pga1 (q9 := 71) hX kf_X2_16 dX2_restsIn_68 rfl ?_
    refine ro_aload_n (i := 0) (q := 72) hX dX2_restsIn_71 rfl rfl rfl ?_
    refine ro_Pga1 (q9 := 75) hX kf_X2_16 dX2_restsIn_72 rfl ?_
    refine ro_iload_n (i := 2) (q := 76) hX dX2_restsIn_75 rfl rfl rfl ?_
    refine ro_callVi (q9 := 79) hX (s_nextEvent (by unfold isB; decide)) mw_X1_nextEvent kl_X2_224 (isB_lt (by unfold isB; decide)) (fun cy => cell1 (isB_kd (by unfold isB; decide)).2.2.1) rfl rfl rfl (Nat.le_of_ble_eq_true rfl) ⟨Nat.le_of_ble_eq_true rfl, Nat.le_of_ble_eq_true rfl⟩ dX2_restsIn_76 ⟨Nat.le_of_ble_eq_true rfl, Nat.le_of_ble_eq_true rfl⟩ rfl ?_
    refine ro_aload_n (i := 0) (q := 80) hX dX2_restsIn_79 rfl rfl rfl ?_
    refine ro_Pga1 (q9 := 83) hX kf_X2_16 dX2_restsIn_80 rfl ?_
    refine ro_Sgi (j := 8) (q9 := 86) ⟨by decide, by decide⟩ hX (by unfold isB; decide) kf_X2_166 dX2_restsIn_83 rfl ?_
    refine ro_isub (q := 87) hX dX2_restsIn_86 rfl ?_
    refine vv_top (y := (nI (cN (rsD (rsG f (f 0 8 + nI 600) k27) (f 0 8 + nI 600))))) ((hd k27 hk27).1) ?_
    refine ro_callVi (q9 := 90) hX (s_advance (by unfold isB; decide) (hd k27 hk27).2) mw_X1_advance kl_X2_123 (isB_lt (by unfold isB; decide)) (fun cy => cell1 (isB_kd (by unfold isB; decide)).2.2.1) rfl rfl rfl (Nat.le_of_ble_eq_true rfl) ⟨Nat.le_of_ble_eq_true rfl, Nat.le_of_ble_eq_true rfl⟩ dX2_restsIn_87 ⟨Nat.le_of_ble_eq_true rfl, Nat.le_of_ble_eq_true rfl⟩ rfl ?_
    refine ro_pop (q := 91) hX dX2_restsIn_90 rfl rfl ?_
    refine ro_iinc (i := 3) (v := nI (k27 + 1)) (q := 94) hX dX2_restsIn_91 rfl (ni_inc _) (Nat.le_of_ble_eq_true rfl) rfl ?_
    refine ro_goto (tgt := 27) hX dX2_restsIn_94 (by decide) ?_
    exact vv_LM (by rfl) (by rfl) ih27
  · show VV 0 0 27 [(0, .ref (sz + 0)), (1, .int (f 0 8)), (2, .int (f 0 8 + nI 600)), (3, .int (nI K))] [] (patch (patch G 1 7 f) 8 7 (rsG f (f 0 8 + nI 600) K), T)
    refine ro_iload_n (i := 3) (q := 28) hX dX2_restsIn_27 rfl rfl rfl ?_
    refine ro_sipush (v := nI 600) (q := 31) hX dX2_restsIn_28 rfl rfl ?_
    refine ro_icmp_gt (tgt := 97) (q := 34) hX dX2_restsIn_31 (by decide) rfl (fun q => absurd q (ni_nlt (by omega) (by omega))) (fun _ => ?_)
    refine ro_aload_n (i := 0) (q := 35) hX dX2_restsIn_34 rfl rfl rfl ?_
    refine ro_Pga1 (q9 := 38) hX kf_X2_16 dX2_restsIn_35 rfl ?_
    refine ro_callVi (q9 := 41) hX (s_isAtRest (by unfold isB; decide)) mw_X1_isAtRest kl_X2_221 (isB_lt (by unfold isB; decide)) (fun cy => cell1 (isB_kd (by unfold isB; decide)).2.2.1) rfl rfl rfl (Nat.le_of_ble_eq_true rfl) ⟨Nat.le_of_ble_eq_true rfl, Nat.le_of_ble_eq_true rfl⟩ dX2_restsIn_38 ⟨Nat.le_of_ble_eq_true rfl, Nat.le_of_ble_eq_true rfl⟩ rfl ?_
    refine ro_ifb_eq (tgt := 54) (q := 44) hX dX2_restsIn_41 (by decide) rfl (fun _ => ?_) (fun q => absurd q (by rw [hs]; decide))
    refine ro_aload_n (i := 0) (q := 55) hX dX2_restsIn_54 rfl rfl rfl ?_
    refine ro_Pga1 (q9 := 58) hX kf_X2_16 dX2_restsIn_55 rfl ?_
    refine ro_Sgi (j := 8) (q9 := 61) ⟨by decide, by decide⟩ hX (by unfold isB; decide) kf_X2_166 dX2_restsIn_58 rfl ?_
    refine ro_iload_n (i := 2) (q := 62) hX dX2_restsIn_61 rfl rfl rfl ?_
    refine ro_icmp_lt (tgt := 67) (q := 65) hX dX2_restsIn_62 (by decide) rfl (fun q => absurd q (he)) (fun _ => ?_)
    refine ro_iconst (v := (-1)) (q := 66) hX dX2_restsIn_65 rfl rfl ?_
    exact fin_i hF (Nat.le_of_ble_eq_true rfl) (Nat.le_of_ble_eq_true rfl) dX2_restsIn_66 (by rfl) (by exact mSx (by decide))
end
