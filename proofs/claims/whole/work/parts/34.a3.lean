section
variable {sz r : Nat} {G : Nat → Nat → Int32} {T : (Nat → Nat) × Int64} {F : SV} {s : NV}
set_option maxRecDepth 20000 in
set_option maxHeartbeats 2000000 in
theorem m_canStore {p : Nat} (hp : p < 30) : Does sz I_X3_canStore [.ref (sz + 75), .int (nI p)] (patch G 75 4 (mS F s), T) 0 0 (.inl (some (bi (csM s p)))) (patch G 75 4 (mS F s), T) := by
  refine Does.of (L := [(0, .ref (sz + 75)), (1, .int (nI p))]) (by decide +kernel) (Nat.le_of_ble_eq_true rfl) rfl ⟨rfl, (by simp), ⟨rfl, (by simp), trivial⟩⟩ (fun VV hF => ?_)
  have hX := hF.c
  refine ro_aload_n (i := 0) (q := 1) hX dX3_canStore_0 rfl rfl rfl ?_
  refine ro_iconst (v := nI 0) (q := 2) hX dX3_canStore_1 rfl rfl ?_
  refine ro_iload_n (i := 1) (q := 3) hX dX3_canStore_2 rfl rfl rfl ?_
  refine ro_callVi (q9 := 6) hX (m_isThere (by omega) (by omega)) mw_X3_isThere kl_X3_28 (by decide) (fun cy => cell3 (by decide +kernel)) rfl rfl rfl (Nat.le_of_ble_eq_true rfl) ⟨Nat.le_of_ble_eq_true rfl, Nat.le_of_ble_eq_true rfl⟩ dX3_canStore_3 ⟨Nat.le_of_ble_eq_true rfl, Nat.le_of_ble_eq_true rfl⟩ rfl ?_
  refine ro_ifb_ne (tgt := 23) (q := 9) hX dX3_canStore_6 (by decide) rfl (fun q1 => ?_) (fun q1 => ?_)
  · skip
    refine ro_iconst (v := nI 0) (q := 24) hX dX3_canStore_23 rfl rfl ?_
    exact fin_z hF (Nat.le_of_ble_eq_true rfl) (Nat.le_of_ble_eq_true rfl) dX3_canStore_24 rfl (by first | with_reducible rfl | (simp [csM, bi, setL_s, setL_t, setL_0, dropL_0, dropL_c, *]; done) | (simp only [csM, bi, setL_s, setL_t, setL_0, dropL_0, dropL_c]; (repeat' split) <;> first | with_reducible rfl | contradiction | (exfalso; omega) | (simp_all; done)) | rfl) (by first | with_reducible rfl | (simp [csM, bi, setL_s, setL_t, setL_0, dropL_0, dropL_c, *]; done) | (simp only [csM, bi, setL_s, setL_t, setL_0, dropL_0, dropL_c]; (repeat' split) <;> first | with_reducible rfl | contradiction | (exfalso; omega) | (simp_all; done)) | rfl)
  · skip
    refine ro_aload_n (i := 0) (q := 10) hX dX3_canStore_9 rfl rfl rfl ?_
    refine ro_iconst (v := nI 0) (q := 11) hX dX3_canStore_10 rfl rfl ?_
    refine ro_iload_n (i := 1) (q := 12) hX dX3_canStore_11 rfl rfl rfl ?_
    refine ro_callVi (q9 := 15) hX (m_bestHost (by omega) (by omega)) mw_X3_bestHost kl_X3_66 (by decide) (fun cy => cell3 (by decide +kernel)) rfl rfl rfl (Nat.le_of_ble_eq_true rfl) ⟨Nat.le_of_ble_eq_true rfl, Nat.le_of_ble_eq_true rfl⟩ dX3_canStore_12 ⟨Nat.le_of_ble_eq_true rfl, Nat.le_of_ble_eq_true rfl⟩ rfl ?_
    refine ro_iconst (v := (-1)) (q := 16) hX dX3_canStore_15 rfl rfl ?_
    refine ro_icmp_eq (tgt := 23) (q := 19) hX dX3_canStore_16 (by decide) rfl (fun q2 => ?_) (fun q2 => ?_)
    · rw [oNm] at q2
      refine ro_iconst (v := nI 0) (q := 24) hX dX3_canStore_23 rfl rfl ?_
      exact fin_z hF (Nat.le_of_ble_eq_true rfl) (Nat.le_of_ble_eq_true rfl) dX3_canStore_24 rfl (by first | with_reducible rfl | (simp [csM, bi, setL_s, setL_t, setL_0, dropL_0, dropL_c, *]; done) | (simp only [csM, bi, setL_s, setL_t, setL_0, dropL_0, dropL_c]; (repeat' split) <;> first | with_reducible rfl | contradiction | (exfalso; omega) | (simp_all; done)) | rfl) (by first | with_reducible rfl | (simp [csM, bi, setL_s, setL_t, setL_0, dropL_0, dropL_c, *]; done) | (simp only [csM, bi, setL_s, setL_t, setL_0, dropL_0, dropL_c]; (repeat' split) <;> first | with_reducible rfl | contradiction | (exfalso; omega) | (simp_all; done)) | rfl)
    · rw [oNm] at q2
      refine ro_iconst (v := nI 1) (q := 20) hX dX3_canStore_19 rfl rfl ?_
      refine ro_goto (tgt := 24) hX dX3_canStore_20 (by decide) ?_
      exact fin_z hF (Nat.le_of_ble_eq_true rfl) (Nat.le_of_ble_eq_true rfl) dX3_canStore_24 rfl (by first | with_reducible rfl | (simp [csM, bi, setL_s, setL_t, setL_0, dropL_0, dropL_c, *]; done) | (simp only [csM, bi, setL_s, setL_t, setL_0, dropL_0, dropL_c]; (repeat' split) <;> first | with_reducible rfl | contradiction | (exfalso; omega) | (simp_all; done)) | rfl) (by first | with_reducible rfl | (simp [csM, bi, setL_s, setL_t, setL_0, dropL_0, dropL_c, *]; done) | (simp only [csM, bi, setL_s, setL_t, setL_0, dropL_0, dropL_c]; (repeat' split) <;> first | with_reducible rfl | contradiction | (exfalso; omega) | (simp_all; done)) | rfl)
set_option maxRecDepth 20000 in
set_option maxHeartbeats 2000000 in
theorem m_stores {p : Nat} (hp : p < 30) {v : Int32} : Does sz I_X3_stores [.ref (sz + 75), .int (nI p), .int v] (patch G 75 4 (mS F s), T) 0 0 (.inl (some (onM (cpM (st2 s p v) 0 p)))) (patch G 75 4 (mS F (seM (st2 s p v) 0)), T) := by
  refine Does.of (L := [(0, .ref (sz + 75)), (1, .int (nI p)), (2, .int v)]) (by decide +kernel) (Nat.le_of_ble_eq_true rfl) rfl ⟨rfl, (by simp), ⟨rfl, (by simp), ⟨rfl, (by simp), trivial⟩⟩⟩ (fun VV hF => ?_)
  have hX := hF.c
  refine ro_aload_n (i := 0) (q := 1) hX dX3_stores_0 rfl rfl rfl ?_
  refine ro_Nga1 (q9 := 4) hX kf_X3_7 dX3_stores_1 rfl ?_
  refine ro_iconst (v := nI 1) (q := 5) hX dX3_stores_4 rfl rfl ?_
  refine ro_dup2 (q := 6) hX dX3_stores_5 rfl rfl rfl ?_
  refine ro_Nsld (n := 1) (q9 := 7) hX rfl (by omega) dX3_stores_6 rfl ?_
  refine ro_iconst (v := nI 1) (q := 8) hX dX3_stores_7 rfl rfl ?_
  refine ro_iadd (q := 9) hX dX3_stores_8 rfl ?_
  refine ro_Nsst (n := 1) (q9 := 10) hX rfl (by omega) dX3_stores_9 rfl ?_
  refine ro_aload_n (i := 0) (q := 11) hX dX3_stores_10 rfl rfl rfl ?_
  refine ro_Nga1 (q9 := 14) hX kf_X3_7 dX3_stores_11 rfl ?_
  refine ro_bipush (v := nI 32) (q := 16) hX dX3_stores_14 rfl rfl ?_
  refine ro_iload_n (i := 1) (q := 17) hX dX3_stores_16 rfl rfl rfl ?_
  refine ro_iadd (q := 18) hX dX3_stores_17 rfl ?_
  refine vv_top (y := nI (32 + p)) (nI_add' rfl rfl) ?_
  refine ro_aload_n (i := 0) (q := 19) hX dX3_stores_18 rfl rfl rfl ?_
  refine ro_Nga1 (q9 := 22) hX kf_X3_7 dX3_stores_19 rfl ?_
  refine ro_iconst (v := nI 1) (q := 23) hX dX3_stores_22 rfl rfl ?_
  refine ro_Nsld (n := 1) (q9 := 24) hX rfl (by omega) dX3_stores_23 rfl ?_
  refine ro_Nsst (n := 32 + p) (q9 := 25) hX rfl (by omega) dX3_stores_24 rfl ?_
  refine ro_aload_n (i := 0) (q := 26) hX dX3_stores_25 rfl rfl rfl ?_
  refine ro_Nga1 (q9 := 29) hX kf_X3_7 dX3_stores_26 rfl ?_
  refine ro_bipush (v := nI 62) (q := 31) hX dX3_stores_29 rfl rfl ?_
  refine ro_iload_n (i := 1) (q := 32) hX dX3_stores_31 rfl rfl rfl ?_
  refine ro_iadd (q := 33) hX dX3_stores_32 rfl ?_
  refine vv_top (y := nI (62 + p)) (nI_add' rfl rfl) ?_
  refine ro_iload_n (i := 2) (q := 34) hX dX3_stores_33 rfl rfl rfl ?_
  refine ro_Nsst (n := 62 + p) (q9 := 35) hX rfl (by omega) dX3_stores_34 rfl ?_
  refine ro_iconst (v := nI 0) (q := 36) hX dX3_stores_35 rfl rfl ?_
  refine ro_istore_n (i := 3) (q := 37) hX dX3_stores_36 rfl (Nat.le_of_ble_eq_true rfl) rfl ?_
  refine vv_LM (L' := [(0, .ref (sz + 75)), (1, .int (nI p)), (2, .int (v)), (3, .int (nI 0))]) (M' := (patch G 75 4 (mS F (plK (st1 s p v) p 0)), T)) (by rfl) (by rfl) ?_
  refine down_ind (P := fun k37 => VV 0 0 37 [(0, .ref (sz + 75)), (1, .int (nI p)), (2, .int (v)), (3, .int (nI k37))] [] (patch G 75 4 (mS F (plK (st1 s p v) p k37)), T)) (2) (fun k37 hk37 ih37 => ?_) ?_
  · have ih37 : VV 0 0 37 [(0, .ref (sz + 75)), (1, .int (nI p)), (2, .int (v)), (3, .int (nI (k37 + 1)))] [] (patch G 75 4 (mS F (plK (st1 s p v) p (k37 + 1))), T) := ih37
    show VV 0 0 37 [(0, .ref (sz + 75)), (1, .int (nI p)), (2, .int (v)), (3, .int (nI k37))] [] (patch G 75 4 (mS F (plK (st1 s p v) p k37)), T)
    refine ro_iload_n (i := 3) (q := 38) hX dX3_stores_37 rfl rfl rfl ?_
    refine ro_iconst (v := nI 2) (q := 39) hX dX3_stores_38 rfl rfl ?_
    refine ro_icmp_ge (tgt := 76) (q := 42) hX dX3_stores_39 (by decide) rfl (fun q => absurd q (by first | exact ni_nle (by omega) (by omega) | exact ni_lt (by omega) (by omega))) (fun _ => ?_)
    refine ro_aload_n (i := 0) (q := 43) hX dX3_stores_42 rfl rfl rfl ?_
    refine ro_iconst (v := nI 0) (q := 44) hX dX3_stores_43 rfl rfl ?_
    refine ro_iload_n (i := 1) (q := 45) hX dX3_stores_44 rfl rfl rfl ?_
    refine ro_callVi (q9 := 48) hX (m_bestHost (by omega) (by omega)) mw_X3_bestHost kl_X3_66 (by decide) (fun cy => cell3 (by decide +kernel)) rfl rfl rfl (Nat.le_of_ble_eq_true rfl) ⟨Nat.le_of_ble_eq_true rfl, Nat.le_of_ble_eq_true rfl⟩ dX3_stores_45 ⟨Nat.le_of_ble_eq_true rfl, Nat.le_of_ble_eq_true rfl⟩ rfl ?_
    refine ro_istore (i := 4) (q := 50) hX dX3_stores_48 (Nat.le_of_ble_eq_true rfl) rfl ?_
    rcases hbo : boM (plK (st1 s p v) p k37) 0 p with _ | h9
    · skip
      refine ro_iload (i := 4) (q := 52) hX dX3_stores_50 rfl rfl ?_
      refine ro_iconst (v := (-1)) (q := 53) hX dX3_stores_52 rfl rfl ?_
      refine ro_icmp_eq (tgt := 70) (q := 56) hX dX3_stores_53 (by decide) rfl (fun _ => ?_) (fun q => absurd (by decide) q)
      refine ro_iinc (i := 3) (v := nI (k37 + 1)) (q := 73) hX dX3_stores_70 rfl (ni_inc _) (Nat.le_of_ble_eq_true rfl) rfl ?_
      refine ro_goto (tgt := 37) hX dX3_stores_73 (by decide) ?_
      refine ro_drop [4] hX rfl ?_
      exact vv_LM (by rfl) (by first | (rw [plK, plM_n hbo]) | (rw [plK, plM_s hbo])) ih37
    · skip
      have hh9 := boM_lt hbo
      refine ro_iload (i := 4) (q := 52) hX dX3_stores_50 rfl rfl ?_
      refine ro_iconst (v := (-1)) (q := 53) hX dX3_stores_52 rfl rfl ?_
      refine ro_icmp_eq (tgt := 70) (q := 56) hX dX3_stores_53 (by decide) rfl (fun q => absurd q (ni_m1 (by omega))) (fun _ => ?_)
      refine ro_aload_n (i := 0) (q := 57) hX dX3_stores_56 rfl rfl rfl ?_
      refine ro_iconst (v := nI 0) (q := 58) hX dX3_stores_57 rfl rfl ?_
      refine ro_iload (i := 4) (q := 60) hX dX3_stores_58 rfl rfl ?_
      refine ro_iload_n (i := 1) (q := 61) hX dX3_stores_60 rfl rfl rfl ?_
      refine ro_aload_n (i := 0) (q := 62) hX dX3_stores_61 rfl rfl rfl ?_
      refine ro_Nga1 (q9 := 65) hX kf_X3_7 dX3_stores_62 rfl ?_
      refine ro_iconst (v := nI 1) (q := 66) hX dX3_stores_65 rfl rfl ?_
      refine ro_Nsld (n := 1) (q9 := 67) hX rfl (by omega) dX3_stores_66 rfl ?_
      refine ro_callVv (q9 := 70) hX (m_layReplica (by omega) (by omega) (by omega)) mw_X3_layReplica kl_X3_62 (by decide) (fun cy => cell3 (by decide +kernel)) rfl rfl rfl (Nat.le_of_ble_eq_true rfl) ⟨Nat.le_of_ble_eq_true rfl, Nat.le_of_ble_eq_true rfl⟩ dX3_stores_67 ⟨Nat.le_of_ble_eq_true rfl, Nat.le_of_ble_eq_true rfl⟩ rfl ?_
      refine ro_iinc (i := 3) (v := nI (k37 + 1)) (q := 73) hX dX3_stores_70 rfl (ni_inc _) (Nat.le_of_ble_eq_true rfl) rfl ?_
      refine ro_goto (tgt := 37) hX dX3_stores_73 (by decide) ?_
      refine ro_drop [4] hX rfl ?_
      exact vv_LM (by rfl) (by first | (rw [plK, plM_n hbo]) | (rw [plK, plM_s hbo])) ih37
  · show VV 0 0 37 [(0, .ref (sz + 75)), (1, .int (nI p)), (2, .int (v)), (3, .int (nI 2))] [] (patch G 75 4 (mS F (plK (st1 s p v) p 2)), T)
    refine ro_iload_n (i := 3) (q := 38) hX dX3_stores_37 rfl rfl rfl ?_
    refine ro_iconst (v := nI 2) (q := 39) hX dX3_stores_38 rfl rfl ?_
    refine ro_icmp_ge (tgt := 76) (q := 42) hX dX3_stores_39 (by decide) rfl (fun _ => ?_) (fun q => absurd (by decide) q)
    refine ro_aload_n (i := 0) (q := 77) hX dX3_stores_76 rfl rfl rfl ?_
    refine ro_iconst (v := nI 0) (q := 78) hX dX3_stores_77 rfl rfl ?_
    refine ro_iload_n (i := 1) (q := 79) hX dX3_stores_78 rfl rfl rfl ?_
    refine ro_callVi (q9 := 82) hX (m_copiesOf (by omega) (by omega)) mw_X3_copiesOf kl_X3_49 (by decide) (fun cy => cell3 (by decide +kernel)) rfl rfl rfl (Nat.le_of_ble_eq_true rfl) ⟨Nat.le_of_ble_eq_true rfl, Nat.le_of_ble_eq_true rfl⟩ dX3_stores_79 ⟨Nat.le_of_ble_eq_true rfl, Nat.le_of_ble_eq_true rfl⟩ rfl ?_
    refine ro_callSi (q9 := 85) hX (m_ones) mw_X3_ones kl_X3_52 rfl rfl (Nat.le_of_ble_eq_true rfl) ⟨Nat.le_of_ble_eq_true rfl, Nat.le_of_ble_eq_true rfl⟩ dX3_stores_82 ⟨Nat.le_of_ble_eq_true rfl, Nat.le_of_ble_eq_true rfl⟩ rfl ?_
    refine ro_istore_n (i := 3) (q := 86) hX dX3_stores_85 rfl (Nat.le_of_ble_eq_true rfl) rfl ?_
    refine ro_aload_n (i := 0) (q := 87) hX dX3_stores_86 rfl rfl rfl ?_
    refine ro_iconst (v := nI 0) (q := 88) hX dX3_stores_87 rfl rfl ?_
    refine ro_callVv (q9 := 91) hX (m_settles (by omega)) mw_X3_settles kl_X3_89 (by decide) (fun cy => cell3 (by decide +kernel)) rfl rfl rfl (Nat.le_of_ble_eq_true rfl) ⟨Nat.le_of_ble_eq_true rfl, Nat.le_of_ble_eq_true rfl⟩ dX3_stores_88 ⟨Nat.le_of_ble_eq_true rfl, Nat.le_of_ble_eq_true rfl⟩ rfl ?_
    refine ro_iload_n (i := 3) (q := 92) hX dX3_stores_91 rfl rfl rfl ?_
    exact fin_i hF (Nat.le_of_ble_eq_true rfl) (Nat.le_of_ble_eq_true rfl) dX3_stores_92 (by rfl) (by rfl)
set_option maxRecDepth 20000 in
set_option maxHeartbeats 2000000 in
theorem m_canWrite {p : Nat} (hp : p < 30) : Does sz I_X3_canWrite [.ref (sz + 75), .int (nI p)] (patch G 75 4 (mS F s), T) 0 0 (.inl (some (bi (cwM s p)))) (patch G 75 4 (mS F s), T) := by
  refine Does.of (L := [(0, .ref (sz + 75)), (1, .int (nI p))]) (by decide +kernel) (Nat.le_of_ble_eq_true rfl) rfl ⟨rfl, (by simp), ⟨rfl, (by simp), trivial⟩⟩ (fun VV hF => ?_)
  have hX := hF.c
  refine ro_aload_n (i := 0) (q := 1) hX dX3_canWrite_0 rfl rfl rfl ?_
  refine ro_iconst (v := nI 0) (q := 2) hX dX3_canWrite_1 rfl rfl ?_
  refine ro_iload_n (i := 1) (q := 3) hX dX3_canWrite_2 rfl rfl rfl ?_
  refine ro_callVi (q9 := 6) hX (m_isThere (by omega) (by omega)) mw_X3_isThere kl_X3_28 (by decide) (fun cy => cell3 (by decide +kernel)) rfl rfl rfl (Nat.le_of_ble_eq_true rfl) ⟨Nat.le_of_ble_eq_true rfl, Nat.le_of_ble_eq_true rfl⟩ dX3_canWrite_3 ⟨Nat.le_of_ble_eq_true rfl, Nat.le_of_ble_eq_true rfl⟩ rfl ?_
  refine ro_ifb_eq (tgt := 22) (q := 9) hX dX3_canWrite_6 (by decide) rfl (fun q1 => ?_) (fun q1 => ?_)
  · skip
    refine ro_iconst (v := nI 0) (q := 23) hX dX3_canWrite_22 rfl rfl ?_
    exact fin_z hF (Nat.le_of_ble_eq_true rfl) (Nat.le_of_ble_eq_true rfl) dX3_canWrite_23 rfl (by first | with_reducible rfl | (simp [cwM, bi, setL_s, setL_t, setL_0, dropL_0, dropL_c, *]; done) | (simp only [cwM, bi, setL_s, setL_t, setL_0, dropL_0, dropL_c]; (repeat' split) <;> first | with_reducible rfl | contradiction | (exfalso; omega) | (simp_all; done)) | rfl) (by first | with_reducible rfl | (simp [cwM, bi, setL_s, setL_t, setL_0, dropL_0, dropL_c, *]; done) | (simp only [cwM, bi, setL_s, setL_t, setL_0, dropL_0, dropL_c]; (repeat' split) <;> first | with_reducible rfl | contradiction | (exfalso; omega) | (simp_all; done)) | rfl)
  · skip
    refine ro_aload_n (i := 0) (q := 10) hX dX3_canWrite_9 rfl rfl rfl ?_
    refine ro_iconst (v := nI 0) (q := 11) hX dX3_canWrite_10 rfl rfl ?_
    refine ro_iload_n (i := 1) (q := 12) hX dX3_canWrite_11 rfl rfl rfl ?_
    refine ro_callVi (q9 := 15) hX (m_copiesOf (by omega) (by omega)) mw_X3_copiesOf kl_X3_49 (by decide) (fun cy => cell3 (by decide +kernel)) rfl rfl rfl (Nat.le_of_ble_eq_true rfl) ⟨Nat.le_of_ble_eq_true rfl, Nat.le_of_ble_eq_true rfl⟩ dX3_canWrite_12 ⟨Nat.le_of_ble_eq_true rfl, Nat.le_of_ble_eq_true rfl⟩ rfl ?_
    refine ro_if_eq (tgt := 22) (q := 18) hX dX3_canWrite_15 (by decide) rfl (fun q2 => ?_) (fun q2 => ?_)
    · skip
      refine ro_iconst (v := nI 0) (q := 23) hX dX3_canWrite_22 rfl rfl ?_
      exact fin_z hF (Nat.le_of_ble_eq_true rfl) (Nat.le_of_ble_eq_true rfl) dX3_canWrite_23 rfl (by first | with_reducible rfl | (simp [cwM, bi, setL_s, setL_t, setL_0, dropL_0, dropL_c, *]; done) | (simp only [cwM, bi, setL_s, setL_t, setL_0, dropL_0, dropL_c]; (repeat' split) <;> first | with_reducible rfl | contradiction | (exfalso; omega) | (simp_all; done)) | rfl) (by first | with_reducible rfl | (simp [cwM, bi, setL_s, setL_t, setL_0, dropL_0, dropL_c, *]; done) | (simp only [cwM, bi, setL_s, setL_t, setL_0, dropL_0, dropL_c]; (repeat' split) <;> first | with_reducible rfl | contradiction | (exfalso; omega) | (simp_all; done)) | rfl)
    · skip
      refine ro_iconst (v := nI 1) (q := 19) hX dX3_canWrite_18 rfl rfl ?_
      refine ro_goto (tgt := 23) hX dX3_canWrite_19 (by decide) ?_
      exact fin_z hF (Nat.le_of_ble_eq_true rfl) (Nat.le_of_ble_eq_true rfl) dX3_canWrite_23 rfl (by first | with_reducible rfl | (simp [cwM, bi, setL_s, setL_t, setL_0, dropL_0, dropL_c, *]; done) | (simp only [cwM, bi, setL_s, setL_t, setL_0, dropL_0, dropL_c]; (repeat' split) <;> first | with_reducible rfl | contradiction | (exfalso; omega) | (simp_all; done)) | rfl) (by first | with_reducible rfl | (simp [cwM, bi, setL_s, setL_t, setL_0, dropL_0, dropL_c, *]; done) | (simp only [cwM, bi, setL_s, setL_t, setL_0, dropL_0, dropL_c]; (repeat' split) <;> first | with_reducible rfl | contradiction | (exfalso; omega) | (simp_all; done)) | rfl)
set_option maxRecDepth 20000 in
set_option maxHeartbeats 2000000 in
theorem m_writes {p : Nat} (hp : p < 30) {v : Int32} : Does sz I_X3_writes [.ref (sz + 75), .int (nI p), .int v] (patch G 75 4 (mS F s), T) 0 0 (.inl (some (onM (cpM (st1 s p v) 0 p)))) (patch G 75 4 (mS F (wrM s p v)), T) := by
  refine Does.of (L := [(0, .ref (sz + 75)), (1, .int (nI p)), (2, .int v)]) (by decide +kernel) (Nat.le_of_ble_eq_true rfl) rfl ⟨rfl, (by simp), ⟨rfl, (by simp), ⟨rfl, (by simp), trivial⟩⟩⟩ (fun VV hF => ?_)
  have hX := hF.c
  refine ro_aload_n (i := 0) (q := 1) hX dX3_writes_0 rfl rfl rfl ?_
  refine ro_Nga1 (q9 := 4) hX kf_X3_7 dX3_writes_1 rfl ?_
  refine ro_iconst (v := nI 1) (q := 5) hX dX3_writes_4 rfl rfl ?_
  refine ro_dup2 (q := 6) hX dX3_writes_5 rfl rfl rfl ?_
  refine ro_Nsld (n := 1) (q9 := 7) hX rfl (by omega) dX3_writes_6 rfl ?_
  refine ro_iconst (v := nI 1) (q := 8) hX dX3_writes_7 rfl rfl ?_
  refine ro_iadd (q := 9) hX dX3_writes_8 rfl ?_
  refine ro_Nsst (n := 1) (q9 := 10) hX rfl (by omega) dX3_writes_9 rfl ?_
  refine ro_aload_n (i := 0) (q := 11) hX dX3_writes_10 rfl rfl rfl ?_
  refine ro_Nga1 (q9 := 14) hX kf_X3_7 dX3_writes_11 rfl ?_
  refine ro_bipush (v := nI 32) (q := 16) hX dX3_writes_14 rfl rfl ?_
  refine ro_iload_n (i := 1) (q := 17) hX dX3_writes_16 rfl rfl rfl ?_
  refine ro_iadd (q := 18) hX dX3_writes_17 rfl ?_
  refine vv_top (y := nI (32 + p)) (nI_add' rfl rfl) ?_
  refine ro_aload_n (i := 0) (q := 19) hX dX3_writes_18 rfl rfl rfl ?_
  refine ro_Nga1 (q9 := 22) hX kf_X3_7 dX3_writes_19 rfl ?_
  refine ro_iconst (v := nI 1) (q := 23) hX dX3_writes_22 rfl rfl ?_
  refine ro_Nsld (n := 1) (q9 := 24) hX rfl (by omega) dX3_writes_23 rfl ?_
  refine ro_Nsst (n := 32 + p) (q9 := 25) hX rfl (by omega) dX3_writes_24 rfl ?_
  refine ro_aload_n (i := 0) (q := 26) hX dX3_writes_25 rfl rfl rfl ?_
  refine ro_Nga1 (q9 := 29) hX kf_X3_7 dX3_writes_26 rfl ?_
  refine ro_bipush (v := nI 62) (q := 31) hX dX3_writes_29 rfl rfl ?_
  refine ro_iload_n (i := 1) (q := 32) hX dX3_writes_31 rfl rfl rfl ?_
  refine ro_iadd (q := 33) hX dX3_writes_32 rfl ?_
  refine vv_top (y := nI (62 + p)) (nI_add' rfl rfl) ?_
  refine ro_iload_n (i := 2) (q := 34) hX dX3_writes_33 rfl rfl rfl ?_
  refine ro_Nsst (n := 62 + p) (q9 := 35) hX rfl (by omega) dX3_writes_34 rfl ?_
  refine ro_aload_n (i := 0) (q := 36) hX dX3_writes_35 rfl rfl rfl ?_
  refine ro_iconst (v := nI 0) (q := 37) hX dX3_writes_36 rfl rfl ?_
  refine ro_iload_n (i := 1) (q := 38) hX dX3_writes_37 rfl rfl rfl ?_
  refine ro_callVi (q9 := 41) hX (m_copiesOf (by omega) (by omega)) mw_X3_copiesOf kl_X3_49 (by decide) (fun cy => cell3 (by decide +kernel)) rfl rfl rfl (Nat.le_of_ble_eq_true rfl) ⟨Nat.le_of_ble_eq_true rfl, Nat.le_of_ble_eq_true rfl⟩ dX3_writes_38 ⟨Nat.le_of_ble_eq_true rfl, Nat.le_of_ble_eq_true rfl⟩ rfl ?_
  refine ro_istore_n (i := 3) (q := 42) hX dX3_writes_41 rfl (Nat.le_of_ble_eq_true rfl) rfl ?_
  refine ro_iconst (v := nI 0) (q := 43) hX dX3_writes_42 rfl rfl ?_
  refine ro_istore (i := 4) (q := 45) hX dX3_writes_43 (Nat.le_of_ble_eq_true rfl) rfl ?_
  refine vv_LM (L' := [(0, .ref (sz + 75)), (1, .int (nI p)), (2, .int (v)), (3, .int (cpM (st1 s p v) 0 p)), (4, .int (nI 0))]) (M' := (patch G 75 4 (mS F (wrL (st1 s p v) p (cpM (st1 s p v) 0 p) 0)), T)) (by rfl) (by rfl) ?_
  refine down_ind (P := fun k45 => VV 0 0 45 [(0, .ref (sz + 75)), (1, .int (nI p)), (2, .int (v)), (3, .int (cpM (st1 s p v) 0 p)), (4, .int (nI k45))] [] (patch G 75 4 (mS F (wrL (st1 s p v) p (cpM (st1 s p v) 0 p) k45)), T)) (6) (fun k45 hk45 ih45 => ?_) ?_
  · have ih45 : VV 0 0 45 [(0, .ref (sz + 75)), (1, .int (nI p)), (2, .int (v)), (3, .int (cpM (st1 s p v) 0 p)), (4, .int (nI (k45 + 1)))] [] (patch G 75 4 (mS F (wrL (st1 s p v) p (cpM (st1 s p v) 0 p) (k45 + 1))), T) := ih45
    show VV 0 0 45 [(0, .ref (sz + 75)), (1, .int (nI p)), (2, .int (v)), (3, .int (cpM (st1 s p v) 0 p)), (4, .int (nI k45))] [] (patch G 75 4 (mS F (wrL (st1 s p v) p (cpM (st1 s p v) 0 p) k45)), T)
    refine ro_iload (i := 4) (q := 47) hX dX3_writes_45 rfl rfl ?_
    refine ro_bipush (v := nI 6) (q := 49) hX dX3_writes_47 rfl rfl ?_
    refine ro_icmp_ge (tgt := 93) (q := 52) hX dX3_writes_49 (by decide) rfl (fun q => absurd q (by first | exact ni_nle (by omega) (by omega) | exact ni_lt (by omega) (by omega))) (fun _ => ?_)
    refine ro_aload_n (i := 0) (q := 53) hX dX3_writes_52 rfl rfl rfl ?_
    refine ro_iconst (v := nI 0) (q := 54) hX dX3_writes_53 rfl rfl ?_
    refine ro_iload (i := 4) (q := 56) hX dX3_writes_54 rfl rfl ?_
    refine ro_iload_n (i := 1) (q := 57) hX dX3_writes_56 rfl rfl rfl ?_
    refine ro_iload_n (i := 3) (q := 58) hX dX3_writes_57 rfl rfl rfl ?_
    refine ro_iload (i := 4) (q := 60) hX dX3_writes_58 rfl rfl ?_
    refine ro_ishr (q := 61) hX dX3_writes_60 rfl ?_
    refine ro_iconst (v := nI 1) (q := 62) hX dX3_writes_61 rfl rfl ?_
    refine ro_iand (q := 63) hX dX3_writes_62 rfl ?_
    refine ro_iconst (v := nI 1) (q := 64) hX dX3_writes_63 rfl rfl ?_
    refine ro_icmp_ne (tgt := 76) (q := 67) hX dX3_writes_64 (by decide) rfl (fun q1 => ?_) (fun q1 => ?_)
    · skip
      refine ro_aload_n (i := 0) (q := 77) hX dX3_writes_76 rfl rfl rfl ?_
      refine ro_iconst (v := nI 0) (q := 78) hX dX3_writes_77 rfl rfl ?_
      refine ro_iload (i := 4) (q := 80) hX dX3_writes_78 rfl rfl ?_
      refine ro_iload_n (i := 1) (q := 81) hX dX3_writes_80 rfl rfl rfl ?_
      refine ro_callVi (q9 := 84) hX (m_replicaOf (by omega) (by omega) (by omega)) mw_X3_replicaOf kl_X3_32 (by decide) (fun cy => cell3 (by decide +kernel)) rfl rfl rfl (Nat.le_of_ble_eq_true rfl) ⟨Nat.le_of_ble_eq_true rfl, Nat.le_of_ble_eq_true rfl⟩ dX3_writes_81 ⟨Nat.le_of_ble_eq_true rfl, Nat.le_of_ble_eq_true rfl⟩ rfl ?_
      refine ro_callVv (q9 := 87) hX (m_layReplica (by omega) (by omega) (by omega)) mw_X3_layReplica kl_X3_62 (by decide) (fun cy => cell3 (by decide +kernel)) rfl rfl rfl (Nat.le_of_ble_eq_true rfl) ⟨Nat.le_of_ble_eq_true rfl, Nat.le_of_ble_eq_true rfl⟩ dX3_writes_84 ⟨Nat.le_of_ble_eq_true rfl, Nat.le_of_ble_eq_true rfl⟩ rfl ?_
      refine ro_iinc (i := 4) (v := nI (k45 + 1)) (q := 90) hX dX3_writes_87 rfl (ni_inc _) (Nat.le_of_ble_eq_true rfl) rfl ?_
      refine ro_goto (tgt := 45) hX dX3_writes_90 (by decide) ?_
      exact vv_LM (by first | with_reducible rfl | (simp [wrL, btC, setL_s, setL_t, setL_0, dropL_0, dropL_c, *]; done) | (simp only [wrL, btC, setL_s, setL_t, setL_0, dropL_0, dropL_c]; (repeat' split) <;> first | with_reducible rfl | contradiction | (exfalso; omega) | (simp_all; done)) | rfl) (by first | with_reducible rfl | (simp [wrL, btC, setL_s, setL_t, setL_0, dropL_0, dropL_c, *]; done) | (simp only [wrL, btC, setL_s, setL_t, setL_0, dropL_0, dropL_c]; (repeat' split) <;> first | with_reducible rfl | contradiction | (exfalso; omega) | (simp_all; done)) | rfl) ih45
    · skip
      refine ro_aload_n (i := 0) (q := 68) hX dX3_writes_67 rfl rfl rfl ?_
      refine ro_Nga1 (q9 := 71) hX kf_X3_7 dX3_writes_68 rfl ?_
      refine ro_iconst (v := nI 1) (q := 72) hX dX3_writes_71 rfl rfl ?_
      refine ro_Nsld (n := 1) (q9 := 73) hX rfl (by omega) dX3_writes_72 rfl ?_
      refine ro_goto (tgt := 84) hX dX3_writes_73 (by decide) ?_
      refine ro_callVv (q9 := 87) hX (m_layReplica (by omega) (by omega) (by omega)) mw_X3_layReplica kl_X3_62 (by decide) (fun cy => cell3 (by decide +kernel)) rfl rfl rfl (Nat.le_of_ble_eq_true rfl) ⟨Nat.le_of_ble_eq_true rfl, Nat.le_of_ble_eq_true rfl⟩ dX3_writes_84 ⟨Nat.le_of_ble_eq_true rfl, Nat.le_of_ble_eq_true rfl⟩ rfl ?_
      refine ro_iinc (i := 4) (v := nI (k45 + 1)) (q := 90) hX dX3_writes_87 rfl (ni_inc _) (Nat.le_of_ble_eq_true rfl) rfl ?_
      refine ro_goto (tgt := 45) hX dX3_writes_90 (by decide) ?_
      exact vv_LM (by first | with_reducible rfl | (simp [wrL, btC, setL_s, setL_t, setL_0, dropL_0, dropL_c, *]; done) | (simp only [wrL, btC, setL_s, setL_t, setL_0, dropL_0, dropL_c]; (repeat' split) <;> first | with_reducible rfl | contradiction | (exfalso; omega) | (simp_all; done)) | rfl) (by first | with_reducible rfl | (simp [wrL, btC, setL_s, setL_t, setL_0, dropL_0, dropL_c, *]; done) | (simp only [wrL, btC, setL_s, setL_t, setL_0, dropL_0, dropL_c]; (repeat' split) <;> first | with_reducible rfl | contradiction | (exfalso; omega) | (simp_all; done)) | rfl) ih45
  · show VV 0 0 45 [(0, .ref (sz + 75)), (1, .int (nI p)), (2, .int (v)), (3, .int (cpM (st1 s p v) 0 p)), (4, .int (nI 6))] [] (patch G 75 4 (mS F (wrL (st1 s p v) p (cpM (st1 s p v) 0 p) 6)), T)
    refine ro_iload (i := 4) (q := 47) hX dX3_writes_45 rfl rfl ?_
    refine ro_bipush (v := nI 6) (q := 49) hX dX3_writes_47 rfl rfl ?_
    refine ro_icmp_ge (tgt := 93) (q := 52) hX dX3_writes_49 (by decide) rfl (fun _ => ?_) (fun q => absurd (by decide) q)
    refine ro_aload_n (i := 0) (q := 94) hX dX3_writes_93 rfl rfl rfl ?_
    refine ro_iconst (v := nI 0) (q := 95) hX dX3_writes_94 rfl rfl ?_
    refine ro_callVv (q9 := 98) hX (m_settles (by omega)) mw_X3_settles kl_X3_89 (by decide) (fun cy => cell3 (by decide +kernel)) rfl rfl rfl (Nat.le_of_ble_eq_true rfl) ⟨Nat.le_of_ble_eq_true rfl, Nat.le_of_ble_eq_true rfl⟩ dX3_writes_95 ⟨Nat.le_of_ble_eq_true rfl, Nat.le_of_ble_eq_true rfl⟩ rfl ?_
    refine ro_iload_n (i := 3) (q := 99) hX dX3_writes_98 rfl rfl rfl ?_
    refine ro_callSi (q9 := 102) hX (m_ones) mw_X3_ones kl_X3_52 rfl rfl (Nat.le_of_ble_eq_true rfl) ⟨Nat.le_of_ble_eq_true rfl, Nat.le_of_ble_eq_true rfl⟩ dX3_writes_99 ⟨Nat.le_of_ble_eq_true rfl, Nat.le_of_ble_eq_true rfl⟩ rfl ?_
    exact fin_i hF (Nat.le_of_ble_eq_true rfl) (Nat.le_of_ble_eq_true rfl) dX3_writes_102 (by rfl) (by rfl)
set_option maxRecDepth 20000 in
set_option maxHeartbeats 2000000 in
theorem m_removes {p : Nat} (hp : p < 30) : Does sz I_X3_removes [.ref (sz + 75), .int (nI p)] (patch G 75 4 (mS F s), T) 0 0 (.inl (some (onM (cpM s 0 p)))) (patch G 75 4 (mS F (rvM s p)), T) := by
  refine Does.of (L := [(0, .ref (sz + 75)), (1, .int (nI p))]) (by decide +kernel) (Nat.le_of_ble_eq_true rfl) rfl ⟨rfl, (by simp), ⟨rfl, (by simp), trivial⟩⟩ (fun VV hF => ?_)
  have hX := hF.c
  refine ro_aload_n (i := 0) (q := 1) hX dX3_removes_0 rfl rfl rfl ?_
  refine ro_iconst (v := nI 0) (q := 2) hX dX3_removes_1 rfl rfl ?_
  refine ro_iload_n (i := 1) (q := 3) hX dX3_removes_2 rfl rfl rfl ?_
  refine ro_callVi (q9 := 6) hX (m_copiesOf (by omega) (by omega)) mw_X3_copiesOf kl_X3_49 (by decide) (fun cy => cell3 (by decide +kernel)) rfl rfl rfl (Nat.le_of_ble_eq_true rfl) ⟨Nat.le_of_ble_eq_true rfl, Nat.le_of_ble_eq_true rfl⟩ dX3_removes_3 ⟨Nat.le_of_ble_eq_true rfl, Nat.le_of_ble_eq_true rfl⟩ rfl ?_
  refine ro_istore_n (i := 2) (q := 7) hX dX3_removes_6 rfl (Nat.le_of_ble_eq_true rfl) rfl ?_
  refine ro_iconst (v := nI 0) (q := 8) hX dX3_removes_7 rfl rfl ?_
  refine ro_istore_n (i := 3) (q := 9) hX dX3_removes_8 rfl (Nat.le_of_ble_eq_true rfl) rfl ?_
  refine vv_LM (L' := [(0, .ref (sz + 75)), (1, .int (nI p)), (2, .int (cpM s 0 p)), (3, .int (nI 0))]) (M' := (patch G 75 4 (mS F (rvL s p (cpM s 0 p) 0)), T)) (by rfl) (by rfl) ?_
  refine down_ind (P := fun k9 => VV 0 0 9 [(0, .ref (sz + 75)), (1, .int (nI p)), (2, .int (cpM s 0 p)), (3, .int (nI k9))] [] (patch G 75 4 (mS F (rvL s p (cpM s 0 p) k9)), T)) (6) (fun k9 hk9 ih9 => ?_) ?_
  · have ih9 : VV 0 0 9 [(0, .ref (sz + 75)), (1, .int (nI p)), (2, .int (cpM s 0 p)), (3, .int (nI (k9 + 1)))] [] (patch G 75 4 (mS F (rvL s p (cpM s 0 p) (k9 + 1))), T) := ih9
    show VV 0 0 9 [(0, .ref (sz + 75)), (1, .int (nI p)), (2, .int (cpM s 0 p)), (3, .int (nI k9))] [] (patch G 75 4 (mS F (rvL s p (cpM s 0 p) k9)), T)
    refine ro_iload_n (i := 3) (q := 10) hX dX3_removes_9 rfl rfl rfl ?_
    refine ro_bipush (v := nI 6) (q := 12) hX dX3_removes_10 rfl rfl ?_
    refine ro_icmp_ge (tgt := 48) (q := 15) hX dX3_removes_12 (by decide) rfl (fun q => absurd q (by first | exact ni_nle (by omega) (by omega) | exact ni_lt (by omega) (by omega))) (fun _ => ?_)
    refine ro_aload_n (i := 0) (q := 16) hX dX3_removes_15 rfl rfl rfl ?_
    refine ro_iconst (v := nI 0) (q := 17) hX dX3_removes_16 rfl rfl ?_
    refine ro_iload_n (i := 3) (q := 18) hX dX3_removes_17 rfl rfl rfl ?_
    refine ro_iload_n (i := 1) (q := 19) hX dX3_removes_18 rfl rfl rfl ?_
    refine ro_iload_n (i := 2) (q := 20) hX dX3_removes_19 rfl rfl rfl ?_
    refine ro_iload_n (i := 3) (q := 21) hX dX3_removes_20 rfl rfl rfl ?_
    refine ro_ishr (q := 22) hX dX3_removes_21 rfl ?_
    refine ro_iconst (v := nI 1) (q := 23) hX dX3_removes_22 rfl rfl ?_
    refine ro_iand (q := 24) hX dX3_removes_23 rfl ?_
    refine ro_iconst (v := nI 1) (q := 25) hX dX3_removes_24 rfl rfl ?_
    refine ro_icmp_ne (tgt := 32) (q := 28) hX dX3_removes_25 (by decide) rfl (fun q1 => ?_) (fun q1 => ?_)
    · skip
      refine ro_aload_n (i := 0) (q := 33) hX dX3_removes_32 rfl rfl rfl ?_
      refine ro_iconst (v := nI 0) (q := 34) hX dX3_removes_33 rfl rfl ?_
      refine ro_iload_n (i := 3) (q := 35) hX dX3_removes_34 rfl rfl rfl ?_
      refine ro_iload_n (i := 1) (q := 36) hX dX3_removes_35 rfl rfl rfl ?_
      refine ro_callVi (q9 := 39) hX (m_replicaOf (by omega) (by omega) (by omega)) mw_X3_replicaOf kl_X3_32 (by decide) (fun cy => cell3 (by decide +kernel)) rfl rfl rfl (Nat.le_of_ble_eq_true rfl) ⟨Nat.le_of_ble_eq_true rfl, Nat.le_of_ble_eq_true rfl⟩ dX3_removes_36 ⟨Nat.le_of_ble_eq_true rfl, Nat.le_of_ble_eq_true rfl⟩ rfl ?_
      refine ro_callVv (q9 := 42) hX (m_layReplica (by omega) (by omega) (by omega)) mw_X3_layReplica kl_X3_62 (by decide) (fun cy => cell3 (by decide +kernel)) rfl rfl rfl (Nat.le_of_ble_eq_true rfl) ⟨Nat.le_of_ble_eq_true rfl, Nat.le_of_ble_eq_true rfl⟩ dX3_removes_39 ⟨Nat.le_of_ble_eq_true rfl, Nat.le_of_ble_eq_true rfl⟩ rfl ?_
      refine ro_iinc (i := 3) (v := nI (k9 + 1)) (q := 45) hX dX3_removes_42 rfl (ni_inc _) (Nat.le_of_ble_eq_true rfl) rfl ?_
      refine ro_goto (tgt := 9) hX dX3_removes_45 (by decide) ?_
      exact vv_LM (by first | with_reducible rfl | (simp [rvL, btC, setL_s, setL_t, setL_0, dropL_0, dropL_c, *]; done) | (simp only [rvL, btC, setL_s, setL_t, setL_0, dropL_0, dropL_c]; (repeat' split) <;> first | with_reducible rfl | contradiction | (exfalso; omega) | (simp_all; done)) | rfl) (by first | with_reducible rfl | (simp [rvL, btC, setL_s, setL_t, setL_0, dropL_0, dropL_c, *]; done) | (simp only [rvL, btC, setL_s, setL_t, setL_0, dropL_0, dropL_c]; (repeat' split) <;> first | with_reducible rfl | contradiction | (exfalso; omega) | (simp_all; done)) | rfl) ih9
    · skip
      refine ro_iconst (v := nI 0) (q := 29) hX dX3_removes_28 rfl rfl ?_
      refine ro_goto (tgt := 39) hX dX3_removes_29 (by decide) ?_
      refine ro_callVv (q9 := 42) hX (m_layReplica (by omega) (by omega) (by omega)) mw_X3_layReplica kl_X3_62 (by decide) (fun cy => cell3 (by decide +kernel)) rfl rfl rfl (Nat.le_of_ble_eq_true rfl) ⟨Nat.le_of_ble_eq_true rfl, Nat.le_of_ble_eq_true rfl⟩ dX3_removes_39 ⟨Nat.le_of_ble_eq_true rfl, Nat.le_of_ble_eq_true rfl⟩ rfl ?_
      refine ro_iinc (i := 3) (v := nI (k9 + 1)) (q := 45) hX dX3_removes_42 rfl (ni_inc _) (Nat.le_of_ble_eq_true rfl) rfl ?_
      refine ro_goto (tgt := 9) hX dX3_removes_45 (by decide) ?_
      exact vv_LM (by first | with_reducible rfl | (simp [rvL, btC, setL_s, setL_t, setL_0, dropL_0, dropL_c, *]; done) | (simp only [rvL, btC, setL_s, setL_t, setL_0, dropL_0, dropL_c]; (repeat' split) <;> first | with_reducible rfl | contradiction | (exfalso; omega) | (simp_all; done)) | rfl) (by first | with_reducible rfl | (simp [rvL, btC, setL_s, setL_t, setL_0, dropL_0, dropL_c, *]; done) | (simp only [rvL, btC, setL_s, setL_t, setL_0, dropL_0, dropL_c]; (repeat' split) <;> first | with_reducible rfl | contradiction | (exfalso; omega) | (simp_all; done)) | rfl) ih9
  · show VV 0 0 9 [(0, .ref (sz + 75)), (1, .int (nI p)), (2, .int (cpM s 0 p)), (3, .int (nI 6))] [] (patch G 75 4 (mS F (rvL s p (cpM s 0 p) 6)), T)
    refine ro_iload_n (i := 3) (q := 10) hX dX3_removes_9 rfl rfl rfl ?_
    refine ro_bipush (v := nI 6) (q := 12) hX dX3_removes_10 rfl rfl ?_
    refine ro_icmp_ge (tgt := 48) (q := 15) hX dX3_removes_12 (by decide) rfl (fun _ => ?_) (fun q => absurd (by decide) q)
    refine ro_aload_n (i := 0) (q := 49) hX dX3_removes_48 rfl rfl rfl ?_
    refine ro_Nga1 (q9 := 52) hX kf_X3_7 dX3_removes_49 rfl ?_
    refine ro_bipush (v := nI 32) (q := 54) hX dX3_removes_52 rfl rfl ?_
    refine ro_iload_n (i := 1) (q := 55) hX dX3_removes_54 rfl rfl rfl ?_
    refine ro_iadd (q := 56) hX dX3_removes_55 rfl ?_
    refine vv_top (y := nI (32 + p)) (nI_add' rfl rfl) ?_
    refine ro_iconst (v := nI 0) (q := 57) hX dX3_removes_56 rfl rfl ?_
    refine ro_Nsst (n := 32 + p) (q9 := 58) hX rfl (by omega) dX3_removes_57 rfl ?_
    refine ro_aload_n (i := 0) (q := 59) hX dX3_removes_58 rfl rfl rfl ?_
    refine ro_Nga1 (q9 := 62) hX kf_X3_7 dX3_removes_59 rfl ?_
    refine ro_iconst (v := nI 4) (q := 63) hX dX3_removes_62 rfl rfl ?_
    refine ro_aload_n (i := 0) (q := 64) hX dX3_removes_63 rfl rfl rfl ?_
    refine ro_Nga1 (q9 := 67) hX kf_X3_7 dX3_removes_64 rfl ?_
    refine ro_iconst (v := nI 4) (q := 68) hX dX3_removes_67 rfl rfl ?_
    refine ro_Nsld (n := 4) (q9 := 69) hX rfl (by omega) dX3_removes_68 rfl ?_
    refine ro_iload_n (i := 1) (q := 70) hX dX3_removes_69 rfl rfl rfl ?_
    refine ro_icmp_ne (tgt := 77) (q := 73) hX dX3_removes_70 (by decide) rfl (fun q2 => ?_) (fun q2 => ?_)
    · skip
      refine ro_aload_n (i := 0) (q := 78) hX dX3_removes_77 rfl rfl rfl ?_
      refine ro_Nga1 (q9 := 81) hX kf_X3_7 dX3_removes_78 rfl ?_
      refine ro_iconst (v := nI 4) (q := 82) hX dX3_removes_81 rfl rfl ?_
      refine ro_Nsld (n := 4) (q9 := 83) hX rfl (by omega) dX3_removes_82 rfl ?_
      refine ro_Nsst (n := 4) (q9 := 84) hX rfl (by omega) dX3_removes_83 rfl ?_
      refine ro_aload_n (i := 0) (q := 85) hX dX3_removes_84 rfl rfl rfl ?_
      refine ro_iconst (v := nI 0) (q := 86) hX dX3_removes_85 rfl rfl ?_
      refine ro_callVv (q9 := 89) hX (m_settles (by omega)) mw_X3_settles kl_X3_89 (by decide) (fun cy => cell3 (by decide +kernel)) rfl rfl rfl (Nat.le_of_ble_eq_true rfl) ⟨Nat.le_of_ble_eq_true rfl, Nat.le_of_ble_eq_true rfl⟩ dX3_removes_86 ⟨Nat.le_of_ble_eq_true rfl, Nat.le_of_ble_eq_true rfl⟩ rfl ?_
      refine ro_iload_n (i := 2) (q := 90) hX dX3_removes_89 rfl rfl rfl ?_
      refine ro_callSi (q9 := 93) hX (m_ones) mw_X3_ones kl_X3_52 rfl rfl (Nat.le_of_ble_eq_true rfl) ⟨Nat.le_of_ble_eq_true rfl, Nat.le_of_ble_eq_true rfl⟩ dX3_removes_90 ⟨Nat.le_of_ble_eq_true rfl, Nat.le_of_ble_eq_true rfl⟩ rfl ?_
      exact fin_i hF (Nat.le_of_ble_eq_true rfl) (Nat.le_of_ble_eq_true rfl) dX3_removes_93 (by rfl) (by first | with_reducible rfl | (simp [rvM, rv1, rv2, setL_s, setL_t, setL_0, dropL_0, dropL_c, *]; done) | (simp only [rvM, rv1, rv2, setL_s, setL_t, setL_0, dropL_0, dropL_c]; (repeat' split) <;> first | with_reducible rfl | contradiction | (exfalso; omega) | (simp_all; done)) | rfl)
    · skip
      refine ro_iconst (v := (-1)) (q := 74) hX dX3_removes_73 rfl rfl ?_
      refine ro_goto (tgt := 83) hX dX3_removes_74 (by decide) ?_
      refine ro_Nsst (n := 4) (q9 := 84) hX rfl (by omega) dX3_removes_83 rfl ?_
      refine ro_aload_n (i := 0) (q := 85) hX dX3_removes_84 rfl rfl rfl ?_
      refine ro_iconst (v := nI 0) (q := 86) hX dX3_removes_85 rfl rfl ?_
      refine ro_callVv (q9 := 89) hX (m_settles (by omega)) mw_X3_settles kl_X3_89 (by decide) (fun cy => cell3 (by decide +kernel)) rfl rfl rfl (Nat.le_of_ble_eq_true rfl) ⟨Nat.le_of_ble_eq_true rfl, Nat.le_of_ble_eq_true rfl⟩ dX3_removes_86 ⟨Nat.le_of_ble_eq_true rfl, Nat.le_of_ble_eq_true rfl⟩ rfl ?_
      refine ro_iload_n (i := 2) (q := 90) hX dX3_removes_89 rfl rfl rfl ?_
      refine ro_callSi (q9 := 93) hX (m_ones) mw_X3_ones kl_X3_52 rfl rfl (Nat.le_of_ble_eq_true rfl) ⟨Nat.le_of_ble_eq_true rfl, Nat.le_of_ble_eq_true rfl⟩ dX3_removes_90 ⟨Nat.le_of_ble_eq_true rfl, Nat.le_of_ble_eq_true rfl⟩ rfl ?_
      exact fin_i hF (Nat.le_of_ble_eq_true rfl) (Nat.le_of_ble_eq_true rfl) dX3_removes_93 (by rfl) (by first | with_reducible rfl | (simp [rvM, rv1, rv2, setL_s, setL_t, setL_0, dropL_0, dropL_c, *]; done) | (simp only [rvM, rv1, rv2, setL_s, setL_t, setL_0, dropL_0, dropL_c]; (repeat' split) <;> first | with_reducible rfl | contradiction | (exfalso; omega) | (simp_all; done)) | rfl)
set_option maxRecDepth 20000 in
set_option maxHeartbeats 2000000 in
theorem m_canLend {h : Nat} (hh : h < 6) : Does sz I_X3_canLend [.ref (sz + 75), .int (nI h)] (patch G 75 4 (mS F s), T) 0 0 (.inl (some (bi (clB s h)))) (patch G 75 4 (mS F s), T) := by
  refine Does.of (L := [(0, .ref (sz + 75)), (1, .int (nI h))]) (by decide +kernel) (Nat.le_of_ble_eq_true rfl) rfl ⟨rfl, (by simp), ⟨rfl, (by simp), trivial⟩⟩ (fun VV hF => ?_)
  have hX := hF.c
  refine ro_aload_n (i := 0) (q := 1) hX dX3_canLend_0 rfl rfl rfl ?_
  refine ro_iconst (v := nI 0) (q := 2) hX dX3_canLend_1 rfl rfl ?_
  refine ro_iload_n (i := 1) (q := 3) hX dX3_canLend_2 rfl rfl rfl ?_
  refine ro_iconst (v := nI 0) (q := 4) hX dX3_canLend_3 rfl rfl ?_
  refine ro_callVi (q9 := 7) hX (m_of (by omega) (by omega) (by omega)) mw_X3_of kl_X3_36 (by decide) (fun cy => cell3 (by decide +kernel)) rfl rfl rfl (Nat.le_of_ble_eq_true rfl) ⟨Nat.le_of_ble_eq_true rfl, Nat.le_of_ble_eq_true rfl⟩ dX3_canLend_4 ⟨Nat.le_of_ble_eq_true rfl, Nat.le_of_ble_eq_true rfl⟩ rfl ?_
  refine ro_if_ne (tgt := 25) (q := 10) hX dX3_canLend_7 (by decide) rfl (fun q1 => ?_) (fun q1 => ?_)
  · skip
    refine ro_iconst (v := nI 0) (q := 26) hX dX3_canLend_25 rfl rfl ?_
    exact fin_z hF (Nat.le_of_ble_eq_true rfl) (Nat.le_of_ble_eq_true rfl) dX3_canLend_26 rfl (by first | with_reducible rfl | (simp [clB, bi, setL_s, setL_t, setL_0, dropL_0, dropL_c, *]; done) | (simp only [clB, bi, setL_s, setL_t, setL_0, dropL_0, dropL_c]; (repeat' split) <;> first | with_reducible rfl | contradiction | (exfalso; omega) | (simp_all; done)) | rfl) (by first | with_reducible rfl | (simp [clB, bi, setL_s, setL_t, setL_0, dropL_0, dropL_c, *]; done) | (simp only [clB, bi, setL_s, setL_t, setL_0, dropL_0, dropL_c]; (repeat' split) <;> first | with_reducible rfl | contradiction | (exfalso; omega) | (simp_all; done)) | rfl)
  · skip
    refine ro_aload_n (i := 0) (q := 11) hX dX3_canLend_10 rfl rfl rfl ?_
    refine ro_iconst (v := nI 0) (q := 12) hX dX3_canLend_11 rfl rfl ?_
    refine ro_iload_n (i := 1) (q := 13) hX dX3_canLend_12 rfl rfl rfl ?_
    refine ro_iconst (v := nI 1) (q := 14) hX dX3_canLend_13 rfl rfl ?_
    refine ro_callVi (q9 := 17) hX (m_of (by omega) (by omega) (by omega)) mw_X3_of kl_X3_36 (by decide) (fun cy => cell3 (by decide +kernel)) rfl rfl rfl (Nat.le_of_ble_eq_true rfl) ⟨Nat.le_of_ble_eq_true rfl, Nat.le_of_ble_eq_true rfl⟩ dX3_canLend_14 ⟨Nat.le_of_ble_eq_true rfl, Nat.le_of_ble_eq_true rfl⟩ rfl ?_
    refine ro_iconst (v := nI 1) (q := 18) hX dX3_canLend_17 rfl rfl ?_
    refine ro_icmp_ne (tgt := 25) (q := 21) hX dX3_canLend_18 (by decide) rfl (fun q2 => ?_) (fun q2 => ?_)
    · skip
      refine ro_iconst (v := nI 0) (q := 26) hX dX3_canLend_25 rfl rfl ?_
      exact fin_z hF (Nat.le_of_ble_eq_true rfl) (Nat.le_of_ble_eq_true rfl) dX3_canLend_26 rfl (by first | with_reducible rfl | (simp [clB, bi, setL_s, setL_t, setL_0, dropL_0, dropL_c, *]; done) | (simp only [clB, bi, setL_s, setL_t, setL_0, dropL_0, dropL_c]; (repeat' split) <;> first | with_reducible rfl | contradiction | (exfalso; omega) | (simp_all; done)) | rfl) (by first | with_reducible rfl | (simp [clB, bi, setL_s, setL_t, setL_0, dropL_0, dropL_c, *]; done) | (simp only [clB, bi, setL_s, setL_t, setL_0, dropL_0, dropL_c]; (repeat' split) <;> first | with_reducible rfl | contradiction | (exfalso; omega) | (simp_all; done)) | rfl)
    · skip
      refine ro_iconst (v := nI 1) (q := 22) hX dX3_canLend_21 rfl rfl ?_
      refine ro_goto (tgt := 26) hX dX3_canLend_22 (by decide) ?_
      exact fin_z hF (Nat.le_of_ble_eq_true rfl) (Nat.le_of_ble_eq_true rfl) dX3_canLend_26 rfl (by first | with_reducible rfl | (simp [clB, bi, setL_s, setL_t, setL_0, dropL_0, dropL_c, *]; done) | (simp only [clB, bi, setL_s, setL_t, setL_0, dropL_0, dropL_c]; (repeat' split) <;> first | with_reducible rfl | contradiction | (exfalso; omega) | (simp_all; done)) | rfl) (by first | with_reducible rfl | (simp [clB, bi, setL_s, setL_t, setL_0, dropL_0, dropL_c, *]; done) | (simp only [clB, bi, setL_s, setL_t, setL_0, dropL_0, dropL_c]; (repeat' split) <;> first | with_reducible rfl | contradiction | (exfalso; omega) | (simp_all; done)) | rfl)
set_option maxRecDepth 20000 in
set_option maxHeartbeats 2000000 in
theorem m_canRecall {h : Nat} (hh : h < 6) : Does sz I_X3_canRecall [.ref (sz + 75), .int (nI h)] (patch G 75 4 (mS F s), T) 0 0 (.inl (some (bi (crB s h)))) (patch G 75 4 (mS F s), T) := by
  refine Does.of (L := [(0, .ref (sz + 75)), (1, .int (nI h))]) (by decide +kernel) (Nat.le_of_ble_eq_true rfl) rfl ⟨rfl, (by simp), ⟨rfl, (by simp), trivial⟩⟩ (fun VV hF => ?_)
  have hX := hF.c
  refine ro_aload_n (i := 0) (q := 1) hX dX3_canRecall_0 rfl rfl rfl ?_
  refine ro_iconst (v := nI 0) (q := 2) hX dX3_canRecall_1 rfl rfl ?_
  refine ro_iload_n (i := 1) (q := 3) hX dX3_canRecall_2 rfl rfl rfl ?_
  refine ro_iconst (v := nI 0) (q := 4) hX dX3_canRecall_3 rfl rfl ?_
  refine ro_callVi (q9 := 7) hX (m_of (by omega) (by omega) (by omega)) mw_X3_of kl_X3_36 (by decide) (fun cy => cell3 (by decide +kernel)) rfl rfl rfl (Nat.le_of_ble_eq_true rfl) ⟨Nat.le_of_ble_eq_true rfl, Nat.le_of_ble_eq_true rfl⟩ dX3_canRecall_4 ⟨Nat.le_of_ble_eq_true rfl, Nat.le_of_ble_eq_true rfl⟩ rfl ?_
  refine ro_iconst (v := nI 1) (q := 8) hX dX3_canRecall_7 rfl rfl ?_
  refine ro_icmp_ne (tgt := 26) (q := 11) hX dX3_canRecall_8 (by decide) rfl (fun q1 => ?_) (fun q1 => ?_)
  · skip
    refine ro_iconst (v := nI 0) (q := 27) hX dX3_canRecall_26 rfl rfl ?_
    exact fin_z hF (Nat.le_of_ble_eq_true rfl) (Nat.le_of_ble_eq_true rfl) dX3_canRecall_27 rfl (by first | with_reducible rfl | (simp [crB, bi, setL_s, setL_t, setL_0, dropL_0, dropL_c, *]; done) | (simp only [crB, bi, setL_s, setL_t, setL_0, dropL_0, dropL_c]; (repeat' split) <;> first | with_reducible rfl | contradiction | (exfalso; omega) | (simp_all; done)) | rfl) (by first | with_reducible rfl | (simp [crB, bi, setL_s, setL_t, setL_0, dropL_0, dropL_c, *]; done) | (simp only [crB, bi, setL_s, setL_t, setL_0, dropL_0, dropL_c]; (repeat' split) <;> first | with_reducible rfl | contradiction | (exfalso; omega) | (simp_all; done)) | rfl)
  · skip
    refine ro_aload_n (i := 0) (q := 12) hX dX3_canRecall_11 rfl rfl rfl ?_
    refine ro_iconst (v := nI 0) (q := 13) hX dX3_canRecall_12 rfl rfl ?_
    refine ro_iload_n (i := 1) (q := 14) hX dX3_canRecall_13 rfl rfl rfl ?_
    refine ro_iconst (v := nI 1) (q := 15) hX dX3_canRecall_14 rfl rfl ?_
    refine ro_callVi (q9 := 18) hX (m_of (by omega) (by omega) (by omega)) mw_X3_of kl_X3_36 (by decide) (fun cy => cell3 (by decide +kernel)) rfl rfl rfl (Nat.le_of_ble_eq_true rfl) ⟨Nat.le_of_ble_eq_true rfl, Nat.le_of_ble_eq_true rfl⟩ dX3_canRecall_15 ⟨Nat.le_of_ble_eq_true rfl, Nat.le_of_ble_eq_true rfl⟩ rfl ?_
    refine ro_iconst (v := nI 1) (q := 19) hX dX3_canRecall_18 rfl rfl ?_
    refine ro_icmp_ne (tgt := 26) (q := 22) hX dX3_canRecall_19 (by decide) rfl (fun q2 => ?_) (fun q2 => ?_)
    · skip
      refine ro_iconst (v := nI 0) (q := 27) hX dX3_canRecall_26 rfl rfl ?_
      exact fin_z hF (Nat.le_of_ble_eq_true rfl) (Nat.le_of_ble_eq_true rfl) dX3_canRecall_27 rfl (by first | with_reducible rfl | (simp [crB, bi, setL_s, setL_t, setL_0, dropL_0, dropL_c, *]; done) | (simp only [crB, bi, setL_s, setL_t, setL_0, dropL_0, dropL_c]; (repeat' split) <;> first | with_reducible rfl | contradiction | (exfalso; omega) | (simp_all; done)) | rfl) (by first | with_reducible rfl | (simp [crB, bi, setL_s, setL_t, setL_0, dropL_0, dropL_c, *]; done) | (simp only [crB, bi, setL_s, setL_t, setL_0, dropL_0, dropL_c]; (repeat' split) <;> first | with_reducible rfl | contradiction | (exfalso; omega) | (simp_all; done)) | rfl)
    · skip
      refine ro_iconst (v := nI 1) (q := 23) hX dX3_canRecall_22 rfl rfl ?_
      refine ro_goto (tgt := 27) hX dX3_canRecall_23 (by decide) ?_
      exact fin_z hF (Nat.le_of_ble_eq_true rfl) (Nat.le_of_ble_eq_true rfl) dX3_canRecall_27 rfl (by first | with_reducible rfl | (simp [crB, bi, setL_s, setL_t, setL_0, dropL_0, dropL_c, *]; done) | (simp only [crB, bi, setL_s, setL_t, setL_0, dropL_0, dropL_c]; (repeat' split) <;> first | with_reducible rfl | contradiction | (exfalso; omega) | (simp_all; done)) | rfl) (by first | with_reducible rfl | (simp [crB, bi, setL_s, setL_t, setL_0, dropL_0, dropL_c, *]; done) | (simp only [crB, bi, setL_s, setL_t, setL_0, dropL_0, dropL_c]; (repeat' split) <;> first | with_reducible rfl | contradiction | (exfalso; omega) | (simp_all; done)) | rfl)
set_option maxRecDepth 20000 in
set_option maxHeartbeats 2000000 in
theorem m_canDisconnect {h : Nat} (hh : h < 6) : Does sz I_X3_canDisconnect [.ref (sz + 75), .int (nI h)] (patch G 75 4 (mS F s), T) 0 0 (.inl (some (bi (cdB s h)))) (patch G 75 4 (mS F s), T) := by
  refine Does.of (L := [(0, .ref (sz + 75)), (1, .int (nI h))]) (by decide +kernel) (Nat.le_of_ble_eq_true rfl) rfl ⟨rfl, (by simp), ⟨rfl, (by simp), trivial⟩⟩ (fun VV hF => ?_)
  have hX := hF.c
  refine ro_aload_n (i := 0) (q := 1) hX dX3_canDisconnect_0 rfl rfl rfl ?_
  refine ro_iconst (v := nI 0) (q := 2) hX dX3_canDisconnect_1 rfl rfl ?_
  refine ro_iload_n (i := 1) (q := 3) hX dX3_canDisconnect_2 rfl rfl rfl ?_
  refine ro_iconst (v := nI 0) (q := 4) hX dX3_canDisconnect_3 rfl rfl ?_
  refine ro_callVi (q9 := 7) hX (m_of (by omega) (by omega) (by omega)) mw_X3_of kl_X3_36 (by decide) (fun cy => cell3 (by decide +kernel)) rfl rfl rfl (Nat.le_of_ble_eq_true rfl) ⟨Nat.le_of_ble_eq_true rfl, Nat.le_of_ble_eq_true rfl⟩ dX3_canDisconnect_4 ⟨Nat.le_of_ble_eq_true rfl, Nat.le_of_ble_eq_true rfl⟩ rfl ?_
  refine ro_if_eq (tgt := 25) (q := 10) hX dX3_canDisconnect_7 (by decide) rfl (fun q1 => ?_) (fun q1 => ?_)
  · skip
    refine ro_iconst (v := nI 0) (q := 26) hX dX3_canDisconnect_25 rfl rfl ?_
    exact fin_z hF (Nat.le_of_ble_eq_true rfl) (Nat.le_of_ble_eq_true rfl) dX3_canDisconnect_26 rfl (by first | with_reducible rfl | (simp [cdB, bi, setL_s, setL_t, setL_0, dropL_0, dropL_c, *]; done) | (simp only [cdB, bi, setL_s, setL_t, setL_0, dropL_0, dropL_c]; (repeat' split) <;> first | with_reducible rfl | contradiction | (exfalso; omega) | (simp_all; done)) | rfl) (by first | with_reducible rfl | (simp [cdB, bi, setL_s, setL_t, setL_0, dropL_0, dropL_c, *]; done) | (simp only [cdB, bi, setL_s, setL_t, setL_0, dropL_0, dropL_c]; (repeat' split) <;> first | with_reducible rfl | contradiction | (exfalso; omega) | (simp_all; done)) | rfl)
  · skip
    refine ro_aload_n (i := 0) (q := 11) hX dX3_canDisconnect_10 rfl rfl rfl ?_
    refine ro_iconst (v := nI 0) (q := 12) hX dX3_canDisconnect_11 rfl rfl ?_
    refine ro_iload_n (i := 1) (q := 13) hX dX3_canDisconnect_12 rfl rfl rfl ?_
    refine ro_iconst (v := nI 1) (q := 14) hX dX3_canDisconnect_13 rfl rfl ?_
    refine ro_callVi (q9 := 17) hX (m_of (by omega) (by omega) (by omega)) mw_X3_of kl_X3_36 (by decide) (fun cy => cell3 (by decide +kernel)) rfl rfl rfl (Nat.le_of_ble_eq_true rfl) ⟨Nat.le_of_ble_eq_true rfl, Nat.le_of_ble_eq_true rfl⟩ dX3_canDisconnect_14 ⟨Nat.le_of_ble_eq_true rfl, Nat.le_of_ble_eq_true rfl⟩ rfl ?_
    refine ro_iconst (v := nI 1) (q := 18) hX dX3_canDisconnect_17 rfl rfl ?_
    refine ro_icmp_ne (tgt := 25) (q := 21) hX dX3_canDisconnect_18 (by decide) rfl (fun q2 => ?_) (fun q2 => ?_)
    · skip
      refine ro_iconst (v := nI 0) (q := 26) hX dX3_canDisconnect_25 rfl rfl ?_
      exact fin_z hF (Nat.le_of_ble_eq_true rfl) (Nat.le_of_ble_eq_true rfl) dX3_canDisconnect_26 rfl (by first | with_reducible rfl | (simp [cdB, bi, setL_s, setL_t, setL_0, dropL_0, dropL_c, *]; done) | (simp only [cdB, bi, setL_s, setL_t, setL_0, dropL_0, dropL_c]; (repeat' split) <;> first | with_reducible rfl | contradiction | (exfalso; omega) | (simp_all; done)) | rfl) (by first | with_reducible rfl | (simp [cdB, bi, setL_s, setL_t, setL_0, dropL_0, dropL_c, *]; done) | (simp only [cdB, bi, setL_s, setL_t, setL_0, dropL_0, dropL_c]; (repeat' split) <;> first | with_reducible rfl | contradiction | (exfalso; omega) | (simp_all; done)) | rfl)
    · skip
      refine ro_iconst (v := nI 1) (q := 22) hX dX3_canDisconnect_21 rfl rfl ?_
      refine ro_goto (tgt := 26) hX dX3_canDisconnect_22 (by decide) ?_
      exact fin_z hF (Nat.le_of_ble_eq_true rfl) (Nat.le_of_ble_eq_true rfl) dX3_canDisconnect_26 rfl (by first | with_reducible rfl | (simp [cdB, bi, setL_s, setL_t, setL_0, dropL_0, dropL_c, *]; done) | (simp only [cdB, bi, setL_s, setL_t, setL_0, dropL_0, dropL_c]; (repeat' split) <;> first | with_reducible rfl | contradiction | (exfalso; omega) | (simp_all; done)) | rfl) (by first | with_reducible rfl | (simp [cdB, bi, setL_s, setL_t, setL_0, dropL_0, dropL_c, *]; done) | (simp only [cdB, bi, setL_s, setL_t, setL_0, dropL_0, dropL_c]; (repeat' split) <;> first | with_reducible rfl | contradiction | (exfalso; omega) | (simp_all; done)) | rfl)
set_option maxRecDepth 20000 in
set_option maxHeartbeats 2000000 in
theorem m_lends {h : Nat} (hh : h < 6) {x : Int32} : Does sz I_X3_lends [.ref (sz + 75), .int (nI h), .int x] (patch G 75 4 (mS F s), T) 0 0 (.inl (some (leL (le1 s h x) 6))) (patch G 75 4 (mS F (seM (le1 s h x) 0)), T) := by
  refine Does.of (L := [(0, .ref (sz + 75)), (1, .int (nI h)), (2, .int x)]) (by decide +kernel) (Nat.le_of_ble_eq_true rfl) rfl ⟨rfl, (by simp), ⟨rfl, (by simp), ⟨rfl, (by simp), trivial⟩⟩⟩ (fun VV hF => ?_)
  have hX := hF.c
  refine ro_aload_n (i := 0) (q := 1) hX dX3_lends_0 rfl rfl rfl ?_
  refine ro_iconst (v := nI 0) (q := 2) hX dX3_lends_1 rfl rfl ?_
  refine ro_iload_n (i := 1) (q := 3) hX dX3_lends_2 rfl rfl rfl ?_
  refine ro_iconst (v := nI 0) (q := 4) hX dX3_lends_3 rfl rfl ?_
  refine ro_iconst (v := nI 1) (q := 5) hX dX3_lends_4 rfl rfl ?_
  refine ro_callVv (q9 := 8) hX (m_lay (by omega) (by omega) (by omega)) mw_X3_lay kl_X3_72 (by decide) (fun cy => cell3 (by decide +kernel)) rfl rfl rfl (Nat.le_of_ble_eq_true rfl) ⟨Nat.le_of_ble_eq_true rfl, Nat.le_of_ble_eq_true rfl⟩ dX3_lends_5 ⟨Nat.le_of_ble_eq_true rfl, Nat.le_of_ble_eq_true rfl⟩ rfl ?_
  refine ro_aload_n (i := 0) (q := 9) hX dX3_lends_8 rfl rfl rfl ?_
  refine ro_iconst (v := nI 0) (q := 10) hX dX3_lends_9 rfl rfl ?_
  refine ro_iload_n (i := 1) (q := 11) hX dX3_lends_10 rfl rfl rfl ?_
  refine ro_iconst (v := nI 2) (q := 12) hX dX3_lends_11 rfl rfl ?_
  refine ro_iload_n (i := 2) (q := 13) hX dX3_lends_12 rfl rfl rfl ?_
  refine ro_callVv (q9 := 16) hX (m_lay (by omega) (by omega) (by omega)) mw_X3_lay kl_X3_72 (by decide) (fun cy => cell3 (by decide +kernel)) rfl rfl rfl (Nat.le_of_ble_eq_true rfl) ⟨Nat.le_of_ble_eq_true rfl, Nat.le_of_ble_eq_true rfl⟩ dX3_lends_13 ⟨Nat.le_of_ble_eq_true rfl, Nat.le_of_ble_eq_true rfl⟩ rfl ?_
  refine ro_iconst (v := nI 0) (q := 17) hX dX3_lends_16 rfl rfl ?_
  refine ro_istore_n (i := 3) (q := 18) hX dX3_lends_17 rfl (Nat.le_of_ble_eq_true rfl) rfl ?_
  refine ro_iconst (v := nI 0) (q := 19) hX dX3_lends_18 rfl rfl ?_
  refine ro_istore (i := 4) (q := 21) hX dX3_lends_19 (Nat.le_of_ble_eq_true rfl) rfl ?_
  refine vv_LM (L' := [(0, .ref (sz + 75)), (1, .int (nI h)), (2, .int (x)), (3, .int (leL (le1 s h x) 0)), (4, .int (nI 0))]) (M' := (patch G 75 4 (mS F (le1 s h x)), T)) (by rfl) (by rfl) ?_
  refine down_ind (P := fun k21 => VV 0 0 21 [(0, .ref (sz + 75)), (1, .int (nI h)), (2, .int (x)), (3, .int (leL (le1 s h x) k21)), (4, .int (nI k21))] [] (patch G 75 4 (mS F (le1 s h x)), T)) (6) (fun k21 hk21 ih21 => ?_) ?_
  · have ih21 : VV 0 0 21 [(0, .ref (sz + 75)), (1, .int (nI h)), (2, .int (x)), (3, .int (leL (le1 s h x) (k21 + 1))), (4, .int (nI (k21 + 1)))] [] (patch G 75 4 (mS F (le1 s h x)), T) := ih21
    show VV 0 0 21 [(0, .ref (sz + 75)), (1, .int (nI h)), (2, .int (x)), (3, .int (leL (le1 s h x) k21)), (4, .int (nI k21))] [] (patch G 75 4 (mS F (le1 s h x)), T)
    refine ro_iload (i := 4) (q := 23) hX dX3_lends_21 rfl rfl ?_
    refine ro_bipush (v := nI 6) (q := 25) hX dX3_lends_23 rfl rfl ?_
    refine ro_icmp_ge (tgt := 44) (q := 28) hX dX3_lends_25 (by decide) rfl (fun q => absurd q (by first | exact ni_nle (by omega) (by omega) | exact ni_lt (by omega) (by omega))) (fun _ => ?_)
    refine ro_iload_n (i := 3) (q := 29) hX dX3_lends_28 rfl rfl rfl ?_
    refine ro_aload_n (i := 0) (q := 30) hX dX3_lends_29 rfl rfl rfl ?_
    refine ro_iconst (v := nI 0) (q := 31) hX dX3_lends_30 rfl rfl ?_
    refine ro_iload (i := 4) (q := 33) hX dX3_lends_31 rfl rfl ?_
    refine ro_callVi (q9 := 36) hX (m_free (by omega) (by omega)) mw_X3_free kl_X3_46 (by decide) (fun cy => cell3 (by decide +kernel)) rfl rfl rfl (Nat.le_of_ble_eq_true rfl) ⟨Nat.le_of_ble_eq_true rfl, Nat.le_of_ble_eq_true rfl⟩ dX3_lends_33 ⟨Nat.le_of_ble_eq_true rfl, Nat.le_of_ble_eq_true rfl⟩ rfl ?_
    refine ro_iadd (q := 37) hX dX3_lends_36 rfl ?_
    refine ro_istore_n (i := 3) (q := 38) hX dX3_lends_37 rfl (Nat.le_of_ble_eq_true rfl) rfl ?_
    refine ro_iinc (i := 4) (v := nI (k21 + 1)) (q := 41) hX dX3_lends_38 rfl (ni_inc _) (Nat.le_of_ble_eq_true rfl) rfl ?_
    refine ro_goto (tgt := 21) hX dX3_lends_41 (by decide) ?_
    exact vv_LM (by rfl) (by rfl) ih21
  · show VV 0 0 21 [(0, .ref (sz + 75)), (1, .int (nI h)), (2, .int (x)), (3, .int (leL (le1 s h x) 6)), (4, .int (nI 6))] [] (patch G 75 4 (mS F (le1 s h x)), T)
    refine ro_iload (i := 4) (q := 23) hX dX3_lends_21 rfl rfl ?_
    refine ro_bipush (v := nI 6) (q := 25) hX dX3_lends_23 rfl rfl ?_
    refine ro_icmp_ge (tgt := 44) (q := 28) hX dX3_lends_25 (by decide) rfl (fun _ => ?_) (fun q => absurd (by decide) q)
    refine ro_aload_n (i := 0) (q := 45) hX dX3_lends_44 rfl rfl rfl ?_
    refine ro_iconst (v := nI 0) (q := 46) hX dX3_lends_45 rfl rfl ?_
    refine ro_callVv (q9 := 49) hX (m_settles (by omega)) mw_X3_settles kl_X3_89 (by decide) (fun cy => cell3 (by decide +kernel)) rfl rfl rfl (Nat.le_of_ble_eq_true rfl) ⟨Nat.le_of_ble_eq_true rfl, Nat.le_of_ble_eq_true rfl⟩ dX3_lends_46 ⟨Nat.le_of_ble_eq_true rfl, Nat.le_of_ble_eq_true rfl⟩ rfl ?_
    refine ro_iload_n (i := 3) (q := 50) hX dX3_lends_49 rfl rfl rfl ?_
    exact fin_i hF (Nat.le_of_ble_eq_true rfl) (Nat.le_of_ble_eq_true rfl) dX3_lends_50 (by rfl) (by rfl)
set_option maxRecDepth 20000 in
set_option maxHeartbeats 2000000 in
theorem m_recalls {h : Nat} (hh : h < 6) {x : Int32} : Does sz I_X3_recalls [.ref (sz + 75), .int (nI h), .int x] (patch G 75 4 (mS F s), T) 0 0 (.inl (some (nI (hdM (re1 s h x) 0 h)))) (patch G 75 4 (mS F (seM (re1 s h x) 0)), T) := by
  refine Does.of (L := [(0, .ref (sz + 75)), (1, .int (nI h)), (2, .int x)]) (by decide +kernel) (Nat.le_of_ble_eq_true rfl) rfl ⟨rfl, (by simp), ⟨rfl, (by simp), ⟨rfl, (by simp), trivial⟩⟩⟩ (fun VV hF => ?_)
  have hX := hF.c
  refine ro_aload_n (i := 0) (q := 1) hX dX3_recalls_0 rfl rfl rfl ?_
  refine ro_iconst (v := nI 0) (q := 2) hX dX3_recalls_1 rfl rfl ?_
  refine ro_iload_n (i := 1) (q := 3) hX dX3_recalls_2 rfl rfl rfl ?_
  refine ro_iconst (v := nI 0) (q := 4) hX dX3_recalls_3 rfl rfl ?_
  refine ro_iconst (v := nI 2) (q := 5) hX dX3_recalls_4 rfl rfl ?_
  refine ro_callVv (q9 := 8) hX (m_lay (by omega) (by omega) (by omega)) mw_X3_lay kl_X3_72 (by decide) (fun cy => cell3 (by decide +kernel)) rfl rfl rfl (Nat.le_of_ble_eq_true rfl) ⟨Nat.le_of_ble_eq_true rfl, Nat.le_of_ble_eq_true rfl⟩ dX3_recalls_5 ⟨Nat.le_of_ble_eq_true rfl, Nat.le_of_ble_eq_true rfl⟩ rfl ?_
  refine ro_aload_n (i := 0) (q := 9) hX dX3_recalls_8 rfl rfl rfl ?_
  refine ro_iconst (v := nI 0) (q := 10) hX dX3_recalls_9 rfl rfl ?_
  refine ro_iload_n (i := 1) (q := 11) hX dX3_recalls_10 rfl rfl rfl ?_
  refine ro_iconst (v := nI 3) (q := 12) hX dX3_recalls_11 rfl rfl ?_
  refine ro_aload_n (i := 0) (q := 13) hX dX3_recalls_12 rfl rfl rfl ?_
  refine ro_Nga1 (q9 := 16) hX kf_X3_7 dX3_recalls_13 rfl ?_
  refine ro_iconst (v := nI 0) (q := 17) hX dX3_recalls_16 rfl rfl ?_
  refine ro_Nsld (n := 0) (q9 := 18) hX rfl (by omega) dX3_recalls_17 rfl ?_
  refine ro_iload_n (i := 2) (q := 19) hX dX3_recalls_18 rfl rfl rfl ?_
  refine ro_iadd (q := 20) hX dX3_recalls_19 rfl ?_
  refine ro_callVv (q9 := 23) hX (m_lay (by omega) (by omega) (by omega)) mw_X3_lay kl_X3_72 (by decide) (fun cy => cell3 (by decide +kernel)) rfl rfl rfl (Nat.le_of_ble_eq_true rfl) ⟨Nat.le_of_ble_eq_true rfl, Nat.le_of_ble_eq_true rfl⟩ dX3_recalls_20 ⟨Nat.le_of_ble_eq_true rfl, Nat.le_of_ble_eq_true rfl⟩ rfl ?_
  refine ro_aload_n (i := 0) (q := 24) hX dX3_recalls_23 rfl rfl rfl ?_
  refine ro_iconst (v := nI 0) (q := 25) hX dX3_recalls_24 rfl rfl ?_
  refine ro_iload_n (i := 1) (q := 26) hX dX3_recalls_25 rfl rfl rfl ?_
  refine ro_iconst (v := nI 0) (q := 27) hX dX3_recalls_26 rfl rfl ?_
  refine ro_callVv (q9 := 30) hX (m_cancels_0 (by omega) (by omega)) mw_X3_cancels kl_X3_85 (by decide) (fun cy => cell3 (by decide +kernel)) rfl rfl rfl (Nat.le_of_ble_eq_true rfl) ⟨Nat.le_of_ble_eq_true rfl, Nat.le_of_ble_eq_true rfl⟩ dX3_recalls_27 ⟨Nat.le_of_ble_eq_true rfl, Nat.le_of_ble_eq_true rfl⟩ rfl ?_
  refine ro_aload_n (i := 0) (q := 31) hX dX3_recalls_30 rfl rfl rfl ?_
  refine ro_iconst (v := nI 0) (q := 32) hX dX3_recalls_31 rfl rfl ?_
  refine ro_iload_n (i := 1) (q := 33) hX dX3_recalls_32 rfl rfl rfl ?_
  refine ro_callVi (q9 := 36) hX (m_held (by omega) (by omega)) mw_X3_held kl_X3_39 (by decide) (fun cy => cell3 (by decide +kernel)) rfl rfl rfl (Nat.le_of_ble_eq_true rfl) ⟨Nat.le_of_ble_eq_true rfl, Nat.le_of_ble_eq_true rfl⟩ dX3_recalls_33 ⟨Nat.le_of_ble_eq_true rfl, Nat.le_of_ble_eq_true rfl⟩ rfl ?_
  refine ro_istore_n (i := 3) (q := 37) hX dX3_recalls_36 rfl (Nat.le_of_ble_eq_true rfl) rfl ?_
  refine ro_aload_n (i := 0) (q := 38) hX dX3_recalls_37 rfl rfl rfl ?_
  refine ro_iconst (v := nI 0) (q := 39) hX dX3_recalls_38 rfl rfl ?_
  refine ro_callVv (q9 := 42) hX (m_settles (by omega)) mw_X3_settles kl_X3_89 (by decide) (fun cy => cell3 (by decide +kernel)) rfl rfl rfl (Nat.le_of_ble_eq_true rfl) ⟨Nat.le_of_ble_eq_true rfl, Nat.le_of_ble_eq_true rfl⟩ dX3_recalls_39 ⟨Nat.le_of_ble_eq_true rfl, Nat.le_of_ble_eq_true rfl⟩ rfl ?_
  refine ro_iload_n (i := 3) (q := 43) hX dX3_recalls_42 rfl rfl rfl ?_
  exact fin_i hF (Nat.le_of_ble_eq_true rfl) (Nat.le_of_ble_eq_true rfl) dX3_recalls_43 (by rfl) (by rfl)
set_option maxRecDepth 20000 in
set_option maxHeartbeats 2000000 in
theorem m_disconnects {h : Nat} (hh : h < 6) : Does sz I_X3_disconnects [.ref (sz + 75), .int (nI h)] (patch G 75 4 (mS F s), T) 0 0 (.inl (some (nI (hdM (di1 s h) 0 h)))) (patch G 75 4 (mS F (seM (di1 s h) 0)), T) := by
  refine Does.of (L := [(0, .ref (sz + 75)), (1, .int (nI h))]) (by decide +kernel) (Nat.le_of_ble_eq_true rfl) rfl ⟨rfl, (by simp), ⟨rfl, (by simp), trivial⟩⟩ (fun VV hF => ?_)
  have hX := hF.c
  refine ro_aload_n (i := 0) (q := 1) hX dX3_disconnects_0 rfl rfl rfl ?_
  refine ro_iconst (v := nI 0) (q := 2) hX dX3_disconnects_1 rfl rfl ?_
  refine ro_iload_n (i := 1) (q := 3) hX dX3_disconnects_2 rfl rfl rfl ?_
  refine ro_iconst (v := nI 1) (q := 4) hX dX3_disconnects_3 rfl rfl ?_
  refine ro_iconst (v := nI 0) (q := 5) hX dX3_disconnects_4 rfl rfl ?_
  refine ro_callVv (q9 := 8) hX (m_lay (by omega) (by omega) (by omega)) mw_X3_lay kl_X3_72 (by decide) (fun cy => cell3 (by decide +kernel)) rfl rfl rfl (Nat.le_of_ble_eq_true rfl) ⟨Nat.le_of_ble_eq_true rfl, Nat.le_of_ble_eq_true rfl⟩ dX3_disconnects_5 ⟨Nat.le_of_ble_eq_true rfl, Nat.le_of_ble_eq_true rfl⟩ rfl ?_
  refine ro_aload_n (i := 0) (q := 9) hX dX3_disconnects_8 rfl rfl rfl ?_
  refine ro_iconst (v := nI 0) (q := 10) hX dX3_disconnects_9 rfl rfl ?_
  refine ro_iload_n (i := 1) (q := 11) hX dX3_disconnects_10 rfl rfl rfl ?_
  refine ro_iconst (v := nI 1) (q := 12) hX dX3_disconnects_11 rfl rfl ?_
  refine ro_callVv (q9 := 15) hX (m_cancels_1 (by omega) (by omega)) mw_X3_cancels kl_X3_85 (by decide) (fun cy => cell3 (by decide +kernel)) rfl rfl rfl (Nat.le_of_ble_eq_true rfl) ⟨Nat.le_of_ble_eq_true rfl, Nat.le_of_ble_eq_true rfl⟩ dX3_disconnects_12 ⟨Nat.le_of_ble_eq_true rfl, Nat.le_of_ble_eq_true rfl⟩ rfl ?_
  refine ro_aload_n (i := 0) (q := 16) hX dX3_disconnects_15 rfl rfl rfl ?_
  refine ro_iconst (v := nI 0) (q := 17) hX dX3_disconnects_16 rfl rfl ?_
  refine ro_iload_n (i := 1) (q := 18) hX dX3_disconnects_17 rfl rfl rfl ?_
  refine ro_callVi (q9 := 21) hX (m_held (by omega) (by omega)) mw_X3_held kl_X3_39 (by decide) (fun cy => cell3 (by decide +kernel)) rfl rfl rfl (Nat.le_of_ble_eq_true rfl) ⟨Nat.le_of_ble_eq_true rfl, Nat.le_of_ble_eq_true rfl⟩ dX3_disconnects_18 ⟨Nat.le_of_ble_eq_true rfl, Nat.le_of_ble_eq_true rfl⟩ rfl ?_
  refine ro_istore_n (i := 2) (q := 22) hX dX3_disconnects_21 rfl (Nat.le_of_ble_eq_true rfl) rfl ?_
  refine ro_aload_n (i := 0) (q := 23) hX dX3_disconnects_22 rfl rfl rfl ?_
  refine ro_iconst (v := nI 0) (q := 24) hX dX3_disconnects_23 rfl rfl ?_
  refine ro_callVv (q9 := 27) hX (m_settles (by omega)) mw_X3_settles kl_X3_89 (by decide) (fun cy => cell3 (by decide +kernel)) rfl rfl rfl (Nat.le_of_ble_eq_true rfl) ⟨Nat.le_of_ble_eq_true rfl, Nat.le_of_ble_eq_true rfl⟩ dX3_disconnects_24 ⟨Nat.le_of_ble_eq_true rfl, Nat.le_of_ble_eq_true rfl⟩ rfl ?_
  refine ro_iload_n (i := 2) (q := 28) hX dX3_disconnects_27 rfl rfl rfl ?_
  exact fin_i hF (Nat.le_of_ble_eq_true rfl) (Nat.le_of_ble_eq_true rfl) dX3_disconnects_28 (by rfl) (by rfl)
set_option maxRecDepth 20000 in
set_option maxHeartbeats 2000000 in
theorem m_reconnects {h : Nat} (hh : h < 6) : Does sz I_X3_reconnects [.ref (sz + 75), .int (nI h)] (patch G 75 4 (mS F s), T) 0 0 (.inl (some (nI (rcL (rc1 s h) h 30).2))) (patch G 75 4 (mS F (seM (rcL (rc1 s h) h 30).1 0)), T) := by
  refine Does.of (L := [(0, .ref (sz + 75)), (1, .int (nI h))]) (by decide +kernel) (Nat.le_of_ble_eq_true rfl) rfl ⟨rfl, (by simp), ⟨rfl, (by simp), trivial⟩⟩ (fun VV hF => ?_)
  have hX := hF.c
  refine ro_aload_n (i := 0) (q := 1) hX dX3_reconnects_0 rfl rfl rfl ?_
  refine ro_iconst (v := nI 0) (q := 2) hX dX3_reconnects_1 rfl rfl ?_
  refine ro_iload_n (i := 1) (q := 3) hX dX3_reconnects_2 rfl rfl rfl ?_
  refine ro_iconst (v := nI 1) (q := 4) hX dX3_reconnects_3 rfl rfl ?_
  refine ro_iconst (v := nI 1) (q := 5) hX dX3_reconnects_4 rfl rfl ?_
  refine ro_callVv (q9 := 8) hX (m_lay (by omega) (by omega) (by omega)) mw_X3_lay kl_X3_72 (by decide) (fun cy => cell3 (by decide +kernel)) rfl rfl rfl (Nat.le_of_ble_eq_true rfl) ⟨Nat.le_of_ble_eq_true rfl, Nat.le_of_ble_eq_true rfl⟩ dX3_reconnects_5 ⟨Nat.le_of_ble_eq_true rfl, Nat.le_of_ble_eq_true rfl⟩ rfl ?_
  refine ro_iconst (v := nI 0) (q := 9) hX dX3_reconnects_8 rfl rfl ?_
  refine ro_istore_n (i := 2) (q := 10) hX dX3_reconnects_9 rfl (Nat.le_of_ble_eq_true rfl) rfl ?_
  refine ro_iconst (v := nI 0) (q := 11) hX dX3_reconnects_10 rfl rfl ?_
  refine ro_istore_n (i := 3) (q := 12) hX dX3_reconnects_11 rfl (Nat.le_of_ble_eq_true rfl) rfl ?_
  refine vv_LM (L' := [(0, .ref (sz + 75)), (1, .int (nI h)), (2, .int (nI (rcL (rc1 s h) h 0).2)), (3, .int (nI 0))]) (M' := (patch G 75 4 (mS F ((rcL (rc1 s h) h 0).1)), T)) (by rfl) (by rfl) ?_
  refine down_ind (P := fun k12 => VV 0 0 12 [(0, .ref (sz + 75)), (1, .int (nI h)), (2, .int (nI (rcL (rc1 s h) h k12).2)), (3, .int (nI k12))] [] (patch G 75 4 (mS F ((rcL (rc1 s h) h k12).1)), T)) (30) (fun k12 hk12 ih12 => ?_) ?_
  · have ih12 : VV 0 0 12 [(0, .ref (sz + 75)), (1, .int (nI h)), (2, .int (nI (rcL (rc1 s h) h (k12 + 1)).2)), (3, .int (nI (k12 + 1)))] [] (patch G 75 4 (mS F ((rcL (rc1 s h) h (k12 + 1)).1)), T) := ih12
    show VV 0 0 12 [(0, .ref (sz + 75)), (1, .int (nI h)), (2, .int (nI (rcL (rc1 s h) h k12).2)), (3, .int (nI k12))] [] (patch G 75 4 (mS F ((rcL (rc1 s h) h k12).1)), T)
    refine ro_iload_n (i := 3) (q := 13) hX dX3_reconnects_12 rfl rfl rfl ?_
    refine ro_bipush (v := nI 30) (q := 15) hX dX3_reconnects_13 rfl rfl ?_
    refine ro_icmp_ge (tgt := 111) (q := 18) hX dX3_reconnects_15 (by decide) rfl (fun q => absurd q (by first | exact ni_nle (by omega) (by omega) | exact ni_lt (by omega) (by omega))) (fun _ => ?_)
    refine ro_aload_n (i := 0) (q := 19) hX dX3_reconnects_18 rfl rfl rfl ?_
    refine ro_iconst (v := nI 0) (q := 20) hX dX3_reconnects_19 rfl rfl ?_
    refine ro_iload_n (i := 3) (q := 21) hX dX3_reconnects_20 rfl rfl rfl ?_
    refine ro_callVi (q9 := 24) hX (m_copiesOf (by omega) (by omega)) mw_X3_copiesOf kl_X3_49 (by decide) (fun cy => cell3 (by decide +kernel)) rfl rfl rfl (Nat.le_of_ble_eq_true rfl) ⟨Nat.le_of_ble_eq_true rfl, Nat.le_of_ble_eq_true rfl⟩ dX3_reconnects_21 ⟨Nat.le_of_ble_eq_true rfl, Nat.le_of_ble_eq_true rfl⟩ rfl ?_
    refine ro_bipush (v := nI 63) (q := 26) hX dX3_reconnects_24 rfl rfl ?_
    refine ro_iconst (v := nI 1) (q := 27) hX dX3_reconnects_26 rfl rfl ?_
    refine ro_iload_n (i := 1) (q := 28) hX dX3_reconnects_27 rfl rfl rfl ?_
    refine ro_ishl (q := 29) hX dX3_reconnects_28 rfl ?_
    refine ro_isub (q := 30) hX dX3_reconnects_29 rfl ?_
    refine ro_iand (q := 31) hX dX3_reconnects_30 rfl ?_
    refine ro_istore (i := 4) (q := 33) hX dX3_reconnects_31 (Nat.le_of_ble_eq_true rfl) rfl ?_
    refine ro_aload_n (i := 0) (q := 34) hX dX3_reconnects_33 rfl rfl rfl ?_
    refine ro_iconst (v := nI 0) (q := 35) hX dX3_reconnects_34 rfl rfl ?_
    refine ro_iload_n (i := 1) (q := 36) hX dX3_reconnects_35 rfl rfl rfl ?_
    refine ro_iload_n (i := 3) (q := 37) hX dX3_reconnects_36 rfl rfl rfl ?_
    refine ro_callVi (q9 := 40) hX (m_replicaOf (by omega) (by omega) (by omega)) mw_X3_replicaOf kl_X3_32 (by decide) (fun cy => cell3 (by decide +kernel)) rfl rfl rfl (Nat.le_of_ble_eq_true rfl) ⟨Nat.le_of_ble_eq_true rfl, Nat.le_of_ble_eq_true rfl⟩ dX3_reconnects_37 ⟨Nat.le_of_ble_eq_true rfl, Nat.le_of_ble_eq_true rfl⟩ rfl ?_
    refine ro_if_le (tgt := 66) (q := 43) hX dX3_reconnects_40 (by decide) rfl (fun q1 => ?_) (fun q1 => ?_)
    · skip
      refine ro_iconst (v := nI 0) (q := 67) hX dX3_reconnects_66 rfl rfl ?_
      refine ro_istore (i := 5) (q := 69) hX dX3_reconnects_67 (Nat.le_of_ble_eq_true rfl) rfl ?_
      refine ro_aload_n (i := 0) (q := 70) hX dX3_reconnects_69 rfl rfl rfl ?_
      refine ro_iconst (v := nI 0) (q := 71) hX dX3_reconnects_70 rfl rfl ?_
      refine ro_iload_n (i := 1) (q := 72) hX dX3_reconnects_71 rfl rfl rfl ?_
      refine ro_iload_n (i := 3) (q := 73) hX dX3_reconnects_72 rfl rfl rfl ?_
      refine ro_iload (i := 5) (q := 75) hX dX3_reconnects_73 rfl rfl ?_
      refine ro_if_eq (tgt := 82) (q := 78) hX dX3_reconnects_75 (by decide) rfl (fun _ => ?_) (fun q => absurd (by decide) q)
      refine ro_aload_n (i := 0) (q := 83) hX dX3_reconnects_82 rfl rfl rfl ?_
      refine ro_iconst (v := nI 0) (q := 84) hX dX3_reconnects_83 rfl rfl ?_
      refine ro_iload_n (i := 1) (q := 85) hX dX3_reconnects_84 rfl rfl rfl ?_
      refine ro_iload_n (i := 3) (q := 86) hX dX3_reconnects_85 rfl rfl rfl ?_
      refine ro_callVi (q9 := 89) hX (m_replicaOf (by omega) (by omega) (by omega)) mw_X3_replicaOf kl_X3_32 (by decide) (fun cy => cell3 (by decide +kernel)) rfl rfl rfl (Nat.le_of_ble_eq_true rfl) ⟨Nat.le_of_ble_eq_true rfl, Nat.le_of_ble_eq_true rfl⟩ dX3_reconnects_86 ⟨Nat.le_of_ble_eq_true rfl, Nat.le_of_ble_eq_true rfl⟩ rfl ?_
      refine ro_callVv (q9 := 92) hX (m_layReplica (by omega) (by omega) (by omega)) mw_X3_layReplica kl_X3_62 (by decide) (fun cy => cell3 (by decide +kernel)) rfl rfl rfl (Nat.le_of_ble_eq_true rfl) ⟨Nat.le_of_ble_eq_true rfl, Nat.le_of_ble_eq_true rfl⟩ dX3_reconnects_89 ⟨Nat.le_of_ble_eq_true rfl, Nat.le_of_ble_eq_true rfl⟩ rfl ?_
      refine ro_iload_n (i := 2) (q := 93) hX dX3_reconnects_92 rfl rfl rfl ?_
      refine ro_iload (i := 5) (q := 95) hX dX3_reconnects_93 rfl rfl ?_
      refine ro_if_eq (tgt := 102) (q := 98) hX dX3_reconnects_95 (by decide) rfl (fun _ => ?_) (fun q => absurd (by decide) q)
      refine ro_iconst (v := nI 0) (q := 103) hX dX3_reconnects_102 rfl rfl ?_
      refine ro_iadd (q := 104) hX dX3_reconnects_103 rfl ?_
      refine vv_top (y := nI ((rcL (rc1 s h) h k12).2 + 0)) (nI_add' rfl rfl) ?_
      refine ro_istore_n (i := 2) (q := 105) hX dX3_reconnects_104 rfl (Nat.le_of_ble_eq_true rfl) rfl ?_
      refine ro_iinc (i := 3) (v := nI (k12 + 1)) (q := 108) hX dX3_reconnects_105 rfl (ni_inc _) (Nat.le_of_ble_eq_true rfl) rfl ?_
      refine ro_goto (tgt := 12) hX dX3_reconnects_108 (by decide) ?_
      refine ro_drop [4, 5] hX rfl ?_
      exact vv_LM (by first | with_reducible rfl | (simp [rcL, goM, setL_s, setL_t, setL_0, dropL_0, dropL_c, *]; done) | (simp only [rcL, goM, setL_s, setL_t, setL_0, dropL_0, dropL_c]; (repeat' split) <;> first | with_reducible rfl | contradiction | (exfalso; omega) | (simp_all; done)) | rfl) (by first | with_reducible rfl | (simp [rcL, goM, setL_s, setL_t, setL_0, dropL_0, dropL_c, *]; done) | (simp only [rcL, goM, setL_s, setL_t, setL_0, dropL_0, dropL_c]; (repeat' split) <;> first | with_reducible rfl | contradiction | (exfalso; omega) | (simp_all; done)) | rfl) ih12
    · skip
      refine ro_aload_n (i := 0) (q := 44) hX dX3_reconnects_43 rfl rfl rfl ?_
      refine ro_iconst (v := nI 0) (q := 45) hX dX3_reconnects_44 rfl rfl ?_
      refine ro_iload_n (i := 1) (q := 46) hX dX3_reconnects_45 rfl rfl rfl ?_
      refine ro_iload_n (i := 3) (q := 47) hX dX3_reconnects_46 rfl rfl rfl ?_
      refine ro_callVi (q9 := 50) hX (m_isFresh (by omega) (by omega) (by omega)) mw_X3_isFresh kl_X3_56 (by decide) (fun cy => cell3 (by decide +kernel)) rfl rfl rfl (Nat.le_of_ble_eq_true rfl) ⟨Nat.le_of_ble_eq_true rfl, Nat.le_of_ble_eq_true rfl⟩ dX3_reconnects_47 ⟨Nat.le_of_ble_eq_true rfl, Nat.le_of_ble_eq_true rfl⟩ rfl ?_
      refine ro_ifb_eq (tgt := 62) (q := 53) hX dX3_reconnects_50 (by decide) rfl (fun q2 => ?_) (fun q2 => ?_)
      · skip
        refine ro_iconst (v := nI 1) (q := 63) hX dX3_reconnects_62 rfl rfl ?_
        refine ro_goto (tgt := 67) hX dX3_reconnects_63 (by decide) ?_
        refine ro_istore (i := 5) (q := 69) hX dX3_reconnects_67 (Nat.le_of_ble_eq_true rfl) rfl ?_
        refine ro_aload_n (i := 0) (q := 70) hX dX3_reconnects_69 rfl rfl rfl ?_
        refine ro_iconst (v := nI 0) (q := 71) hX dX3_reconnects_70 rfl rfl ?_
        refine ro_iload_n (i := 1) (q := 72) hX dX3_reconnects_71 rfl rfl rfl ?_
        refine ro_iload_n (i := 3) (q := 73) hX dX3_reconnects_72 rfl rfl rfl ?_
        refine ro_iload (i := 5) (q := 75) hX dX3_reconnects_73 rfl rfl ?_
        refine ro_if_eq (tgt := 82) (q := 78) hX dX3_reconnects_75 (by decide) rfl (fun q => absurd q (by decide)) (fun _ => ?_)
        refine ro_iconst (v := nI 0) (q := 79) hX dX3_reconnects_78 rfl rfl ?_
        refine ro_goto (tgt := 89) hX dX3_reconnects_79 (by decide) ?_
        refine ro_callVv (q9 := 92) hX (m_layReplica (by omega) (by omega) (by omega)) mw_X3_layReplica kl_X3_62 (by decide) (fun cy => cell3 (by decide +kernel)) rfl rfl rfl (Nat.le_of_ble_eq_true rfl) ⟨Nat.le_of_ble_eq_true rfl, Nat.le_of_ble_eq_true rfl⟩ dX3_reconnects_89 ⟨Nat.le_of_ble_eq_true rfl, Nat.le_of_ble_eq_true rfl⟩ rfl ?_
        refine ro_iload_n (i := 2) (q := 93) hX dX3_reconnects_92 rfl rfl rfl ?_
        refine ro_iload (i := 5) (q := 95) hX dX3_reconnects_93 rfl rfl ?_
        refine ro_if_eq (tgt := 102) (q := 98) hX dX3_reconnects_95 (by decide) rfl (fun q => absurd q (by decide)) (fun _ => ?_)
        refine ro_iconst (v := nI 1) (q := 99) hX dX3_reconnects_98 rfl rfl ?_
        refine ro_goto (tgt := 103) hX dX3_reconnects_99 (by decide) ?_
        refine ro_iadd (q := 104) hX dX3_reconnects_103 rfl ?_
        refine vv_top (y := nI ((rcL (rc1 s h) h k12).2 + 1)) (nI_add' rfl rfl) ?_
        refine ro_istore_n (i := 2) (q := 105) hX dX3_reconnects_104 rfl (Nat.le_of_ble_eq_true rfl) rfl ?_
        refine ro_iinc (i := 3) (v := nI (k12 + 1)) (q := 108) hX dX3_reconnects_105 rfl (ni_inc _) (Nat.le_of_ble_eq_true rfl) rfl ?_
        refine ro_goto (tgt := 12) hX dX3_reconnects_108 (by decide) ?_
        refine ro_drop [4, 5] hX rfl ?_
        exact vv_LM (by first | with_reducible rfl | (simp [rcL, goM, setL_s, setL_t, setL_0, dropL_0, dropL_c, *]; done) | (simp only [rcL, goM, setL_s, setL_t, setL_0, dropL_0, dropL_c]; (repeat' split) <;> first | with_reducible rfl | contradiction | (exfalso; omega) | (simp_all; done)) | rfl) (by first | with_reducible rfl | (simp [rcL, goM, setL_s, setL_t, setL_0, dropL_0, dropL_c, *]; done) | (simp only [rcL, goM, setL_s, setL_t, setL_0, dropL_0, dropL_c]; (repeat' split) <;> first | with_reducible rfl | contradiction | (exfalso; omega) | (simp_all; done)) | rfl) ih12
      · skip
        refine ro_iload (i := 4) (q := 55) hX dX3_reconnects_53 rfl rfl ?_
        refine ro_callSi (q9 := 58) hX (m_ones) mw_X3_ones kl_X3_52 rfl rfl (Nat.le_of_ble_eq_true rfl) ⟨Nat.le_of_ble_eq_true rfl, Nat.le_of_ble_eq_true rfl⟩ dX3_reconnects_55 ⟨Nat.le_of_ble_eq_true rfl, Nat.le_of_ble_eq_true rfl⟩ rfl ?_
        refine ro_iconst (v := nI 2) (q := 59) hX dX3_reconnects_58 rfl rfl ?_
        refine ro_icmp_lt (tgt := 66) (q := 62) hX dX3_reconnects_59 (by decide) rfl (fun q3 => ?_) (fun q3 => ?_)
        · skip
          refine ro_iconst (v := nI 0) (q := 67) hX dX3_reconnects_66 rfl rfl ?_
          refine ro_istore (i := 5) (q := 69) hX dX3_reconnects_67 (Nat.le_of_ble_eq_true rfl) rfl ?_
          refine ro_aload_n (i := 0) (q := 70) hX dX3_reconnects_69 rfl rfl rfl ?_
          refine ro_iconst (v := nI 0) (q := 71) hX dX3_reconnects_70 rfl rfl ?_
          refine ro_iload_n (i := 1) (q := 72) hX dX3_reconnects_71 rfl rfl rfl ?_
          refine ro_iload_n (i := 3) (q := 73) hX dX3_reconnects_72 rfl rfl rfl ?_
          refine ro_iload (i := 5) (q := 75) hX dX3_reconnects_73 rfl rfl ?_
          refine ro_if_eq (tgt := 82) (q := 78) hX dX3_reconnects_75 (by decide) rfl (fun _ => ?_) (fun q => absurd (by decide) q)
          refine ro_aload_n (i := 0) (q := 83) hX dX3_reconnects_82 rfl rfl rfl ?_
          refine ro_iconst (v := nI 0) (q := 84) hX dX3_reconnects_83 rfl rfl ?_
          refine ro_iload_n (i := 1) (q := 85) hX dX3_reconnects_84 rfl rfl rfl ?_
          refine ro_iload_n (i := 3) (q := 86) hX dX3_reconnects_85 rfl rfl rfl ?_
          refine ro_callVi (q9 := 89) hX (m_replicaOf (by omega) (by omega) (by omega)) mw_X3_replicaOf kl_X3_32 (by decide) (fun cy => cell3 (by decide +kernel)) rfl rfl rfl (Nat.le_of_ble_eq_true rfl) ⟨Nat.le_of_ble_eq_true rfl, Nat.le_of_ble_eq_true rfl⟩ dX3_reconnects_86 ⟨Nat.le_of_ble_eq_true rfl, Nat.le_of_ble_eq_true rfl⟩ rfl ?_
          refine ro_callVv (q9 := 92) hX (m_layReplica (by omega) (by omega) (by omega)) mw_X3_layReplica kl_X3_62 (by decide) (fun cy => cell3 (by decide +kernel)) rfl rfl rfl (Nat.le_of_ble_eq_true rfl) ⟨Nat.le_of_ble_eq_true rfl, Nat.le_of_ble_eq_true rfl⟩ dX3_reconnects_89 ⟨Nat.le_of_ble_eq_true rfl, Nat.le_of_ble_eq_true rfl⟩ rfl ?_
          refine ro_iload_n (i := 2) (q := 93) hX dX3_reconnects_92 rfl rfl rfl ?_
          refine ro_iload (i := 5) (q := 95) hX dX3_reconnects_93 rfl rfl ?_
          refine ro_if_eq (tgt := 102) (q := 98) hX dX3_reconnects_95 (by decide) rfl (fun _ => ?_) (fun q => absurd (by decide) q)
          refine ro_iconst (v := nI 0) (q := 103) hX dX3_reconnects_102 rfl rfl ?_
          refine ro_iadd (q := 104) hX dX3_reconnects_103 rfl ?_
          refine vv_top (y := nI ((rcL (rc1 s h) h k12).2 + 0)) (nI_add' rfl rfl) ?_
          refine ro_istore_n (i := 2) (q := 105) hX dX3_reconnects_104 rfl (Nat.le_of_ble_eq_true rfl) rfl ?_
          refine ro_iinc (i := 3) (v := nI (k12 + 1)) (q := 108) hX dX3_reconnects_105 rfl (ni_inc _) (Nat.le_of_ble_eq_true rfl) rfl ?_
          refine ro_goto (tgt := 12) hX dX3_reconnects_108 (by decide) ?_
          refine ro_drop [4, 5] hX rfl ?_
          exact vv_LM (by first | with_reducible rfl | (simp [rcL, goM, setL_s, setL_t, setL_0, dropL_0, dropL_c, *]; done) | (simp only [rcL, goM, setL_s, setL_t, setL_0, dropL_0, dropL_c]; (repeat' split) <;> first | with_reducible rfl | contradiction | (exfalso; omega) | (simp_all; done)) | rfl) (by first | with_reducible rfl | (simp [rcL, goM, setL_s, setL_t, setL_0, dropL_0, dropL_c, *]; done) | (simp only [rcL, goM, setL_s, setL_t, setL_0, dropL_0, dropL_c]; (repeat' split) <;> first | with_reducible rfl | contradiction | (exfalso; omega) | (simp_all; done)) | rfl) ih12
        · skip
          refine ro_iconst (v := nI 1) (q := 63) hX dX3_reconnects_62 rfl rfl ?_
          refine ro_goto (tgt := 67) hX dX3_reconnects_63 (by decide) ?_
          refine ro_istore (i := 5) (q := 69) hX dX3_reconnects_67 (Nat.le_of_ble_eq_true rfl) rfl ?_
          refine ro_aload_n (i := 0) (q := 70) hX dX3_reconnects_69 rfl rfl rfl ?_
          refine ro_iconst (v := nI 0) (q := 71) hX dX3_reconnects_70 rfl rfl ?_
          refine ro_iload_n (i := 1) (q := 72) hX dX3_reconnects_71 rfl rfl rfl ?_
          refine ro_iload_n (i := 3) (q := 73) hX dX3_reconnects_72 rfl rfl rfl ?_
          refine ro_iload (i := 5) (q := 75) hX dX3_reconnects_73 rfl rfl ?_
          refine ro_if_eq (tgt := 82) (q := 78) hX dX3_reconnects_75 (by decide) rfl (fun q => absurd q (by decide)) (fun _ => ?_)
          refine ro_iconst (v := nI 0) (q := 79) hX dX3_reconnects_78 rfl rfl ?_
          refine ro_goto (tgt := 89) hX dX3_reconnects_79 (by decide) ?_
          refine ro_callVv (q9 := 92) hX (m_layReplica (by omega) (by omega) (by omega)) mw_X3_layReplica kl_X3_62 (by decide) (fun cy => cell3 (by decide +kernel)) rfl rfl rfl (Nat.le_of_ble_eq_true rfl) ⟨Nat.le_of_ble_eq_true rfl, Nat.le_of_ble_eq_true rfl⟩ dX3_reconnects_89 ⟨Nat.le_of_ble_eq_true rfl, Nat.le_of_ble_eq_true rfl⟩ rfl ?_
          refine ro_iload_n (i := 2) (q := 93) hX dX3_reconnects_92 rfl rfl rfl ?_
          refine ro_iload (i := 5) (q := 95) hX dX3_reconnects_93 rfl rfl ?_
          refine ro_if_eq (tgt := 102) (q := 98) hX dX3_reconnects_95 (by decide) rfl (fun q => absurd q (by decide)) (fun _ => ?_)
          refine ro_iconst (v := nI 1) (q := 99) hX dX3_reconnects_98 rfl rfl ?_
          refine ro_goto (tgt := 103) hX dX3_reconnects_99 (by decide) ?_
          refine ro_iadd (q := 104) hX dX3_reconnects_103 rfl ?_
          refine vv_top (y := nI ((rcL (rc1 s h) h k12).2 + 1)) (nI_add' rfl rfl) ?_
          refine ro_istore_n (i := 2) (q := 105) hX dX3_reconnects_104 rfl (Nat.le_of_ble_eq_true rfl) rfl ?_
          refine ro_iinc (i := 3) (v := nI (k12 + 1)) (q := 108) hX dX3_reconnects_105 rfl (ni_inc _) (Nat.le_of_ble_eq_true rfl) rfl ?_
          refine ro_goto (tgt := 12) hX dX3_reconnects_108 (by decide) ?_
          refine ro_drop [4, 5] hX rfl ?_
          exact vv_LM (by first | with_reducible rfl | (simp [rcL, goM, setL_s, setL_t, setL_0, dropL_0, dropL_c, *]; done) | (simp only [rcL, goM, setL_s, setL_t, setL_0, dropL_0, dropL_c]; (repeat' split) <;> first | with_reducible rfl | contradiction | (exfalso; omega) | (simp_all; done)) | rfl) (by first | with_reducible rfl | (simp [rcL, goM, setL_s, setL_t, setL_0, dropL_0, dropL_c, *]; done) | (simp only [rcL, goM, setL_s, setL_t, setL_0, dropL_0, dropL_c]; (repeat' split) <;> first | with_reducible rfl | contradiction | (exfalso; omega) | (simp_all; done)) | rfl) ih12
  · show VV 0 0 12 [(0, .ref (sz + 75)), (1, .int (nI h)), (2, .int (nI (rcL (rc1 s h) h 30).2)), (3, .int (nI 30))] [] (patch G 75 4 (mS F ((rcL (rc1 s h) h 30).1)), T)
    refine ro_iload_n (i := 3) (q := 13) hX dX3_reconnects_12 rfl rfl rfl ?_
    refine ro_bipush (v := nI 30) (q := 15) hX dX3_reconnects_13 rfl rfl ?_
    refine ro_icmp_ge (tgt := 111) (q := 18) hX dX3_reconnects_15 (by decide) rfl (fun _ => ?_) (fun q => absurd (by decide) q)
    refine ro_aload_n (i := 0) (q := 112) hX dX3_reconnects_111 rfl rfl rfl ?_
    refine ro_iconst (v := nI 0) (q := 113) hX dX3_reconnects_112 rfl rfl ?_
    refine ro_callVv (q9 := 116) hX (m_settles (by omega)) mw_X3_settles kl_X3_89 (by decide) (fun cy => cell3 (by decide +kernel)) rfl rfl rfl (Nat.le_of_ble_eq_true rfl) ⟨Nat.le_of_ble_eq_true rfl, Nat.le_of_ble_eq_true rfl⟩ dX3_reconnects_113 ⟨Nat.le_of_ble_eq_true rfl, Nat.le_of_ble_eq_true rfl⟩ rfl ?_
    refine ro_iload_n (i := 2) (q := 117) hX dX3_reconnects_116 rfl rfl rfl ?_
    exact fin_i hF (Nat.le_of_ble_eq_true rfl) (Nat.le_of_ble_eq_true rfl) dX3_reconnects_117 (by rfl) (by rfl)
set_option maxRecDepth 20000 in
set_option maxHeartbeats 2000000 in
theorem m_crashes {h : Nat} (hh : h < 6) : Does sz I_X3_crashes [.ref (sz + 75), .int (nI h)] (patch G 75 4 (mS F s), T) 0 0 (.inl (some (nI (hdM s 0 h)))) (patch G 75 4 (mS F (seM (cr1 s h) 0)), T) := by
  refine Does.of (L := [(0, .ref (sz + 75)), (1, .int (nI h))]) (by decide +kernel) (Nat.le_of_ble_eq_true rfl) rfl ⟨rfl, (by simp), ⟨rfl, (by simp), trivial⟩⟩ (fun VV hF => ?_)
  have hX := hF.c
  refine ro_aload_n (i := 0) (q := 1) hX dX3_crashes_0 rfl rfl rfl ?_
  refine ro_iconst (v := nI 0) (q := 2) hX dX3_crashes_1 rfl rfl ?_
  refine ro_iload_n (i := 1) (q := 3) hX dX3_crashes_2 rfl rfl rfl ?_
  refine ro_callVi (q9 := 6) hX (m_clears (by omega) (by omega)) mw_X3_clears kl_X3_82 (by decide) (fun cy => cell3 (by decide +kernel)) rfl rfl rfl (Nat.le_of_ble_eq_true rfl) ⟨Nat.le_of_ble_eq_true rfl, Nat.le_of_ble_eq_true rfl⟩ dX3_crashes_3 ⟨Nat.le_of_ble_eq_true rfl, Nat.le_of_ble_eq_true rfl⟩ rfl ?_
  refine ro_istore_n (i := 2) (q := 7) hX dX3_crashes_6 rfl (Nat.le_of_ble_eq_true rfl) rfl ?_
  refine ro_aload_n (i := 0) (q := 8) hX dX3_crashes_7 rfl rfl rfl ?_
  refine ro_iconst (v := nI 0) (q := 9) hX dX3_crashes_8 rfl rfl ?_
  refine ro_iload_n (i := 1) (q := 10) hX dX3_crashes_9 rfl rfl rfl ?_
  refine ro_iconst (v := nI 0) (q := 11) hX dX3_crashes_10 rfl rfl ?_
  refine ro_iconst (v := nI 0) (q := 12) hX dX3_crashes_11 rfl rfl ?_
  refine ro_callVv (q9 := 15) hX (m_lay (by omega) (by omega) (by omega)) mw_X3_lay kl_X3_72 (by decide) (fun cy => cell3 (by decide +kernel)) rfl rfl rfl (Nat.le_of_ble_eq_true rfl) ⟨Nat.le_of_ble_eq_true rfl, Nat.le_of_ble_eq_true rfl⟩ dX3_crashes_12 ⟨Nat.le_of_ble_eq_true rfl, Nat.le_of_ble_eq_true rfl⟩ rfl ?_
  refine ro_aload_n (i := 0) (q := 16) hX dX3_crashes_15 rfl rfl rfl ?_
  refine ro_iconst (v := nI 0) (q := 17) hX dX3_crashes_16 rfl rfl ?_
  refine ro_iload_n (i := 1) (q := 18) hX dX3_crashes_17 rfl rfl rfl ?_
  refine ro_iconst (v := nI 1) (q := 19) hX dX3_crashes_18 rfl rfl ?_
  refine ro_iconst (v := nI 1) (q := 20) hX dX3_crashes_19 rfl rfl ?_
  refine ro_callVv (q9 := 23) hX (m_lay (by omega) (by omega) (by omega)) mw_X3_lay kl_X3_72 (by decide) (fun cy => cell3 (by decide +kernel)) rfl rfl rfl (Nat.le_of_ble_eq_true rfl) ⟨Nat.le_of_ble_eq_true rfl, Nat.le_of_ble_eq_true rfl⟩ dX3_crashes_20 ⟨Nat.le_of_ble_eq_true rfl, Nat.le_of_ble_eq_true rfl⟩ rfl ?_
  refine ro_aload_n (i := 0) (q := 24) hX dX3_crashes_23 rfl rfl rfl ?_
  refine ro_iconst (v := nI 0) (q := 25) hX dX3_crashes_24 rfl rfl ?_
  refine ro_iload_n (i := 1) (q := 26) hX dX3_crashes_25 rfl rfl rfl ?_
  refine ro_iconst (v := nI 1) (q := 27) hX dX3_crashes_26 rfl rfl ?_
  refine ro_callVv (q9 := 30) hX (m_cancels_1 (by omega) (by omega)) mw_X3_cancels kl_X3_85 (by decide) (fun cy => cell3 (by decide +kernel)) rfl rfl rfl (Nat.le_of_ble_eq_true rfl) ⟨Nat.le_of_ble_eq_true rfl, Nat.le_of_ble_eq_true rfl⟩ dX3_crashes_27 ⟨Nat.le_of_ble_eq_true rfl, Nat.le_of_ble_eq_true rfl⟩ rfl ?_
  refine ro_aload_n (i := 0) (q := 31) hX dX3_crashes_30 rfl rfl rfl ?_
  refine ro_iconst (v := nI 0) (q := 32) hX dX3_crashes_31 rfl rfl ?_
  refine ro_callVv (q9 := 35) hX (m_settles (by omega)) mw_X3_settles kl_X3_89 (by decide) (fun cy => cell3 (by decide +kernel)) rfl rfl rfl (Nat.le_of_ble_eq_true rfl) ⟨Nat.le_of_ble_eq_true rfl, Nat.le_of_ble_eq_true rfl⟩ dX3_crashes_32 ⟨Nat.le_of_ble_eq_true rfl, Nat.le_of_ble_eq_true rfl⟩ rfl ?_
  refine ro_iload_n (i := 2) (q := 36) hX dX3_crashes_35 rfl rfl rfl ?_
  exact fin_i hF (Nat.le_of_ble_eq_true rfl) (Nat.le_of_ble_eq_true rfl) dX3_crashes_36 (by rfl) (by rfl)
set_option maxRecDepth 20000 in
set_option maxHeartbeats 2000000 in
theorem m_passes {n : Nat} (hn : n ≤ 1000) (hT : ∀ k, k < n → trOK (tkM (spL s 0 k) 0) 0) : Does sz I_X3_passes [.ref (sz + 75), .int (nI n)] (patch G 75 4 (mS F s), T) 0 0 (.inl (some (spL s 0 n 3 - s 3))) (patch G 75 4 (mS F (spL s 0 n)), T) := by
  refine Does.of (L := [(0, .ref (sz + 75)), (1, .int (nI n))]) (by decide +kernel) (Nat.le_of_ble_eq_true rfl) rfl ⟨rfl, (by simp), ⟨rfl, (by simp), trivial⟩⟩ (fun VV hF => ?_)
  have hX := hF.c
  refine ro_aload_n (i := 0) (q := 1) hX dX3_passes_0 rfl rfl rfl ?_
  refine ro_Nga1 (q9 := 4) hX kf_X3_7 dX3_passes_1 rfl ?_
  refine ro_iconst (v := nI 3) (q := 5) hX dX3_passes_4 rfl rfl ?_
  refine ro_Nsld (n := 3) (q9 := 6) hX rfl (by omega) dX3_passes_5 rfl ?_
  refine ro_istore_n (i := 2) (q := 7) hX dX3_passes_6 rfl (Nat.le_of_ble_eq_true rfl) rfl ?_
  refine ro_iconst (v := nI 0) (q := 8) hX dX3_passes_7 rfl rfl ?_
  refine ro_istore_n (i := 3) (q := 9) hX dX3_passes_8 rfl (Nat.le_of_ble_eq_true rfl) rfl ?_
  refine vv_LM (L' := [(0, .ref (sz + 75)), (1, .int (nI n)), (2, .int (s 3)), (3, .int (nI 0))]) (M' := (patch G 75 4 (mS F (spL s 0 0)), T)) (by rfl) (by rfl) ?_
  refine down_ind (P := fun k9 => VV 0 0 9 [(0, .ref (sz + 75)), (1, .int (nI n)), (2, .int (s 3)), (3, .int (nI k9))] [] (patch G 75 4 (mS F (spL s 0 k9)), T)) (n) (fun k9 hk9 ih9 => ?_) ?_
  · have ih9 : VV 0 0 9 [(0, .ref (sz + 75)), (1, .int (nI n)), (2, .int (s 3)), (3, .int (nI (k9 + 1)))] [] (patch G 75 4 (mS F (spL s 0 (k9 + 1))), T) := ih9
    show VV 0 0 9 [(0, .ref (sz + 75)), (1, .int (nI n)), (2, .int (s 3)), (3, .int (nI k9))] [] (patch G 75 4 (mS F (spL s 0 k9)), T)
    refine ro_iload_n (i := 3) (q := 10) hX dX3_passes_9 rfl rfl rfl ?_
    refine ro_iload_n (i := 1) (q := 11) hX dX3_passes_10 rfl rfl rfl ?_
    refine ro_icmp_ge (tgt := 25) (q := 14) hX dX3_passes_11 (by decide) rfl (fun q => absurd q (by first | exact ni_nle (by omega) (by omega) | exact ni_lt (by omega) (by omega))) (fun _ => ?_)
    refine ro_aload_n (i := 0) (q := 15) hX dX3_passes_14 rfl rfl rfl ?_
    refine ro_iconst (v := nI 0) (q := 16) hX dX3_passes_15 rfl rfl ?_
    refine ro_callVv (q9 := 19) hX (m_secondPasses (by omega) (hT k9 hk9)) mw_X3_secondPasses kl_X3_92 (by decide) (fun cy => cell3 (by decide +kernel)) rfl rfl rfl (Nat.le_of_ble_eq_true rfl) ⟨Nat.le_of_ble_eq_true rfl, Nat.le_of_ble_eq_true rfl⟩ dX3_passes_16 ⟨Nat.le_of_ble_eq_true rfl, Nat.le_of_ble_eq_true rfl⟩ rfl ?_
    refine ro_iinc (i := 3) (v := nI (k9 + 1)) (q := 22) hX dX3_passes_19 rfl (ni_inc _) (Nat.le_of_ble_eq_true rfl) rfl ?_
    refine ro_goto (tgt := 9) hX dX3_passes_22 (by decide) ?_
    exact vv_LM (by rfl) (by rfl) ih9
  · show VV 0 0 9 [(0, .ref (sz + 75)), (1, .int (nI n)), (2, .int (s 3)), (3, .int (nI n))] [] (patch G 75 4 (mS F (spL s 0 n)), T)
    refine ro_iload_n (i := 3) (q := 10) hX dX3_passes_9 rfl rfl rfl ?_
    refine ro_iload_n (i := 1) (q := 11) hX dX3_passes_10 rfl rfl rfl ?_
    refine ro_icmp_ge (tgt := 25) (q := 14) hX dX3_passes_11 (by decide) rfl (fun _ => ?_) (fun q => absurd (by first | exact ni_le (by omega) (by omega) | exact ni_nlt (by omega) (by omega)) q)
    refine ro_aload_n (i := 0) (q := 26) hX dX3_passes_25 rfl rfl rfl ?_
    refine ro_Nga1 (q9 := 29) hX kf_X3_7 dX3_passes_26 rfl ?_
    refine ro_iconst (v := nI 3) (q := 30) hX dX3_passes_29 rfl rfl ?_
    refine ro_Nsld (n := 3) (q9 := 31) hX rfl (by omega) dX3_passes_30 rfl ?_
    refine ro_iload_n (i := 2) (q := 32) hX dX3_passes_31 rfl rfl rfl ?_
    refine ro_isub (q := 33) hX dX3_passes_32 rfl ?_
    exact fin_i hF (Nat.le_of_ble_eq_true rfl) (Nat.le_of_ble_eq_true rfl) dX3_passes_33 (by rfl) (by rfl)
set_option maxRecDepth 20000 in
set_option maxHeartbeats 2000000 in
theorem m_carries {a c : Nat} (ha : a ≤ 9) (hc : c ≤ 9) : Does sz I_X3_carries [.ref (sz + 75), .int (nI a), .int (nI c)] (patch G 75 4 (mS F s), T) 0 0 (.inl none) (patch G 75 4 (mS F (crM s a c)), T) := by
  refine Does.of (L := [(0, .ref (sz + 75)), (1, .int (nI a)), (2, .int (nI c))]) (by decide +kernel) (Nat.le_of_ble_eq_true rfl) rfl ⟨rfl, (by simp), ⟨rfl, (by simp), ⟨rfl, (by simp), trivial⟩⟩⟩ (fun VV hF => ?_)
  have hX := hF.c
  refine ro_iconst (v := nI 0) (q := 1) hX dX3_carries_0 rfl rfl ?_
  refine ro_istore_n (i := 3) (q := 2) hX dX3_carries_1 rfl (Nat.le_of_ble_eq_true rfl) rfl ?_
  refine vv_LM (L' := [(0, .ref (sz + 75)), (1, .int (nI a)), (2, .int (nI c)), (3, .int (nI 0))]) (M' := (patch G 75 4 (mS F (crL s a c 0)), T)) (by rfl) (by rfl) ?_
  refine down_ind (P := fun k2 => VV 0 0 2 [(0, .ref (sz + 75)), (1, .int (nI a)), (2, .int (nI c)), (3, .int (nI k2))] [] (patch G 75 4 (mS F (crL s a c k2)), T)) (272) (fun k2 hk2 ih2 => ?_) ?_
  · have ih2 : VV 0 0 2 [(0, .ref (sz + 75)), (1, .int (nI a)), (2, .int (nI c)), (3, .int (nI (k2 + 1)))] [] (patch G 75 4 (mS F (crL s a c (k2 + 1))), T) := ih2
    show VV 0 0 2 [(0, .ref (sz + 75)), (1, .int (nI a)), (2, .int (nI c)), (3, .int (nI k2))] [] (patch G 75 4 (mS F (crL s a c k2)), T)
    refine ro_iload_n (i := 3) (q := 3) hX dX3_carries_2 rfl rfl rfl ?_
    refine ro_sipush (v := nI 272) (q := 6) hX dX3_carries_3 rfl rfl ?_
    refine ro_icmp_ge (tgt := 39) (q := 9) hX dX3_carries_6 (by decide) rfl (fun q => absurd q (by first | exact ni_nle (by omega) (by omega) | exact ni_lt (by omega) (by omega))) (fun _ => ?_)
    refine ro_aload_n (i := 0) (q := 10) hX dX3_carries_9 rfl rfl rfl ?_
    refine ro_Nga1 (q9 := 13) hX kf_X3_7 dX3_carries_10 rfl ?_
    refine ro_sipush (v := nI 272) (q := 16) hX dX3_carries_13 rfl rfl ?_
    refine ro_iload_n (i := 2) (q := 17) hX dX3_carries_16 rfl rfl rfl ?_
    refine ro_imul (q := 18) hX dX3_carries_17 rfl ?_
    refine vv_top (y := nI (272 * c)) (nI_mul' rfl rfl) ?_
    refine ro_iload_n (i := 3) (q := 19) hX dX3_carries_18 rfl rfl rfl ?_
    refine ro_iadd (q := 20) hX dX3_carries_19 rfl ?_
    refine vv_top (y := nI (272 * c + k2)) (nI_add' rfl rfl) ?_
    refine ro_aload_n (i := 0) (q := 21) hX dX3_carries_20 rfl rfl rfl ?_
    refine ro_Nga1 (q9 := 24) hX kf_X3_7 dX3_carries_21 rfl ?_
    refine ro_sipush (v := nI 272) (q := 27) hX dX3_carries_24 rfl rfl ?_
    refine ro_iload_n (i := 1) (q := 28) hX dX3_carries_27 rfl rfl rfl ?_
    refine ro_imul (q := 29) hX dX3_carries_28 rfl ?_
    refine vv_top (y := nI (272 * a)) (nI_mul' rfl rfl) ?_
    refine ro_iload_n (i := 3) (q := 30) hX dX3_carries_29 rfl rfl rfl ?_
    refine ro_iadd (q := 31) hX dX3_carries_30 rfl ?_
    refine vv_top (y := nI (272 * a + k2)) (nI_add' rfl rfl) ?_
    refine ro_Nsld (n := 272 * a + k2) (q9 := 32) hX rfl (by omega) dX3_carries_31 rfl ?_
    refine ro_Nsst (n := 272 * c + k2) (q9 := 33) hX rfl (by omega) dX3_carries_32 rfl ?_
    refine ro_iinc (i := 3) (v := nI (k2 + 1)) (q := 36) hX dX3_carries_33 rfl (ni_inc _) (Nat.le_of_ble_eq_true rfl) rfl ?_
    refine ro_goto (tgt := 2) hX dX3_carries_36 (by decide) ?_
    exact vv_LM (by rfl) (by rfl) ih2
  · show VV 0 0 2 [(0, .ref (sz + 75)), (1, .int (nI a)), (2, .int (nI c)), (3, .int (nI 272))] [] (patch G 75 4 (mS F (crL s a c 272)), T)
    refine ro_iload_n (i := 3) (q := 3) hX dX3_carries_2 rfl rfl rfl ?_
    refine ro_sipush (v := nI 272) (q := 6) hX dX3_carries_3 rfl rfl ?_
    refine ro_icmp_ge (tgt := 39) (q := 9) hX dX3_carries_6 (by decide) rfl (fun _ => ?_) (fun q => absurd (by decide) q)
    exact fin_v hF (Nat.le_of_ble_eq_true rfl) (Nat.le_of_ble_eq_true rfl) dX3_carries_39 (by rfl)
set_option maxRecDepth 20000 in
set_option maxHeartbeats 2000000 in
theorem m_keeps_l {v : Nat} (hv : v < 6) (hF9 : F 0 2 = nI v) : Does sz I_X3_keeps [.ref (sz + 75)] (patch G 75 4 (mS F s), T) 0 0 (.inl none) (patch G 75 4 (mS (put F 0 2 (nI (v + 1))) (crM s 0 (v + 1))), T) := by
  refine Does.of (L := [(0, .ref (sz + 75))]) (by decide +kernel) (Nat.le_of_ble_eq_true rfl) rfl ⟨rfl, (by simp), trivial⟩ (fun VV hF => ?_)
  have hX := hF.c
  refine ro_iconst (v := nI 1) (q := 1) hX dX3_keeps_0 rfl rfl ?_
  refine ro_istore_n (i := 1) (q := 2) hX dX3_keeps_1 rfl (Nat.le_of_ble_eq_true rfl) rfl ?_
  refine ro_iload_n (i := 1) (q := 3) hX dX3_keeps_2 rfl rfl rfl ?_
  refine ro_bipush (v := nI 6) (q := 5) hX dX3_keeps_3 rfl rfl ?_
  refine ro_icmp_ge (tgt := 31) (q := 8) hX dX3_keeps_5 (by decide) rfl (fun q => absurd q (by decide)) (fun _ => ?_)
  refine ro_aload_n (i := 0) (q := 9) hX dX3_keeps_8 rfl rfl rfl ?_
  refine ro_Ngi (j := 2) (q9 := 12) (by decide) hX kf_X3_95 dX3_keeps_9 rfl ?_
  refine vv_top (y := (nI v)) (hF9) ?_
  refine ro_bipush (v := nI 6) (q := 14) hX dX3_keeps_12 rfl rfl ?_
  refine ro_icmp_ne (tgt := 31) (q := 17) hX dX3_keeps_14 (by decide) rfl (fun _ => ?_) (fun q => absurd q (by first | exact ni_nle (by omega) (by omega) | exact ni_lt (by omega) (by omega) | exact ni_nlt (by omega) (by omega) | exact ni_le (by omega) (by omega) | exact ni_ne (by omega) (by omega) (by omega)))
  refine ro_aload_n (i := 0) (q := 32) hX dX3_keeps_31 rfl rfl rfl ?_
  refine ro_dup (q := 33) hX dX3_keeps_32 rfl rfl ?_
  refine ro_Ngi (j := 2) (q9 := 36) (by decide) hX kf_X3_95 dX3_keeps_33 rfl ?_
  refine vv_top (y := (nI v)) (hF9) ?_
  refine ro_aload_n (i := 0) (q := 37) hX dX3_keeps_36 rfl rfl rfl ?_
  refine ro_Ngi (j := 2) (q9 := 40) (by decide) hX kf_X3_95 dX3_keeps_37 rfl ?_
  refine vv_top (y := (nI v)) (hF9) ?_
  refine ro_bipush (v := nI 6) (q := 42) hX dX3_keeps_40 rfl rfl ?_
  refine ro_icmp_ge (tgt := 49) (q := 45) hX dX3_keeps_42 (by decide) rfl (fun q => absurd q (by first | exact ni_nle (by omega) (by omega) | exact ni_lt (by omega) (by omega) | exact ni_nlt (by omega) (by omega) | exact ni_le (by omega) (by omega) | exact ni_ne (by omega) (by omega) (by omega))) (fun _ => ?_)
  refine ro_iconst (v := nI 1) (q := 46) hX dX3_keeps_45 rfl rfl ?_
  refine ro_goto (tgt := 50) hX dX3_keeps_46 (by decide) ?_
  refine ro_iadd (q := 51) hX dX3_keeps_50 rfl ?_
  refine vv_top (y := nI (v + 1)) (nI_add' rfl rfl) ?_
  refine ro_Npi (j := 2) (q9 := 54) (ty := .int) (by decide) hX rfl rfl rfl kf_X3_95 dX3_keeps_51 rfl ?_
  refine ro_aload_n (i := 0) (q := 55) hX dX3_keeps_54 rfl rfl rfl ?_
  refine ro_iconst (v := nI 0) (q := 56) hX dX3_keeps_55 rfl rfl ?_
  refine ro_aload_n (i := 0) (q := 57) hX dX3_keeps_56 rfl rfl rfl ?_
  refine ro_Ngi (j := 2) (q9 := 60) (by decide) hX kf_X3_95 dX3_keeps_57 rfl ?_
  refine vv_top (y := (nI (v + 1))) (rfl) ?_
  refine ro_callVv (q9 := 63) hX (m_carries (by omega) (by omega)) mw_X3_carries kl_X3_98 (by decide) (fun cy => cell3 (by decide +kernel)) rfl rfl rfl (Nat.le_of_ble_eq_true rfl) ⟨Nat.le_of_ble_eq_true rfl, Nat.le_of_ble_eq_true rfl⟩ dX3_keeps_60 ⟨Nat.le_of_ble_eq_true rfl, Nat.le_of_ble_eq_true rfl⟩ rfl ?_
  exact fin_v hF (Nat.le_of_ble_eq_true rfl) (Nat.le_of_ble_eq_true rfl) dX3_keeps_63 (by rfl)
set_option maxRecDepth 20000 in
set_option maxHeartbeats 2000000 in
theorem m_keeps_6 (hF9 : F 0 2 = nI 6) : Does sz I_X3_keeps [.ref (sz + 75)] (patch G 75 4 (mS F s), T) 0 0 (.inl none) (patch G 75 4 (mS (put F 0 2 (nI 6)) (crM (shM s) 0 6)), T) := by
  refine Does.of (L := [(0, .ref (sz + 75))]) (by decide +kernel) (Nat.le_of_ble_eq_true rfl) rfl ⟨rfl, (by simp), trivial⟩ (fun VV hF => ?_)
  have hX := hF.c
  refine ro_iconst (v := nI 1) (q := 1) hX dX3_keeps_0 rfl rfl ?_
  refine ro_istore_n (i := 1) (q := 2) hX dX3_keeps_1 rfl (Nat.le_of_ble_eq_true rfl) rfl ?_
  refine ro_iload_n (i := 1) (q := 3) hX dX3_keeps_2 rfl rfl rfl ?_
  refine ro_bipush (v := nI 6) (q := 5) hX dX3_keeps_3 rfl rfl ?_
  refine ro_icmp_ge (tgt := 31) (q := 8) hX dX3_keeps_5 (by decide) rfl (fun q => absurd q (by decide)) (fun _ => ?_)
  refine ro_aload_n (i := 0) (q := 9) hX dX3_keeps_8 rfl rfl rfl ?_
  refine ro_Ngi (j := 2) (q9 := 12) (by decide) hX kf_X3_95 dX3_keeps_9 rfl ?_
  refine vv_top (y := (nI 6)) (hF9) ?_
  refine ro_bipush (v := nI 6) (q := 14) hX dX3_keeps_12 rfl rfl ?_
  refine ro_icmp_ne (tgt := 31) (q := 17) hX dX3_keeps_14 (by decide) rfl (fun q => absurd (by decide) q) (fun _ => ?_)
  refine ro_aload_n (i := 0) (q := 18) hX dX3_keeps_17 rfl rfl rfl ?_
  refine ro_iload_n (i := 1) (q := 19) hX dX3_keeps_18 rfl rfl rfl ?_
  refine ro_iconst (v := nI 1) (q := 20) hX dX3_keeps_19 rfl rfl ?_
  refine ro_iadd (q := 21) hX dX3_keeps_20 rfl ?_
  refine vv_top (y := nI 2) (nI_add' rfl rfl) ?_
  refine ro_iload_n (i := 1) (q := 22) hX dX3_keeps_21 rfl rfl rfl ?_
  refine ro_callVv (q9 := 25) hX (m_carries (by omega) (by omega)) mw_X3_carries kl_X3_98 (by decide) (fun cy => cell3 (by decide +kernel)) rfl rfl rfl (Nat.le_of_ble_eq_true rfl) ⟨Nat.le_of_ble_eq_true rfl, Nat.le_of_ble_eq_true rfl⟩ dX3_keeps_22 ⟨Nat.le_of_ble_eq_true rfl, Nat.le_of_ble_eq_true rfl⟩ rfl ?_
  refine ro_iinc (i := 1) (v := nI 2) (q := 28) hX dX3_keeps_25 rfl (ni_inc _) (Nat.le_of_ble_eq_true rfl) rfl ?_
  refine ro_goto (tgt := 2) hX dX3_keeps_28 (by decide) ?_
  refine ro_iload_n (i := 1) (q := 3) hX dX3_keeps_2 rfl rfl rfl ?_
  refine ro_bipush (v := nI 6) (q := 5) hX dX3_keeps_3 rfl rfl ?_
  refine ro_icmp_ge (tgt := 31) (q := 8) hX dX3_keeps_5 (by decide) rfl (fun q => absurd q (by decide)) (fun _ => ?_)
  refine ro_aload_n (i := 0) (q := 9) hX dX3_keeps_8 rfl rfl rfl ?_
  refine ro_Ngi (j := 2) (q9 := 12) (by decide) hX kf_X3_95 dX3_keeps_9 rfl ?_
  refine vv_top (y := (nI 6)) (hF9) ?_
  refine ro_bipush (v := nI 6) (q := 14) hX dX3_keeps_12 rfl rfl ?_
  refine ro_icmp_ne (tgt := 31) (q := 17) hX dX3_keeps_14 (by decide) rfl (fun q => absurd (by decide) q) (fun _ => ?_)
  refine ro_aload_n (i := 0) (q := 18) hX dX3_keeps_17 rfl rfl rfl ?_
  refine ro_iload_n (i := 1) (q := 19) hX dX3_keeps_18 rfl rfl rfl ?_
  refine ro_iconst (v := nI 1) (q := 20) hX dX3_keeps_19 rfl rfl ?_
  refine ro_iadd (q := 21) hX dX3_keeps_20 rfl ?_
  refine vv_top (y := nI 3) (nI_add' rfl rfl) ?_
  refine ro_iload_n (i := 1) (q := 22) hX dX3_keeps_21 rfl rfl rfl ?_
  refine ro_callVv (q9 := 25) hX (m_carries (by omega) (by omega)) mw_X3_carries kl_X3_98 (by decide) (fun cy => cell3 (by decide +kernel)) rfl rfl rfl (Nat.le_of_ble_eq_true rfl) ⟨Nat.le_of_ble_eq_true rfl, Nat.le_of_ble_eq_true rfl⟩ dX3_keeps_22 ⟨Nat.le_of_ble_eq_true rfl, Nat.le_of_ble_eq_true rfl⟩ rfl ?_
  refine ro_iinc (i := 1) (v := nI 3) (q := 28) hX dX3_keeps_25 rfl (ni_inc _) (Nat.le_of_ble_eq_true rfl) rfl ?_
  refine ro_goto (tgt := 2) hX dX3_keeps_28 (by decide) ?_
  refine ro_iload_n (i := 1) (q := 3) hX dX3_keeps_2 rfl rfl rfl ?_
  refine ro_bipush (v := nI 6) (q := 5) hX dX3_keeps_3 rfl rfl ?_
  refine ro_icmp_ge (tgt := 31) (q := 8) hX dX3_keeps_5 (by decide) rfl (fun q => absurd q (by decide)) (fun _ => ?_)
  refine ro_aload_n (i := 0) (q := 9) hX dX3_keeps_8 rfl rfl rfl ?_
  refine ro_Ngi (j := 2) (q9 := 12) (by decide) hX kf_X3_95 dX3_keeps_9 rfl ?_
  refine vv_top (y := (nI 6)) (hF9) ?_
  refine ro_bipush (v := nI 6) (q := 14) hX dX3_keeps_12 rfl rfl ?_
  refine ro_icmp_ne (tgt := 31) (q := 17) hX dX3_keeps_14 (by decide) rfl (fun q => absurd (by decide) q) (fun _ => ?_)
  refine ro_aload_n (i := 0) (q := 18) hX dX3_keeps_17 rfl rfl rfl ?_
  refine ro_iload_n (i := 1) (q := 19) hX dX3_keeps_18 rfl rfl rfl ?_
  refine ro_iconst (v := nI 1) (q := 20) hX dX3_keeps_19 rfl rfl ?_
  refine ro_iadd (q := 21) hX dX3_keeps_20 rfl ?_
  refine vv_top (y := nI 4) (nI_add' rfl rfl) ?_
  refine ro_iload_n (i := 1) (q := 22) hX dX3_keeps_21 rfl rfl rfl ?_
  refine ro_callVv (q9 := 25) hX (m_carries (by omega) (by omega)) mw_X3_carries kl_X3_98 (by decide) (fun cy => cell3 (by decide +kernel)) rfl rfl rfl (Nat.le_of_ble_eq_true rfl) ⟨Nat.le_of_ble_eq_true rfl, Nat.le_of_ble_eq_true rfl⟩ dX3_keeps_22 ⟨Nat.le_of_ble_eq_true rfl, Nat.le_of_ble_eq_true rfl⟩ rfl ?_
  refine ro_iinc (i := 1) (v := nI 4) (q := 28) hX dX3_keeps_25 rfl (ni_inc _) (Nat.le_of_ble_eq_true rfl) rfl ?_
  refine ro_goto (tgt := 2) hX dX3_keeps_28 (by decide) ?_
  refine ro_iload_n (i := 1) (q := 3) hX dX3_keeps_2 rfl rfl rfl ?_
  refine ro_bipush (v := nI 6) (q := 5) hX dX3_keeps_3 rfl rfl ?_
  refine ro_icmp_ge (tgt := 31) (q := 8) hX dX3_keeps_5 (by decide) rfl (fun q => absurd q (by decide)) (fun _ => ?_)
  refine ro_aload_n (i := 0) (q := 9) hX dX3_keeps_8 rfl rfl rfl ?_
  refine ro_Ngi (j := 2) (q9 := 12) (by decide) hX kf_X3_95 dX3_keeps_9 rfl ?_
  refine vv_top (y := (nI 6)) (hF9) ?_
  refine ro_bipush (v := nI 6) (q := 14) hX dX3_keeps_12 rfl rfl ?_
  refine ro_icmp_ne (tgt := 31) (q := 17) hX dX3_keeps_14 (by decide) rfl (fun q => absurd (by decide) q) (fun _ => ?_)
  refine ro_aload_n (i := 0) (q := 18) hX dX3_keeps_17 rfl rfl rfl ?_
  refine ro_iload_n (i := 1) (q := 19) hX dX3_keeps_18 rfl rfl rfl ?_
  refine ro_iconst (v := nI 1) (q := 20) hX dX3_keeps_19 rfl rfl ?_
  refine ro_iadd (q := 21) hX dX3_keeps_20 rfl ?_
  refine vv_top (y := nI 5) (nI_add' rfl rfl) ?_
  refine ro_iload_n (i := 1) (q := 22) hX dX3_keeps_21 rfl rfl rfl ?_
  refine ro_callVv (q9 := 25) hX (m_carries (by omega) (by omega)) mw_X3_carries kl_X3_98 (by decide) (fun cy => cell3 (by decide +kernel)) rfl rfl rfl (Nat.le_of_ble_eq_true rfl) ⟨Nat.le_of_ble_eq_true rfl, Nat.le_of_ble_eq_true rfl⟩ dX3_keeps_22 ⟨Nat.le_of_ble_eq_true rfl, Nat.le_of_ble_eq_true rfl⟩ rfl ?_
  refine ro_iinc (i := 1) (v := nI 5) (q := 28) hX dX3_keeps_25 rfl (ni_inc _) (Nat.le_of_ble_eq_true rfl) rfl ?_
  refine ro_goto (tgt := 2) hX dX3_keeps_28 (by decide) ?_
  refine ro_iload_n (i := 1) (q := 3) hX dX3_keeps_2 rfl rfl rfl ?_
  refine ro_bipush (v := nI 6) (q := 5) hX dX3_keeps_3 rfl rfl ?_
  refine ro_icmp_ge (tgt := 31) (q := 8) hX dX3_keeps_5 (by decide) rfl (fun q => absurd q (by decide)) (fun _ => ?_)
  refine ro_aload_n (i := 0) (q := 9) hX dX3_keeps_8 rfl rfl rfl ?_
  refine ro_Ngi (j := 2) (q9 := 12) (by decide) hX kf_X3_95 dX3_keeps_9 rfl ?_
  refine vv_top (y := (nI 6)) (hF9) ?_
  refine ro_bipush (v := nI 6) (q := 14) hX dX3_keeps_12 rfl rfl ?_
  refine ro_icmp_ne (tgt := 31) (q := 17) hX dX3_keeps_14 (by decide) rfl (fun q => absurd (by decide) q) (fun _ => ?_)
  refine ro_aload_n (i := 0) (q := 18) hX dX3_keeps_17 rfl rfl rfl ?_
  refine ro_iload_n (i := 1) (q := 19) hX dX3_keeps_18 rfl rfl rfl ?_
  refine ro_iconst (v := nI 1) (q := 20) hX dX3_keeps_19 rfl rfl ?_
  refine ro_iadd (q := 21) hX dX3_keeps_20 rfl ?_
  refine vv_top (y := nI 6) (nI_add' rfl rfl) ?_
  refine ro_iload_n (i := 1) (q := 22) hX dX3_keeps_21 rfl rfl rfl ?_
  refine ro_callVv (q9 := 25) hX (m_carries (by omega) (by omega)) mw_X3_carries kl_X3_98 (by decide) (fun cy => cell3 (by decide +kernel)) rfl rfl rfl (Nat.le_of_ble_eq_true rfl) ⟨Nat.le_of_ble_eq_true rfl, Nat.le_of_ble_eq_true rfl⟩ dX3_keeps_22 ⟨Nat.le_of_ble_eq_true rfl, Nat.le_of_ble_eq_true rfl⟩ rfl ?_
  refine ro_iinc (i := 1) (v := nI 6) (q := 28) hX dX3_keeps_25 rfl (ni_inc _) (Nat.le_of_ble_eq_true rfl) rfl ?_
  refine ro_goto (tgt := 2) hX dX3_keeps_28 (by decide) ?_
  refine ro_iload_n (i := 1) (q := 3) hX dX3_keeps_2 rfl rfl rfl ?_
  refine ro_bipush (v := nI 6) (q := 5) hX dX3_keeps_3 rfl rfl ?_
  refine ro_icmp_ge (tgt := 31) (q := 8) hX dX3_keeps_5 (by decide) rfl (fun _ => ?_) (fun q => absurd (by decide) q)
  refine ro_aload_n (i := 0) (q := 32) hX dX3_keeps_31 rfl rfl rfl ?_
  refine ro_dup (q := 33) hX dX3_keeps_32 rfl rfl ?_
  refine ro_Ngi (j := 2) (q9 := 36) (by decide) hX kf_X3_95 dX3_keeps_33 rfl ?_
  refine vv_top (y := (nI 6)) (hF9) ?_
  refine ro_aload_n (i := 0) (q := 37) hX dX3_keeps_36 rfl rfl rfl ?_
  refine ro_Ngi (j := 2) (q9 := 40) (by decide) hX kf_X3_95 dX3_keeps_37 rfl ?_
  refine vv_top (y := (nI 6)) (hF9) ?_
  refine ro_bipush (v := nI 6) (q := 42) hX dX3_keeps_40 rfl rfl ?_
  refine ro_icmp_ge (tgt := 49) (q := 45) hX dX3_keeps_42 (by decide) rfl (fun _ => ?_) (fun q => absurd (by decide) q)
  refine ro_iconst (v := nI 0) (q := 50) hX dX3_keeps_49 rfl rfl ?_
  refine ro_iadd (q := 51) hX dX3_keeps_50 rfl ?_
  refine vv_top (y := nI 6) (nI_add' rfl rfl) ?_
  refine ro_Npi (j := 2) (q9 := 54) (ty := .int) (by decide) hX rfl rfl rfl kf_X3_95 dX3_keeps_51 rfl ?_
  refine ro_aload_n (i := 0) (q := 55) hX dX3_keeps_54 rfl rfl rfl ?_
  refine ro_iconst (v := nI 0) (q := 56) hX dX3_keeps_55 rfl rfl ?_
  refine ro_aload_n (i := 0) (q := 57) hX dX3_keeps_56 rfl rfl rfl ?_
  refine ro_Ngi (j := 2) (q9 := 60) (by decide) hX kf_X3_95 dX3_keeps_57 rfl ?_
  refine vv_top (y := (nI 6)) (rfl) ?_
  refine ro_callVv (q9 := 63) hX (m_carries (by omega) (by omega)) mw_X3_carries kl_X3_98 (by decide) (fun cy => cell3 (by decide +kernel)) rfl rfl rfl (Nat.le_of_ble_eq_true rfl) ⟨Nat.le_of_ble_eq_true rfl, Nat.le_of_ble_eq_true rfl⟩ dX3_keeps_60 ⟨Nat.le_of_ble_eq_true rfl, Nat.le_of_ble_eq_true rfl⟩ rfl ?_
  exact fin_v hF (Nat.le_of_ble_eq_true rfl) (Nat.le_of_ble_eq_true rfl) dX3_keeps_63 (by rfl)
set_option maxRecDepth 20000 in
set_option maxHeartbeats 2000000 in
theorem m_lostBy {x : Int32} : Does sz I_X3_lostBy [.ref (sz + 75), .int x] (patch G 75 4 (mS F s), T) 0 0 (.inl (some (nI (lbM s x)))) (patch G 75 4 (mS F s), T) := by
  refine Does.of (L := [(0, .ref (sz + 75)), (1, .int x)]) (by decide +kernel) (Nat.le_of_ble_eq_true rfl) rfl ⟨rfl, (by simp), ⟨rfl, (by simp), trivial⟩⟩ (fun VV hF => ?_)
  have hX := hF.c
  refine ro_iconst (v := nI 0) (q := 1) hX dX3_lostBy_0 rfl rfl ?_
  refine ro_istore_n (i := 2) (q := 2) hX dX3_lostBy_1 rfl (Nat.le_of_ble_eq_true rfl) rfl ?_
  refine ro_iconst (v := nI 0) (q := 3) hX dX3_lostBy_2 rfl rfl ?_
  refine ro_istore_n (i := 3) (q := 4) hX dX3_lostBy_3 rfl (Nat.le_of_ble_eq_true rfl) rfl ?_
  refine vv_LM (L' := [(0, .ref (sz + 75)), (1, .int (x)), (2, .int (nI (lsL s x 0))), (3, .int (nI 0))]) (M' := (patch G 75 4 (mS F s), T)) (by first | with_reducible rfl | (simp [lsL, setL_s, setL_t, setL_0, dropL_0, dropL_c, *]; done) | (simp only [lsL, setL_s, setL_t, setL_0, dropL_0, dropL_c]; (repeat' split) <;> first | with_reducible rfl | contradiction | (exfalso; omega) | (simp_all; done)) | rfl) (by first | with_reducible rfl | (simp [lsL, setL_s, setL_t, setL_0, dropL_0, dropL_c, *]; done) | (simp only [lsL, setL_s, setL_t, setL_0, dropL_0, dropL_c]; (repeat' split) <;> first | with_reducible rfl | contradiction | (exfalso; omega) | (simp_all; done)) | rfl) ?_
  refine down_ind (P := fun k4 => VV 0 0 4 [(0, .ref (sz + 75)), (1, .int (x)), (2, .int (nI (lsL s x k4))), (3, .int (nI k4))] [] (patch G 75 4 (mS F s), T)) (30) (fun k4 hk4 ih4 => ?_) ?_
  · have ih4 : VV 0 0 4 [(0, .ref (sz + 75)), (1, .int (x)), (2, .int (nI (lsL s x (k4 + 1)))), (3, .int (nI (k4 + 1)))] [] (patch G 75 4 (mS F s), T) := ih4
    show VV 0 0 4 [(0, .ref (sz + 75)), (1, .int (x)), (2, .int (nI (lsL s x k4))), (3, .int (nI k4))] [] (patch G 75 4 (mS F s), T)
    refine ro_iload_n (i := 3) (q := 5) hX dX3_lostBy_4 rfl rfl rfl ?_
    refine ro_bipush (v := nI 30) (q := 7) hX dX3_lostBy_5 rfl rfl ?_
    refine ro_icmp_ge (tgt := 81) (q := 10) hX dX3_lostBy_7 (by decide) rfl (fun q => absurd q (by first | exact ni_nle (by omega) (by omega) | exact ni_lt (by omega) (by omega))) (fun _ => ?_)
    refine ro_iconst (v := nI 0) (q := 11) hX dX3_lostBy_10 rfl rfl ?_
    refine ro_istore (i := 4) (q := 13) hX dX3_lostBy_11 (Nat.le_of_ble_eq_true rfl) rfl ?_
    refine ro_iconst (v := nI 0) (q := 14) hX dX3_lostBy_13 rfl rfl ?_
    refine ro_istore (i := 5) (q := 16) hX dX3_lostBy_14 (Nat.le_of_ble_eq_true rfl) rfl ?_
    refine vv_LM (L' := [(0, .ref (sz + 75)), (1, .int (x)), (2, .int (nI (lsL s x k4))), (3, .int (nI k4)), (4, .int (lsI s k4 0)), (5, .int (nI 0))]) (M' := (patch G 75 4 (mS F s), T)) (by first | with_reducible rfl | (simp [lsI, setL_s, setL_t, setL_0, dropL_0, dropL_c, *]; done) | (simp only [lsI, setL_s, setL_t, setL_0, dropL_0, dropL_c]; (repeat' split) <;> first | with_reducible rfl | contradiction | (exfalso; omega) | (simp_all; done)) | rfl) (by first | with_reducible rfl | (simp [lsI, setL_s, setL_t, setL_0, dropL_0, dropL_c, *]; done) | (simp only [lsI, setL_s, setL_t, setL_0, dropL_0, dropL_c]; (repeat' split) <;> first | with_reducible rfl | contradiction | (exfalso; omega) | (simp_all; done)) | rfl) ?_
    refine down_ind (P := fun k16 => VV 0 0 16 [(0, .ref (sz + 75)), (1, .int (x)), (2, .int (nI (lsL s x k4))), (3, .int (nI k4)), (4, .int (lsI s k4 k16)), (5, .int (nI k16))] [] (patch G 75 4 (mS F s), T)) (6) (fun k16 hk16 ih16 => ?_) ?_
    · have ih16 : VV 0 0 16 [(0, .ref (sz + 75)), (1, .int (x)), (2, .int (nI (lsL s x k4))), (3, .int (nI k4)), (4, .int (lsI s k4 (k16 + 1))), (5, .int (nI (k16 + 1)))] [] (patch G 75 4 (mS F s), T) := ih16
      show VV 0 0 16 [(0, .ref (sz + 75)), (1, .int (x)), (2, .int (nI (lsL s x k4))), (3, .int (nI k4)), (4, .int (lsI s k4 k16)), (5, .int (nI k16))] [] (patch G 75 4 (mS F s), T)
      refine ro_iload (i := 5) (q := 18) hX dX3_lostBy_16 rfl rfl ?_
      refine ro_bipush (v := nI 6) (q := 20) hX dX3_lostBy_18 rfl rfl ?_
      refine ro_icmp_ge (tgt := 53) (q := 23) hX dX3_lostBy_20 (by decide) rfl (fun q => absurd q (by first | exact ni_nle (by omega) (by omega) | exact ni_lt (by omega) (by omega))) (fun _ => ?_)
      refine ro_iload (i := 4) (q := 25) hX dX3_lostBy_23 rfl rfl ?_
      refine ro_aload_n (i := 0) (q := 26) hX dX3_lostBy_25 rfl rfl rfl ?_
      refine ro_iconst (v := nI 0) (q := 27) hX dX3_lostBy_26 rfl rfl ?_
      refine ro_iload (i := 5) (q := 29) hX dX3_lostBy_27 rfl rfl ?_
      refine ro_iload_n (i := 3) (q := 30) hX dX3_lostBy_29 rfl rfl rfl ?_
      refine ro_callVi (q9 := 33) hX (m_isFresh (by omega) (by omega) (by omega)) mw_X3_isFresh kl_X3_56 (by decide) (fun cy => cell3 (by decide +kernel)) rfl rfl rfl (Nat.le_of_ble_eq_true rfl) ⟨Nat.le_of_ble_eq_true rfl, Nat.le_of_ble_eq_true rfl⟩ dX3_lostBy_30 ⟨Nat.le_of_ble_eq_true rfl, Nat.le_of_ble_eq_true rfl⟩ rfl ?_
      refine ro_ifb_eq (tgt := 43) (q := 36) hX dX3_lostBy_33 (by decide) rfl (fun q1 => ?_) (fun q1 => ?_)
      · skip
        refine ro_iconst (v := nI 0) (q := 44) hX dX3_lostBy_43 rfl rfl ?_
        refine ro_ior (q := 45) hX dX3_lostBy_44 rfl ?_
        refine ro_istore (i := 4) (q := 47) hX dX3_lostBy_45 (Nat.le_of_ble_eq_true rfl) rfl ?_
        refine ro_iinc (i := 5) (v := nI (k16 + 1)) (q := 50) hX dX3_lostBy_47 rfl (ni_inc _) (Nat.le_of_ble_eq_true rfl) rfl ?_
        refine ro_goto (tgt := 16) hX dX3_lostBy_50 (by decide) ?_
        exact vv_LM (by first | with_reducible rfl | (simp [lsI, setL_s, setL_t, setL_0, dropL_0, dropL_c, *]; done) | (simp only [lsI, setL_s, setL_t, setL_0, dropL_0, dropL_c]; (repeat' split) <;> first | with_reducible rfl | contradiction | (exfalso; omega) | (simp_all; done)) | rfl) (by first | with_reducible rfl | (simp [lsI, setL_s, setL_t, setL_0, dropL_0, dropL_c, *]; done) | (simp only [lsI, setL_s, setL_t, setL_0, dropL_0, dropL_c]; (repeat' split) <;> first | with_reducible rfl | contradiction | (exfalso; omega) | (simp_all; done)) | rfl) ih16
      · skip
        refine ro_iconst (v := nI 1) (q := 37) hX dX3_lostBy_36 rfl rfl ?_
        refine ro_iload (i := 5) (q := 39) hX dX3_lostBy_37 rfl rfl ?_
        refine ro_ishl (q := 40) hX dX3_lostBy_39 rfl ?_
        refine ro_goto (tgt := 44) hX dX3_lostBy_40 (by decide) ?_
        refine ro_ior (q := 45) hX dX3_lostBy_44 rfl ?_
        refine ro_istore (i := 4) (q := 47) hX dX3_lostBy_45 (Nat.le_of_ble_eq_true rfl) rfl ?_
        refine ro_iinc (i := 5) (v := nI (k16 + 1)) (q := 50) hX dX3_lostBy_47 rfl (ni_inc _) (Nat.le_of_ble_eq_true rfl) rfl ?_
        refine ro_goto (tgt := 16) hX dX3_lostBy_50 (by decide) ?_
        exact vv_LM (by first | with_reducible rfl | (simp [lsI, setL_s, setL_t, setL_0, dropL_0, dropL_c, *]; done) | (simp only [lsI, setL_s, setL_t, setL_0, dropL_0, dropL_c]; (repeat' split) <;> first | with_reducible rfl | contradiction | (exfalso; omega) | (simp_all; done)) | rfl) (by first | with_reducible rfl | (simp [lsI, setL_s, setL_t, setL_0, dropL_0, dropL_c, *]; done) | (simp only [lsI, setL_s, setL_t, setL_0, dropL_0, dropL_c]; (repeat' split) <;> first | with_reducible rfl | contradiction | (exfalso; omega) | (simp_all; done)) | rfl) ih16
    · show VV 0 0 16 [(0, .ref (sz + 75)), (1, .int (x)), (2, .int (nI (lsL s x k4))), (3, .int (nI k4)), (4, .int (lsI s k4 6)), (5, .int (nI 6))] [] (patch G 75 4 (mS F s), T)
      refine ro_iload (i := 5) (q := 18) hX dX3_lostBy_16 rfl rfl ?_
      refine ro_bipush (v := nI 6) (q := 20) hX dX3_lostBy_18 rfl rfl ?_
      refine ro_icmp_ge (tgt := 53) (q := 23) hX dX3_lostBy_20 (by decide) rfl (fun _ => ?_) (fun q => absurd (by decide) q)
      refine ro_iload_n (i := 2) (q := 54) hX dX3_lostBy_53 rfl rfl rfl ?_
      refine ro_iload (i := 4) (q := 56) hX dX3_lostBy_54 rfl rfl ?_
      refine ro_if_eq (tgt := 72) (q := 59) hX dX3_lostBy_56 (by decide) rfl (fun q2 => ?_) (fun q2 => ?_)
      · skip
        refine ro_iconst (v := nI 0) (q := 73) hX dX3_lostBy_72 rfl rfl ?_
        refine ro_iadd (q := 74) hX dX3_lostBy_73 rfl ?_
        refine vv_top (y := nI (lsL s x k4 + 0)) (nI_add' rfl rfl) ?_
        refine ro_istore_n (i := 2) (q := 75) hX dX3_lostBy_74 rfl (Nat.le_of_ble_eq_true rfl) rfl ?_
        refine ro_iinc (i := 3) (v := nI (k4 + 1)) (q := 78) hX dX3_lostBy_75 rfl (ni_inc _) (Nat.le_of_ble_eq_true rfl) rfl ?_
        refine ro_goto (tgt := 4) hX dX3_lostBy_78 (by decide) ?_
        refine ro_drop [4, 5] hX rfl ?_
        exact vv_LM (by first | with_reducible rfl | (simp [lsL, lsB, setL_s, setL_t, setL_0, dropL_0, dropL_c, *]; done) | (simp only [lsL, lsB, setL_s, setL_t, setL_0, dropL_0, dropL_c]; (repeat' split) <;> first | with_reducible rfl | contradiction | (exfalso; omega) | (simp_all; done)) | rfl) (by first | with_reducible rfl | (simp [lsL, lsB, setL_s, setL_t, setL_0, dropL_0, dropL_c, *]; done) | (simp only [lsL, lsB, setL_s, setL_t, setL_0, dropL_0, dropL_c]; (repeat' split) <;> first | with_reducible rfl | contradiction | (exfalso; omega) | (simp_all; done)) | rfl) ih4
      · skip
        refine ro_iload (i := 4) (q := 61) hX dX3_lostBy_59 rfl rfl ?_
        refine ro_iload_n (i := 1) (q := 62) hX dX3_lostBy_61 rfl rfl rfl ?_
        refine ro_iand (q := 63) hX dX3_lostBy_62 rfl ?_
        refine ro_iload (i := 4) (q := 65) hX dX3_lostBy_63 rfl rfl ?_
        refine ro_icmp_ne (tgt := 72) (q := 68) hX dX3_lostBy_65 (by decide) rfl (fun q3 => ?_) (fun q3 => ?_)
        · skip
          refine ro_iconst (v := nI 0) (q := 73) hX dX3_lostBy_72 rfl rfl ?_
          refine ro_iadd (q := 74) hX dX3_lostBy_73 rfl ?_
          refine vv_top (y := nI (lsL s x k4 + 0)) (nI_add' rfl rfl) ?_
          refine ro_istore_n (i := 2) (q := 75) hX dX3_lostBy_74 rfl (Nat.le_of_ble_eq_true rfl) rfl ?_
          refine ro_iinc (i := 3) (v := nI (k4 + 1)) (q := 78) hX dX3_lostBy_75 rfl (ni_inc _) (Nat.le_of_ble_eq_true rfl) rfl ?_
          refine ro_goto (tgt := 4) hX dX3_lostBy_78 (by decide) ?_
          refine ro_drop [4, 5] hX rfl ?_
          exact vv_LM (by first | with_reducible rfl | (simp [lsL, lsB, setL_s, setL_t, setL_0, dropL_0, dropL_c, *]; done) | (simp only [lsL, lsB, setL_s, setL_t, setL_0, dropL_0, dropL_c]; (repeat' split) <;> first | with_reducible rfl | contradiction | (exfalso; omega) | (simp_all; done)) | rfl) (by first | with_reducible rfl | (simp [lsL, lsB, setL_s, setL_t, setL_0, dropL_0, dropL_c, *]; done) | (simp only [lsL, lsB, setL_s, setL_t, setL_0, dropL_0, dropL_c]; (repeat' split) <;> first | with_reducible rfl | contradiction | (exfalso; omega) | (simp_all; done)) | rfl) ih4
        · skip
          refine ro_iconst (v := nI 1) (q := 69) hX dX3_lostBy_68 rfl rfl ?_
          refine ro_goto (tgt := 73) hX dX3_lostBy_69 (by decide) ?_
          refine ro_iadd (q := 74) hX dX3_lostBy_73 rfl ?_
          refine vv_top (y := nI (lsL s x k4 + 1)) (nI_add' rfl rfl) ?_
          refine ro_istore_n (i := 2) (q := 75) hX dX3_lostBy_74 rfl (Nat.le_of_ble_eq_true rfl) rfl ?_
          refine ro_iinc (i := 3) (v := nI (k4 + 1)) (q := 78) hX dX3_lostBy_75 rfl (ni_inc _) (Nat.le_of_ble_eq_true rfl) rfl ?_
          refine ro_goto (tgt := 4) hX dX3_lostBy_78 (by decide) ?_
          refine ro_drop [4, 5] hX rfl ?_
          exact vv_LM (by first | with_reducible rfl | (simp [lsL, lsB, setL_s, setL_t, setL_0, dropL_0, dropL_c, *]; done) | (simp only [lsL, lsB, setL_s, setL_t, setL_0, dropL_0, dropL_c]; (repeat' split) <;> first | with_reducible rfl | contradiction | (exfalso; omega) | (simp_all; done)) | rfl) (by first | with_reducible rfl | (simp [lsL, lsB, setL_s, setL_t, setL_0, dropL_0, dropL_c, *]; done) | (simp only [lsL, lsB, setL_s, setL_t, setL_0, dropL_0, dropL_c]; (repeat' split) <;> first | with_reducible rfl | contradiction | (exfalso; omega) | (simp_all; done)) | rfl) ih4
  · show VV 0 0 4 [(0, .ref (sz + 75)), (1, .int (x)), (2, .int (nI (lsL s x 30))), (3, .int (nI 30))] [] (patch G 75 4 (mS F s), T)
    refine ro_iload_n (i := 3) (q := 5) hX dX3_lostBy_4 rfl rfl rfl ?_
    refine ro_bipush (v := nI 30) (q := 7) hX dX3_lostBy_5 rfl rfl ?_
    refine ro_icmp_ge (tgt := 81) (q := 10) hX dX3_lostBy_7 (by decide) rfl (fun _ => ?_) (fun q => absurd (by decide) q)
    refine ro_iload_n (i := 2) (q := 82) hX dX3_lostBy_81 rfl rfl rfl ?_
    exact fin_i hF (Nat.le_of_ble_eq_true rfl) (Nat.le_of_ble_eq_true rfl) dX3_lostBy_82 (by rfl) (by rfl)
set_option maxRecDepth 20000 in
set_option maxHeartbeats 2000000 in
theorem m_rests {b : Nat} (hb : b ≤ 2448) : Does sz I_X3_rests [.ref (sz + 75), .int (nI b)] (patch G 75 4 (mS F s), T) 0 0 (.inl (some (bi (reC s b 6)))) (patch G 75 4 (mS F s), T) := by
  refine Does.of (L := [(0, .ref (sz + 75)), (1, .int (nI b))]) (by decide +kernel) (Nat.le_of_ble_eq_true rfl) rfl ⟨rfl, (by simp), ⟨rfl, (by simp), trivial⟩⟩ (fun VV hF => ?_)
  have hX := hF.c
  refine ro_aload_n (i := 0) (q := 1) hX dX3_rests_0 rfl rfl rfl ?_
  refine ro_Nga1 (q9 := 4) hX kf_X3_7 dX3_rests_1 rfl ?_
  refine ro_iload_n (i := 1) (q := 5) hX dX3_rests_4 rfl rfl rfl ?_
  refine ro_iconst (v := nI 4) (q := 6) hX dX3_rests_5 rfl rfl ?_
  refine ro_iadd (q := 7) hX dX3_rests_6 rfl ?_
  refine vv_top (y := nI (b + 4)) (nI_add' rfl rfl) ?_
  refine ro_Nsld (n := b + 4) (q9 := 8) hX rfl (by omega) dX3_rests_7 rfl ?_
  refine ro_iconst (v := (-1)) (q := 9) hX dX3_rests_8 rfl rfl ?_
  refine ro_icmp_ne (tgt := 16) (q := 12) hX dX3_rests_9 (by decide) rfl (fun q1 => ?_) (fun q1 => ?_)
  · skip
    refine ro_iconst (v := nI 0) (q := 17) hX dX3_rests_16 rfl rfl ?_
    refine ro_istore_n (i := 2) (q := 18) hX dX3_rests_17 rfl (Nat.le_of_ble_eq_true rfl) rfl ?_
    refine ro_iconst (v := nI 0) (q := 19) hX dX3_rests_18 rfl rfl ?_
    refine ro_istore_n (i := 3) (q := 20) hX dX3_rests_19 rfl (Nat.le_of_ble_eq_true rfl) rfl ?_
    refine vv_LM (L' := [(0, .ref (sz + 75)), (1, .int (nI b)), (2, .int (bi (reC s b 0))), (3, .int (nI 0))]) (M' := (patch G 75 4 (mS F s), T)) (by first | with_reducible rfl | (simp [reC, bi, setL_s, setL_t, setL_0, dropL_0, dropL_c, *]; done) | (simp only [reC, bi, setL_s, setL_t, setL_0, dropL_0, dropL_c]; (repeat' split) <;> first | with_reducible rfl | contradiction | (exfalso; omega) | (simp_all; done)) | rfl) (by first | with_reducible rfl | (simp [reC, bi, setL_s, setL_t, setL_0, dropL_0, dropL_c, *]; done) | (simp only [reC, bi, setL_s, setL_t, setL_0, dropL_0, dropL_c]; (repeat' split) <;> first | with_reducible rfl | contradiction | (exfalso; omega) | (simp_all; done)) | rfl) ?_
    refine down_ind (P := fun k20 => VV 0 0 20 [(0, .ref (sz + 75)), (1, .int (nI b)), (2, .int (bi (reC s b k20))), (3, .int (nI k20))] [] (patch G 75 4 (mS F s), T)) (6) (fun k20 hk20 ih20 => ?_) ?_
    · have ih20 : VV 0 0 20 [(0, .ref (sz + 75)), (1, .int (nI b)), (2, .int (bi (reC s b (k20 + 1)))), (3, .int (nI (k20 + 1)))] [] (patch G 75 4 (mS F s), T) := ih20
      show VV 0 0 20 [(0, .ref (sz + 75)), (1, .int (nI b)), (2, .int (bi (reC s b k20))), (3, .int (nI k20))] [] (patch G 75 4 (mS F s), T)
      refine ro_iload_n (i := 3) (q := 21) hX dX3_rests_20 rfl rfl rfl ?_
      refine ro_bipush (v := nI 6) (q := 23) hX dX3_rests_21 rfl rfl ?_
      refine ro_icmp_ge (tgt := 53) (q := 26) hX dX3_rests_23 (by decide) rfl (fun q => absurd q (by first | exact ni_nle (by omega) (by omega) | exact ni_lt (by omega) (by omega))) (fun _ => ?_)
      refine ro_iload_n (i := 2) (q := 27) hX dX3_rests_26 rfl rfl rfl ?_
      refine ro_ifb_eq (tgt := 45) (q := 30) hX dX3_rests_27 (by decide) rfl (fun q2 => ?_) (fun q2 => ?_)
      · skip
        refine ro_iconst (v := nI 0) (q := 46) hX dX3_rests_45 rfl rfl ?_
        refine ro_istore_n (i := 2) (q := 47) hX dX3_rests_46 rfl (Nat.le_of_ble_eq_true rfl) rfl ?_
        refine ro_iinc (i := 3) (v := nI (k20 + 1)) (q := 50) hX dX3_rests_47 rfl (ni_inc _) (Nat.le_of_ble_eq_true rfl) rfl ?_
        refine ro_goto (tgt := 20) hX dX3_rests_50 (by decide) ?_
        exact vv_LM (by first | with_reducible rfl | (simp [reC, bi, setL_s, setL_t, setL_0, dropL_0, dropL_c, *]; done) | (simp only [reC, bi, setL_s, setL_t, setL_0, dropL_0, dropL_c]; (repeat' split) <;> first | with_reducible rfl | contradiction | (exfalso; omega) | (simp_all; done)) | rfl) (by first | with_reducible rfl | (simp [reC, bi, setL_s, setL_t, setL_0, dropL_0, dropL_c, *]; done) | (simp only [reC, bi, setL_s, setL_t, setL_0, dropL_0, dropL_c]; (repeat' split) <;> first | with_reducible rfl | contradiction | (exfalso; omega) | (simp_all; done)) | rfl) ih20
      · skip
        refine ro_aload_n (i := 0) (q := 31) hX dX3_rests_30 rfl rfl rfl ?_
        refine ro_iload_n (i := 1) (q := 32) hX dX3_rests_31 rfl rfl rfl ?_
        refine ro_iload_n (i := 3) (q := 33) hX dX3_rests_32 rfl rfl rfl ?_
        refine ro_iconst (v := nI 0) (q := 34) hX dX3_rests_33 rfl rfl ?_
        refine ro_callVi (q9 := 37) hX (m_of (by omega) (by omega) (by omega)) mw_X3_of kl_X3_36 (by decide) (fun cy => cell3 (by decide +kernel)) rfl rfl rfl (Nat.le_of_ble_eq_true rfl) ⟨Nat.le_of_ble_eq_true rfl, Nat.le_of_ble_eq_true rfl⟩ dX3_rests_34 ⟨Nat.le_of_ble_eq_true rfl, Nat.le_of_ble_eq_true rfl⟩ rfl ?_
        refine ro_iconst (v := nI 2) (q := 38) hX dX3_rests_37 rfl rfl ?_
        refine ro_icmp_eq (tgt := 45) (q := 41) hX dX3_rests_38 (by decide) rfl (fun q3 => ?_) (fun q3 => ?_)
        · skip
          refine ro_iconst (v := nI 0) (q := 46) hX dX3_rests_45 rfl rfl ?_
          refine ro_istore_n (i := 2) (q := 47) hX dX3_rests_46 rfl (Nat.le_of_ble_eq_true rfl) rfl ?_
          refine ro_iinc (i := 3) (v := nI (k20 + 1)) (q := 50) hX dX3_rests_47 rfl (ni_inc _) (Nat.le_of_ble_eq_true rfl) rfl ?_
          refine ro_goto (tgt := 20) hX dX3_rests_50 (by decide) ?_
          exact vv_LM (by first | with_reducible rfl | (simp [reC, bi, setL_s, setL_t, setL_0, dropL_0, dropL_c, *]; done) | (simp only [reC, bi, setL_s, setL_t, setL_0, dropL_0, dropL_c]; (repeat' split) <;> first | with_reducible rfl | contradiction | (exfalso; omega) | (simp_all; done)) | rfl) (by first | with_reducible rfl | (simp [reC, bi, setL_s, setL_t, setL_0, dropL_0, dropL_c, *]; done) | (simp only [reC, bi, setL_s, setL_t, setL_0, dropL_0, dropL_c]; (repeat' split) <;> first | with_reducible rfl | contradiction | (exfalso; omega) | (simp_all; done)) | rfl) ih20
        · skip
          refine ro_iconst (v := nI 1) (q := 42) hX dX3_rests_41 rfl rfl ?_
          refine ro_goto (tgt := 46) hX dX3_rests_42 (by decide) ?_
          refine ro_istore_n (i := 2) (q := 47) hX dX3_rests_46 rfl (Nat.le_of_ble_eq_true rfl) rfl ?_
          refine ro_iinc (i := 3) (v := nI (k20 + 1)) (q := 50) hX dX3_rests_47 rfl (ni_inc _) (Nat.le_of_ble_eq_true rfl) rfl ?_
          refine ro_goto (tgt := 20) hX dX3_rests_50 (by decide) ?_
          exact vv_LM (by first | with_reducible rfl | (simp [reC, bi, setL_s, setL_t, setL_0, dropL_0, dropL_c, *]; done) | (simp only [reC, bi, setL_s, setL_t, setL_0, dropL_0, dropL_c]; (repeat' split) <;> first | with_reducible rfl | contradiction | (exfalso; omega) | (simp_all; done)) | rfl) (by first | with_reducible rfl | (simp [reC, bi, setL_s, setL_t, setL_0, dropL_0, dropL_c, *]; done) | (simp only [reC, bi, setL_s, setL_t, setL_0, dropL_0, dropL_c]; (repeat' split) <;> first | with_reducible rfl | contradiction | (exfalso; omega) | (simp_all; done)) | rfl) ih20
    · show VV 0 0 20 [(0, .ref (sz + 75)), (1, .int (nI b)), (2, .int (bi (reC s b 6))), (3, .int (nI 6))] [] (patch G 75 4 (mS F s), T)
      refine ro_iload_n (i := 3) (q := 21) hX dX3_rests_20 rfl rfl rfl ?_
      refine ro_bipush (v := nI 6) (q := 23) hX dX3_rests_21 rfl rfl ?_
      refine ro_icmp_ge (tgt := 53) (q := 26) hX dX3_rests_23 (by decide) rfl (fun _ => ?_) (fun q => absurd (by decide) q)
      refine ro_iload_n (i := 2) (q := 54) hX dX3_rests_53 rfl rfl rfl ?_
      exact fin_z hF (Nat.le_of_ble_eq_true rfl) (Nat.le_of_ble_eq_true rfl) dX3_rests_54 (bi_nar _) (by rfl) (by rfl)
  · skip
    refine ro_iconst (v := nI 1) (q := 13) hX dX3_rests_12 rfl rfl ?_
    refine ro_goto (tgt := 17) hX dX3_rests_13 (by decide) ?_
    refine ro_istore_n (i := 2) (q := 18) hX dX3_rests_17 rfl (Nat.le_of_ble_eq_true rfl) rfl ?_
    refine ro_iconst (v := nI 0) (q := 19) hX dX3_rests_18 rfl rfl ?_
    refine ro_istore_n (i := 3) (q := 20) hX dX3_rests_19 rfl (Nat.le_of_ble_eq_true rfl) rfl ?_
    refine vv_LM (L' := [(0, .ref (sz + 75)), (1, .int (nI b)), (2, .int (bi (reC s b 0))), (3, .int (nI 0))]) (M' := (patch G 75 4 (mS F s), T)) (by first | with_reducible rfl | (simp [reC, bi, setL_s, setL_t, setL_0, dropL_0, dropL_c, *]; done) | (simp only [reC, bi, setL_s, setL_t, setL_0, dropL_0, dropL_c]; (repeat' split) <;> first | with_reducible rfl | contradiction | (exfalso; omega) | (simp_all; done)) | rfl) (by first | with_reducible rfl | (simp [reC, bi, setL_s, setL_t, setL_0, dropL_0, dropL_c, *]; done) | (simp only [reC, bi, setL_s, setL_t, setL_0, dropL_0, dropL_c]; (repeat' split) <;> first | with_reducible rfl | contradiction | (exfalso; omega) | (simp_all; done)) | rfl) ?_
    refine down_ind (P := fun k20 => VV 0 0 20 [(0, .ref (sz + 75)), (1, .int (nI b)), (2, .int (bi (reC s b k20))), (3, .int (nI k20))] [] (patch G 75 4 (mS F s), T)) (6) (fun k20 hk20 ih20 => ?_) ?_
    · have ih20 : VV 0 0 20 [(0, .ref (sz + 75)), (1, .int (nI b)), (2, .int (bi (reC s b (k20 + 1)))), (3, .int (nI (k20 + 1)))] [] (patch G 75 4 (mS F s), T) := ih20
      show VV 0 0 20 [(0, .ref (sz + 75)), (1, .int (nI b)), (2, .int (bi (reC s b k20))), (3, .int (nI k20))] [] (patch G 75 4 (mS F s), T)
      refine ro_iload_n (i := 3) (q := 21) hX dX3_rests_20 rfl rfl rfl ?_
      refine ro_bipush (v := nI 6) (q := 23) hX dX3_rests_21 rfl rfl ?_
      refine ro_icmp_ge (tgt := 53) (q := 26) hX dX3_rests_23 (by decide) rfl (fun q => absurd q (by first | exact ni_nle (by omega) (by omega) | exact ni_lt (by omega) (by omega))) (fun _ => ?_)
      refine ro_iload_n (i := 2) (q := 27) hX dX3_rests_26 rfl rfl rfl ?_
      refine ro_ifb_eq (tgt := 45) (q := 30) hX dX3_rests_27 (by decide) rfl (fun q4 => ?_) (fun q4 => ?_)
      · skip
        refine ro_iconst (v := nI 0) (q := 46) hX dX3_rests_45 rfl rfl ?_
        refine ro_istore_n (i := 2) (q := 47) hX dX3_rests_46 rfl (Nat.le_of_ble_eq_true rfl) rfl ?_
        refine ro_iinc (i := 3) (v := nI (k20 + 1)) (q := 50) hX dX3_rests_47 rfl (ni_inc _) (Nat.le_of_ble_eq_true rfl) rfl ?_
        refine ro_goto (tgt := 20) hX dX3_rests_50 (by decide) ?_
        exact vv_LM (by first | with_reducible rfl | (simp [reC, bi, setL_s, setL_t, setL_0, dropL_0, dropL_c, *]; done) | (simp only [reC, bi, setL_s, setL_t, setL_0, dropL_0, dropL_c]; (repeat' split) <;> first | with_reducible rfl | contradiction | (exfalso; omega) | (simp_all; done)) | rfl) (by first | with_reducible rfl | (simp [reC, bi, setL_s, setL_t, setL_0, dropL_0, dropL_c, *]; done) | (simp only [reC, bi, setL_s, setL_t, setL_0, dropL_0, dropL_c]; (repeat' split) <;> first | with_reducible rfl | contradiction | (exfalso; omega) | (simp_all; done)) | rfl) ih20
      · skip
        refine ro_aload_n (i := 0) (q := 31) hX dX3_rests_30 rfl rfl rfl ?_
        refine ro_iload_n (i := 1) (q := 32) hX dX3_rests_31 rfl rfl rfl ?_
        refine ro_iload_n (i := 3) (q := 33) hX dX3_rests_32 rfl rfl rfl ?_
        refine ro_iconst (v := nI 0) (q := 34) hX dX3_rests_33 rfl rfl ?_
        refine ro_callVi (q9 := 37) hX (m_of (by omega) (by omega) (by omega)) mw_X3_of kl_X3_36 (by decide) (fun cy => cell3 (by decide +kernel)) rfl rfl rfl (Nat.le_of_ble_eq_true rfl) ⟨Nat.le_of_ble_eq_true rfl, Nat.le_of_ble_eq_true rfl⟩ dX3_rests_34 ⟨Nat.le_of_ble_eq_true rfl, Nat.le_of_ble_eq_true rfl⟩ rfl ?_
        refine ro_iconst (v := nI 2) (q := 38) hX dX3_rests_37 rfl rfl ?_
        refine ro_icmp_eq (tgt := 45) (q := 41) hX dX3_rests_38 (by decide) rfl (fun q5 => ?_) (fun q5 => ?_)
        · skip
          refine ro_iconst (v := nI 0) (q := 46) hX dX3_rests_45 rfl rfl ?_
          refine ro_istore_n (i := 2) (q := 47) hX dX3_rests_46 rfl (Nat.le_of_ble_eq_true rfl) rfl ?_
          refine ro_iinc (i := 3) (v := nI (k20 + 1)) (q := 50) hX dX3_rests_47 rfl (ni_inc _) (Nat.le_of_ble_eq_true rfl) rfl ?_
          refine ro_goto (tgt := 20) hX dX3_rests_50 (by decide) ?_
          exact vv_LM (by first | with_reducible rfl | (simp [reC, bi, setL_s, setL_t, setL_0, dropL_0, dropL_c, *]; done) | (simp only [reC, bi, setL_s, setL_t, setL_0, dropL_0, dropL_c]; (repeat' split) <;> first | with_reducible rfl | contradiction | (exfalso; omega) | (simp_all; done)) | rfl) (by first | with_reducible rfl | (simp [reC, bi, setL_s, setL_t, setL_0, dropL_0, dropL_c, *]; done) | (simp only [reC, bi, setL_s, setL_t, setL_0, dropL_0, dropL_c]; (repeat' split) <;> first | with_reducible rfl | contradiction | (exfalso; omega) | (simp_all; done)) | rfl) ih20
        · skip
          refine ro_iconst (v := nI 1) (q := 42) hX dX3_rests_41 rfl rfl ?_
          refine ro_goto (tgt := 46) hX dX3_rests_42 (by decide) ?_
          refine ro_istore_n (i := 2) (q := 47) hX dX3_rests_46 rfl (Nat.le_of_ble_eq_true rfl) rfl ?_
          refine ro_iinc (i := 3) (v := nI (k20 + 1)) (q := 50) hX dX3_rests_47 rfl (ni_inc _) (Nat.le_of_ble_eq_true rfl) rfl ?_
          refine ro_goto (tgt := 20) hX dX3_rests_50 (by decide) ?_
          exact vv_LM (by first | with_reducible rfl | (simp [reC, bi, setL_s, setL_t, setL_0, dropL_0, dropL_c, *]; done) | (simp only [reC, bi, setL_s, setL_t, setL_0, dropL_0, dropL_c]; (repeat' split) <;> first | with_reducible rfl | contradiction | (exfalso; omega) | (simp_all; done)) | rfl) (by first | with_reducible rfl | (simp [reC, bi, setL_s, setL_t, setL_0, dropL_0, dropL_c, *]; done) | (simp only [reC, bi, setL_s, setL_t, setL_0, dropL_0, dropL_c]; (repeat' split) <;> first | with_reducible rfl | contradiction | (exfalso; omega) | (simp_all; done)) | rfl) ih20
    · show VV 0 0 20 [(0, .ref (sz + 75)), (1, .int (nI b)), (2, .int (bi (reC s b 6))), (3, .int (nI 6))] [] (patch G 75 4 (mS F s), T)
      refine ro_iload_n (i := 3) (q := 21) hX dX3_rests_20 rfl rfl rfl ?_
      refine ro_bipush (v := nI 6) (q := 23) hX dX3_rests_21 rfl rfl ?_
      refine ro_icmp_ge (tgt := 53) (q := 26) hX dX3_rests_23 (by decide) rfl (fun _ => ?_) (fun q => absurd (by decide) q)
      refine ro_iload_n (i := 2) (q := 54) hX dX3_rests_53 rfl rfl rfl ?_
      exact fin_z hF (Nat.le_of_ble_eq_true rfl) (Nat.le_of_ble_eq_true rfl) dX3_rests_54 (bi_nar _) (by rfl) (by rfl)
end
