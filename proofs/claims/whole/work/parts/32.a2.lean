section
variable {sz r : Nat} {G : Nat → Nat → Int32} {T : (Nat → Nat) × Int64} {F : SV} {s : NV}
set_option maxRecDepth 20000 in
set_option maxHeartbeats 2000000 in
theorem m_chooses_n {b : Nat} (hb : b ≤ 2448) (hc : ¬ (chM s b 180).1.1 < 4) : Does sz I_X3_chooses [.ref (sz + 75), .int (nI b)] (patch G 75 4 (mS F s), T) 0 0 (.inl none) (patch G 75 4 (mS F (cgM s b)), T) := by
  refine Does.of (L := [(0, .ref (sz + 75)), (1, .int (nI b))]) (by decide +kernel) (Nat.le_of_ble_eq_true rfl) rfl ⟨rfl, (by simp), ⟨rfl, (by simp), trivial⟩⟩ (fun VV hF => ?_)
  have hX := hF.c
  refine ro_iconst (v := nI 4) (q := 1) hX dX3_chooses_0 rfl rfl ?_
  refine ro_istore_n (i := 2) (q := 2) hX dX3_chooses_1 rfl (Nat.le_of_ble_eq_true rfl) rfl ?_
  refine ro_iconst (v := nI 0) (q := 3) hX dX3_chooses_2 rfl rfl ?_
  refine ro_istore_n (i := 3) (q := 4) hX dX3_chooses_3 rfl (Nat.le_of_ble_eq_true rfl) rfl ?_
  refine ro_iconst (v := nI 0) (q := 5) hX dX3_chooses_4 rfl rfl ?_
  refine ro_istore (i := 4) (q := 7) hX dX3_chooses_5 (Nat.le_of_ble_eq_true rfl) rfl ?_
  refine vv_LM (L' := [(0, .ref (sz + 75)), (1, .int (nI b)), (2, .int (nI (chM s b 0).1.1)), (3, .int ((chM s b 0).1.2)), (4, .int (nI 0))]) (M' := (patch G 75 4 (mS F ((chM s b 0).2)), T)) (by rfl) (by rfl) ?_
  refine down_ind (P := fun k7 => VV 0 0 7 [(0, .ref (sz + 75)), (1, .int (nI b)), (2, .int (nI (chM s b k7).1.1)), (3, .int ((chM s b k7).1.2)), (4, .int (nI k7))] [] (patch G 75 4 (mS F ((chM s b k7).2)), T)) (180) (fun k7 hk7 ih7 => ?_) ?_
  · have ih7 : VV 0 0 7 [(0, .ref (sz + 75)), (1, .int (nI b)), (2, .int (nI (chM s b (k7 + 1)).1.1)), (3, .int ((chM s b (k7 + 1)).1.2)), (4, .int (nI (k7 + 1)))] [] (patch G 75 4 (mS F ((chM s b (k7 + 1)).2)), T) := ih7
    show VV 0 0 7 [(0, .ref (sz + 75)), (1, .int (nI b)), (2, .int (nI (chM s b k7).1.1)), (3, .int ((chM s b k7).1.2)), (4, .int (nI k7))] [] (patch G 75 4 (mS F ((chM s b k7).2)), T)
    have hcl := clsM_lt (s := (chM s b k7).2) (b := b) (p := k7 / 6) (h := k7 % 6)
    have hle := chM_lt (s := s) (b := b) k7
    refine ro_iload (i := 4) (q := 9) hX dX3_chooses_7 rfl rfl ?_
    refine ro_sipush (v := nI 180) (q := 12) hX dX3_chooses_9 rfl rfl ?_
    refine ro_icmp_ge (tgt := 117) (q := 15) hX dX3_chooses_12 (by decide) rfl (fun q => absurd q (by first | exact ni_nle (by omega) (by omega) | exact ni_lt (by omega) (by omega))) (fun _ => ?_)
    refine ro_aload_n (i := 0) (q := 16) hX dX3_chooses_15 rfl rfl rfl ?_
    refine ro_iload_n (i := 1) (q := 17) hX dX3_chooses_16 rfl rfl rfl ?_
    refine ro_iload (i := 4) (q := 19) hX dX3_chooses_17 rfl rfl ?_
    refine ro_bipush (v := nI 6) (q := 21) hX dX3_chooses_19 rfl rfl ?_
    refine ro_idiv (q := 22) hX dX3_chooses_21 (by decide) rfl rfl ?_
    refine vv_top (y := nI (k7 / 6)) (nI_div (by omega) (by decide) (by decide)) ?_
    refine ro_iload (i := 4) (q := 24) hX dX3_chooses_22 rfl rfl ?_
    refine ro_bipush (v := nI 6) (q := 26) hX dX3_chooses_24 rfl rfl ?_
    refine ro_irem (q := 27) hX dX3_chooses_26 (by decide) rfl rfl ?_
    refine vv_top (y := nI (k7 % 6)) (nI_rem (by omega) (by decide) (by decide)) ?_
    refine ro_callVi (q9 := 30) hX (m_classOf (s := ((chM s b k7).2)) (by omega) (by omega) (by omega)) mw_X3_classOf kl_X3_69 (by decide) (fun cy => cell3 (by decide +kernel)) rfl rfl rfl (Nat.le_of_ble_eq_true rfl) ⟨Nat.le_of_ble_eq_true rfl, Nat.le_of_ble_eq_true rfl⟩ dX3_chooses_27 ⟨Nat.le_of_ble_eq_true rfl, Nat.le_of_ble_eq_true rfl⟩ rfl ?_
    refine ro_istore (i := 5) (q := 32) hX dX3_chooses_30 (Nat.le_of_ble_eq_true rfl) rfl ?_
    refine ro_iload (i := 5) (q := 34) hX dX3_chooses_32 rfl rfl ?_
    refine ro_iconst (v := nI 2) (q := 35) hX dX3_chooses_34 rfl rfl ?_
    refine ro_icmp_ne (tgt := 42) (q := 38) hX dX3_chooses_35 (by decide) rfl (fun q1 => ?_) (fun q1 => ?_)
    · rw [nI_eq (by omega) (by omega)] at q1
      refine ro_aload_n (i := 0) (q := 43) hX dX3_chooses_42 rfl rfl rfl ?_
      refine ro_iload_n (i := 1) (q := 44) hX dX3_chooses_43 rfl rfl rfl ?_
      refine ro_iload (i := 4) (q := 46) hX dX3_chooses_44 rfl rfl ?_
      refine ro_bipush (v := nI 6) (q := 48) hX dX3_chooses_46 rfl rfl ?_
      refine ro_irem (q := 49) hX dX3_chooses_48 (by decide) rfl rfl ?_
      refine vv_top (y := nI (k7 % 6)) (nI_rem (by omega) (by decide) (by decide)) ?_
      refine ro_iconst (v := nI 3) (q := 50) hX dX3_chooses_49 rfl rfl ?_
      refine ro_callVi (q9 := 53) hX (m_of (by omega) (by omega) (by omega)) mw_X3_of kl_X3_36 (by decide) (fun cy => cell3 (by decide +kernel)) rfl rfl rfl (Nat.le_of_ble_eq_true rfl) ⟨Nat.le_of_ble_eq_true rfl, Nat.le_of_ble_eq_true rfl⟩ dX3_chooses_50 ⟨Nat.le_of_ble_eq_true rfl, Nat.le_of_ble_eq_true rfl⟩ rfl ?_
      refine ro_istore (i := 6) (q := 55) hX dX3_chooses_53 (Nat.le_of_ble_eq_true rfl) rfl ?_
      refine ro_iload (i := 5) (q := 57) hX dX3_chooses_55 rfl rfl ?_
      refine ro_if_le (tgt := 111) (q := 60) hX dX3_chooses_57 (by decide) rfl (fun q2 => ?_) (fun q2 => ?_)
      · rw [ni_le0 (by omega)] at q2
        refine ro_iinc (i := 4) (v := nI (k7 + 1)) (q := 114) hX dX3_chooses_111 rfl (ni_inc _) (Nat.le_of_ble_eq_true rfl) rfl ?_
        refine ro_goto (tgt := 7) hX dX3_chooses_114 (by decide) ?_
        refine ro_drop [5, 6] hX rfl ?_
        exact vv_LM (by first | (rw [chM_no]; all_goals first | rfl | (simp only [btM, dlM]; (repeat' split) <;> first | rfl | contradiction | omega)) | (rw [chM_yes]; all_goals first | rfl | (simp only [dlM]; split <;> first | rfl | contradiction) | (simp only [btM, dlM]; (repeat' split) <;> first | rfl | contradiction | omega))) (by first | (rw [chM_no]; all_goals first | rfl | (simp only [btM, dlM]; (repeat' split) <;> first | rfl | contradiction | omega)) | (rw [chM_yes]; all_goals first | rfl | (simp only [btM, dlM]; (repeat' split) <;> first | rfl | contradiction | omega))) ih7
      · rw [ni_le0 (by omega)] at q2
        refine ro_iload (i := 5) (q := 62) hX dX3_chooses_60 rfl rfl ?_
        refine ro_iload_n (i := 2) (q := 63) hX dX3_chooses_62 rfl rfl rfl ?_
        refine ro_icmp_lt (tgt := 78) (q := 66) hX dX3_chooses_63 (by decide) rfl (fun q3 => ?_) (fun q3 => ?_)
        · rw [nI_ltI (by omega) (by omega)] at q3
          refine ro_iload (i := 5) (q := 80) hX dX3_chooses_78 rfl rfl ?_
          refine ro_istore_n (i := 2) (q := 81) hX dX3_chooses_80 rfl (Nat.le_of_ble_eq_true rfl) rfl ?_
          refine ro_iload (i := 6) (q := 83) hX dX3_chooses_81 rfl rfl ?_
          refine ro_istore_n (i := 3) (q := 84) hX dX3_chooses_83 rfl (Nat.le_of_ble_eq_true rfl) rfl ?_
          refine ro_aload_n (i := 0) (q := 85) hX dX3_chooses_84 rfl rfl rfl ?_
          refine ro_Nga1 (q9 := 88) hX kf_X3_7 dX3_chooses_85 rfl ?_
          refine ro_iload_n (i := 1) (q := 89) hX dX3_chooses_88 rfl rfl rfl ?_
          refine ro_iconst (v := nI 5) (q := 90) hX dX3_chooses_89 rfl rfl ?_
          refine ro_iadd (q := 91) hX dX3_chooses_90 rfl ?_
          refine vv_top (y := nI (b + 5)) (nI_add' rfl rfl) ?_
          refine ro_iload (i := 4) (q := 93) hX dX3_chooses_91 rfl rfl ?_
          refine ro_bipush (v := nI 6) (q := 95) hX dX3_chooses_93 rfl rfl ?_
          refine ro_irem (q := 96) hX dX3_chooses_95 (by decide) rfl rfl ?_
          refine vv_top (y := nI (k7 % 6)) (nI_rem (by omega) (by decide) (by decide)) ?_
          refine ro_Nsst (n := b + 5) (q9 := 97) hX rfl (by omega) dX3_chooses_96 rfl ?_
          refine ro_aload_n (i := 0) (q := 98) hX dX3_chooses_97 rfl rfl rfl ?_
          refine ro_Nga1 (q9 := 101) hX kf_X3_7 dX3_chooses_98 rfl ?_
          refine ro_iload_n (i := 1) (q := 102) hX dX3_chooses_101 rfl rfl rfl ?_
          refine ro_bipush (v := nI 7) (q := 104) hX dX3_chooses_102 rfl rfl ?_
          refine ro_iadd (q := 105) hX dX3_chooses_104 rfl ?_
          refine vv_top (y := nI (b + 7)) (nI_add' rfl rfl) ?_
          refine ro_iload (i := 4) (q := 107) hX dX3_chooses_105 rfl rfl ?_
          refine ro_bipush (v := nI 6) (q := 109) hX dX3_chooses_107 rfl rfl ?_
          refine ro_idiv (q := 110) hX dX3_chooses_109 (by decide) rfl rfl ?_
          refine vv_top (y := nI (k7 / 6)) (nI_div (by omega) (by decide) (by decide)) ?_
          refine ro_Nsst (n := b + 7) (q9 := 111) hX rfl (by omega) dX3_chooses_110 rfl ?_
          refine ro_iinc (i := 4) (v := nI (k7 + 1)) (q := 114) hX dX3_chooses_111 rfl (ni_inc _) (Nat.le_of_ble_eq_true rfl) rfl ?_
          refine ro_goto (tgt := 7) hX dX3_chooses_114 (by decide) ?_
          refine ro_drop [5, 6] hX rfl ?_
          exact vv_LM (by first | (rw [chM_no]; all_goals first | rfl | (simp only [btM, dlM]; (repeat' split) <;> first | rfl | contradiction | omega)) | (rw [chM_yes]; all_goals first | rfl | (simp only [dlM]; split <;> first | rfl | contradiction) | (simp only [btM, dlM]; (repeat' split) <;> first | rfl | contradiction | omega))) (by first | (rw [chM_no]; all_goals first | rfl | (simp only [btM, dlM]; (repeat' split) <;> first | rfl | contradiction | omega)) | (rw [chM_yes]; all_goals first | rfl | (simp only [btM, dlM]; (repeat' split) <;> first | rfl | contradiction | omega))) ih7
        · rw [nI_ltI (by omega) (by omega)] at q3
          refine ro_iload (i := 5) (q := 68) hX dX3_chooses_66 rfl rfl ?_
          refine ro_iload_n (i := 2) (q := 69) hX dX3_chooses_68 rfl rfl rfl ?_
          refine ro_icmp_ne (tgt := 111) (q := 72) hX dX3_chooses_69 (by decide) rfl (fun q4 => ?_) (fun q4 => ?_)
          · rw [nI_eq (by omega) (by omega)] at q4
            refine ro_iinc (i := 4) (v := nI (k7 + 1)) (q := 114) hX dX3_chooses_111 rfl (ni_inc _) (Nat.le_of_ble_eq_true rfl) rfl ?_
            refine ro_goto (tgt := 7) hX dX3_chooses_114 (by decide) ?_
            refine ro_drop [5, 6] hX rfl ?_
            exact vv_LM (by first | (rw [chM_no]; all_goals first | rfl | (simp only [btM, dlM]; (repeat' split) <;> first | rfl | contradiction | omega)) | (rw [chM_yes]; all_goals first | rfl | (simp only [dlM]; split <;> first | rfl | contradiction) | (simp only [btM, dlM]; (repeat' split) <;> first | rfl | contradiction | omega))) (by first | (rw [chM_no]; all_goals first | rfl | (simp only [btM, dlM]; (repeat' split) <;> first | rfl | contradiction | omega)) | (rw [chM_yes]; all_goals first | rfl | (simp only [btM, dlM]; (repeat' split) <;> first | rfl | contradiction | omega))) ih7
          · rw [nI_eq (by omega) (by omega)] at q4
            refine ro_iload (i := 6) (q := 74) hX dX3_chooses_72 rfl rfl ?_
            refine ro_iload_n (i := 3) (q := 75) hX dX3_chooses_74 rfl rfl rfl ?_
            refine ro_icmp_ge (tgt := 111) (q := 78) hX dX3_chooses_75 (by decide) rfl (fun q5 => ?_) (fun q5 => ?_)
            · skip
              refine ro_iinc (i := 4) (v := nI (k7 + 1)) (q := 114) hX dX3_chooses_111 rfl (ni_inc _) (Nat.le_of_ble_eq_true rfl) rfl ?_
              refine ro_goto (tgt := 7) hX dX3_chooses_114 (by decide) ?_
              refine ro_drop [5, 6] hX rfl ?_
              exact vv_LM (by first | (rw [chM_no]; all_goals first | rfl | (simp only [btM, dlM]; (repeat' split) <;> first | rfl | contradiction | omega)) | (rw [chM_yes]; all_goals first | rfl | (simp only [dlM]; split <;> first | rfl | contradiction) | (simp only [btM, dlM]; (repeat' split) <;> first | rfl | contradiction | omega))) (by first | (rw [chM_no]; all_goals first | rfl | (simp only [btM, dlM]; (repeat' split) <;> first | rfl | contradiction | omega)) | (rw [chM_yes]; all_goals first | rfl | (simp only [btM, dlM]; (repeat' split) <;> first | rfl | contradiction | omega))) ih7
            · skip
              refine ro_iload (i := 5) (q := 80) hX dX3_chooses_78 rfl rfl ?_
              refine ro_istore_n (i := 2) (q := 81) hX dX3_chooses_80 rfl (Nat.le_of_ble_eq_true rfl) rfl ?_
              refine ro_iload (i := 6) (q := 83) hX dX3_chooses_81 rfl rfl ?_
              refine ro_istore_n (i := 3) (q := 84) hX dX3_chooses_83 rfl (Nat.le_of_ble_eq_true rfl) rfl ?_
              refine ro_aload_n (i := 0) (q := 85) hX dX3_chooses_84 rfl rfl rfl ?_
              refine ro_Nga1 (q9 := 88) hX kf_X3_7 dX3_chooses_85 rfl ?_
              refine ro_iload_n (i := 1) (q := 89) hX dX3_chooses_88 rfl rfl rfl ?_
              refine ro_iconst (v := nI 5) (q := 90) hX dX3_chooses_89 rfl rfl ?_
              refine ro_iadd (q := 91) hX dX3_chooses_90 rfl ?_
              refine vv_top (y := nI (b + 5)) (nI_add' rfl rfl) ?_
              refine ro_iload (i := 4) (q := 93) hX dX3_chooses_91 rfl rfl ?_
              refine ro_bipush (v := nI 6) (q := 95) hX dX3_chooses_93 rfl rfl ?_
              refine ro_irem (q := 96) hX dX3_chooses_95 (by decide) rfl rfl ?_
              refine vv_top (y := nI (k7 % 6)) (nI_rem (by omega) (by decide) (by decide)) ?_
              refine ro_Nsst (n := b + 5) (q9 := 97) hX rfl (by omega) dX3_chooses_96 rfl ?_
              refine ro_aload_n (i := 0) (q := 98) hX dX3_chooses_97 rfl rfl rfl ?_
              refine ro_Nga1 (q9 := 101) hX kf_X3_7 dX3_chooses_98 rfl ?_
              refine ro_iload_n (i := 1) (q := 102) hX dX3_chooses_101 rfl rfl rfl ?_
              refine ro_bipush (v := nI 7) (q := 104) hX dX3_chooses_102 rfl rfl ?_
              refine ro_iadd (q := 105) hX dX3_chooses_104 rfl ?_
              refine vv_top (y := nI (b + 7)) (nI_add' rfl rfl) ?_
              refine ro_iload (i := 4) (q := 107) hX dX3_chooses_105 rfl rfl ?_
              refine ro_bipush (v := nI 6) (q := 109) hX dX3_chooses_107 rfl rfl ?_
              refine ro_idiv (q := 110) hX dX3_chooses_109 (by decide) rfl rfl ?_
              refine vv_top (y := nI (k7 / 6)) (nI_div (by omega) (by decide) (by decide)) ?_
              refine ro_Nsst (n := b + 7) (q9 := 111) hX rfl (by omega) dX3_chooses_110 rfl ?_
              refine ro_iinc (i := 4) (v := nI (k7 + 1)) (q := 114) hX dX3_chooses_111 rfl (ni_inc _) (Nat.le_of_ble_eq_true rfl) rfl ?_
              refine ro_goto (tgt := 7) hX dX3_chooses_114 (by decide) ?_
              refine ro_drop [5, 6] hX rfl ?_
              exact vv_LM (by first | (rw [chM_no]; all_goals first | rfl | (simp only [btM, dlM]; (repeat' split) <;> first | rfl | contradiction | omega)) | (rw [chM_yes]; all_goals first | rfl | (simp only [dlM]; split <;> first | rfl | contradiction) | (simp only [btM, dlM]; (repeat' split) <;> first | rfl | contradiction | omega))) (by first | (rw [chM_no]; all_goals first | rfl | (simp only [btM, dlM]; (repeat' split) <;> first | rfl | contradiction | omega)) | (rw [chM_yes]; all_goals first | rfl | (simp only [btM, dlM]; (repeat' split) <;> first | rfl | contradiction | omega))) ih7
    · rw [nI_eq (by omega) (by omega)] at q1
      refine ro_iconst (v := nI 0) (q := 39) hX dX3_chooses_38 rfl rfl ?_
      refine ro_goto (tgt := 53) hX dX3_chooses_39 (by decide) ?_
      refine ro_istore (i := 6) (q := 55) hX dX3_chooses_53 (Nat.le_of_ble_eq_true rfl) rfl ?_
      refine ro_iload (i := 5) (q := 57) hX dX3_chooses_55 rfl rfl ?_
      refine ro_if_le (tgt := 111) (q := 60) hX dX3_chooses_57 (by decide) rfl (fun q6 => ?_) (fun q6 => ?_)
      · rw [ni_le0 (by omega)] at q6
        refine ro_iinc (i := 4) (v := nI (k7 + 1)) (q := 114) hX dX3_chooses_111 rfl (ni_inc _) (Nat.le_of_ble_eq_true rfl) rfl ?_
        refine ro_goto (tgt := 7) hX dX3_chooses_114 (by decide) ?_
        refine ro_drop [5, 6] hX rfl ?_
        exact vv_LM (by first | (rw [chM_no]; all_goals first | rfl | (simp only [btM, dlM]; (repeat' split) <;> first | rfl | contradiction | omega)) | (rw [chM_yes]; all_goals first | rfl | (simp only [dlM]; split <;> first | rfl | contradiction) | (simp only [btM, dlM]; (repeat' split) <;> first | rfl | contradiction | omega))) (by first | (rw [chM_no]; all_goals first | rfl | (simp only [btM, dlM]; (repeat' split) <;> first | rfl | contradiction | omega)) | (rw [chM_yes]; all_goals first | rfl | (simp only [btM, dlM]; (repeat' split) <;> first | rfl | contradiction | omega))) ih7
      · rw [ni_le0 (by omega)] at q6
        refine ro_iload (i := 5) (q := 62) hX dX3_chooses_60 rfl rfl ?_
        refine ro_iload_n (i := 2) (q := 63) hX dX3_chooses_62 rfl rfl rfl ?_
        refine ro_icmp_lt (tgt := 78) (q := 66) hX dX3_chooses_63 (by decide) rfl (fun q7 => ?_) (fun q7 => ?_)
        · rw [nI_ltI (by omega) (by omega)] at q7
          refine ro_iload (i := 5) (q := 80) hX dX3_chooses_78 rfl rfl ?_
          refine ro_istore_n (i := 2) (q := 81) hX dX3_chooses_80 rfl (Nat.le_of_ble_eq_true rfl) rfl ?_
          refine ro_iload (i := 6) (q := 83) hX dX3_chooses_81 rfl rfl ?_
          refine ro_istore_n (i := 3) (q := 84) hX dX3_chooses_83 rfl (Nat.le_of_ble_eq_true rfl) rfl ?_
          refine ro_aload_n (i := 0) (q := 85) hX dX3_chooses_84 rfl rfl rfl ?_
          refine ro_Nga1 (q9 := 88) hX kf_X3_7 dX3_chooses_85 rfl ?_
          refine ro_iload_n (i := 1) (q := 89) hX dX3_chooses_88 rfl rfl rfl ?_
          refine ro_iconst (v := nI 5) (q := 90) hX dX3_chooses_89 rfl rfl ?_
          refine ro_iadd (q := 91) hX dX3_chooses_90 rfl ?_
          refine vv_top (y := nI (b + 5)) (nI_add' rfl rfl) ?_
          refine ro_iload (i := 4) (q := 93) hX dX3_chooses_91 rfl rfl ?_
          refine ro_bipush (v := nI 6) (q := 95) hX dX3_chooses_93 rfl rfl ?_
          refine ro_irem (q := 96) hX dX3_chooses_95 (by decide) rfl rfl ?_
          refine vv_top (y := nI (k7 % 6)) (nI_rem (by omega) (by decide) (by decide)) ?_
          refine ro_Nsst (n := b + 5) (q9 := 97) hX rfl (by omega) dX3_chooses_96 rfl ?_
          refine ro_aload_n (i := 0) (q := 98) hX dX3_chooses_97 rfl rfl rfl ?_
          refine ro_Nga1 (q9 := 101) hX kf_X3_7 dX3_chooses_98 rfl ?_
          refine ro_iload_n (i := 1) (q := 102) hX dX3_chooses_101 rfl rfl rfl ?_
          refine ro_bipush (v := nI 7) (q := 104) hX dX3_chooses_102 rfl rfl ?_
          refine ro_iadd (q := 105) hX dX3_chooses_104 rfl ?_
          refine vv_top (y := nI (b + 7)) (nI_add' rfl rfl) ?_
          refine ro_iload (i := 4) (q := 107) hX dX3_chooses_105 rfl rfl ?_
          refine ro_bipush (v := nI 6) (q := 109) hX dX3_chooses_107 rfl rfl ?_
          refine ro_idiv (q := 110) hX dX3_chooses_109 (by decide) rfl rfl ?_
          refine vv_top (y := nI (k7 / 6)) (nI_div (by omega) (by decide) (by decide)) ?_
          refine ro_Nsst (n := b + 7) (q9 := 111) hX rfl (by omega) dX3_chooses_110 rfl ?_
          refine ro_iinc (i := 4) (v := nI (k7 + 1)) (q := 114) hX dX3_chooses_111 rfl (ni_inc _) (Nat.le_of_ble_eq_true rfl) rfl ?_
          refine ro_goto (tgt := 7) hX dX3_chooses_114 (by decide) ?_
          refine ro_drop [5, 6] hX rfl ?_
          exact vv_LM (by first | (rw [chM_no]; all_goals first | rfl | (simp only [btM, dlM]; (repeat' split) <;> first | rfl | contradiction | omega)) | (rw [chM_yes]; all_goals first | rfl | (simp only [dlM]; split <;> first | rfl | contradiction) | (simp only [btM, dlM]; (repeat' split) <;> first | rfl | contradiction | omega))) (by first | (rw [chM_no]; all_goals first | rfl | (simp only [btM, dlM]; (repeat' split) <;> first | rfl | contradiction | omega)) | (rw [chM_yes]; all_goals first | rfl | (simp only [btM, dlM]; (repeat' split) <;> first | rfl | contradiction | omega))) ih7
        · rw [nI_ltI (by omega) (by omega)] at q7
          refine ro_iload (i := 5) (q := 68) hX dX3_chooses_66 rfl rfl ?_
          refine ro_iload_n (i := 2) (q := 69) hX dX3_chooses_68 rfl rfl rfl ?_
          refine ro_icmp_ne (tgt := 111) (q := 72) hX dX3_chooses_69 (by decide) rfl (fun q8 => ?_) (fun q8 => ?_)
          · rw [nI_eq (by omega) (by omega)] at q8
            refine ro_iinc (i := 4) (v := nI (k7 + 1)) (q := 114) hX dX3_chooses_111 rfl (ni_inc _) (Nat.le_of_ble_eq_true rfl) rfl ?_
            refine ro_goto (tgt := 7) hX dX3_chooses_114 (by decide) ?_
            refine ro_drop [5, 6] hX rfl ?_
            exact vv_LM (by first | (rw [chM_no]; all_goals first | rfl | (simp only [btM, dlM]; (repeat' split) <;> first | rfl | contradiction | omega)) | (rw [chM_yes]; all_goals first | rfl | (simp only [dlM]; split <;> first | rfl | contradiction) | (simp only [btM, dlM]; (repeat' split) <;> first | rfl | contradiction | omega))) (by first | (rw [chM_no]; all_goals first | rfl | (simp only [btM, dlM]; (repeat' split) <;> first | rfl | contradiction | omega)) | (rw [chM_yes]; all_goals first | rfl | (simp only [btM, dlM]; (repeat' split) <;> first | rfl | contradiction | omega))) ih7
          · rw [nI_eq (by omega) (by omega)] at q8
            refine ro_iload (i := 6) (q := 74) hX dX3_chooses_72 rfl rfl ?_
            refine ro_iload_n (i := 3) (q := 75) hX dX3_chooses_74 rfl rfl rfl ?_
            refine ro_icmp_ge (tgt := 111) (q := 78) hX dX3_chooses_75 (by decide) rfl (fun q9 => ?_) (fun q9 => ?_)
            · skip
              refine ro_iinc (i := 4) (v := nI (k7 + 1)) (q := 114) hX dX3_chooses_111 rfl (ni_inc _) (Nat.le_of_ble_eq_true rfl) rfl ?_
              refine ro_goto (tgt := 7) hX dX3_chooses_114 (by decide) ?_
              refine ro_drop [5, 6] hX rfl ?_
              exact vv_LM (by first | (rw [chM_no]; all_goals first | rfl | (simp only [btM, dlM]; (repeat' split) <;> first | rfl | contradiction | omega)) | (rw [chM_yes]; all_goals first | rfl | (simp only [dlM]; split <;> first | rfl | contradiction) | (simp only [btM, dlM]; (repeat' split) <;> first | rfl | contradiction | omega))) (by first | (rw [chM_no]; all_goals first | rfl | (simp only [btM, dlM]; (repeat' split) <;> first | rfl | contradiction | omega)) | (rw [chM_yes]; all_goals first | rfl | (simp only [btM, dlM]; (repeat' split) <;> first | rfl | contradiction | omega))) ih7
            · skip
              refine ro_iload (i := 5) (q := 80) hX dX3_chooses_78 rfl rfl ?_
              refine ro_istore_n (i := 2) (q := 81) hX dX3_chooses_80 rfl (Nat.le_of_ble_eq_true rfl) rfl ?_
              refine ro_iload (i := 6) (q := 83) hX dX3_chooses_81 rfl rfl ?_
              refine ro_istore_n (i := 3) (q := 84) hX dX3_chooses_83 rfl (Nat.le_of_ble_eq_true rfl) rfl ?_
              refine ro_aload_n (i := 0) (q := 85) hX dX3_chooses_84 rfl rfl rfl ?_
              refine ro_Nga1 (q9 := 88) hX kf_X3_7 dX3_chooses_85 rfl ?_
              refine ro_iload_n (i := 1) (q := 89) hX dX3_chooses_88 rfl rfl rfl ?_
              refine ro_iconst (v := nI 5) (q := 90) hX dX3_chooses_89 rfl rfl ?_
              refine ro_iadd (q := 91) hX dX3_chooses_90 rfl ?_
              refine vv_top (y := nI (b + 5)) (nI_add' rfl rfl) ?_
              refine ro_iload (i := 4) (q := 93) hX dX3_chooses_91 rfl rfl ?_
              refine ro_bipush (v := nI 6) (q := 95) hX dX3_chooses_93 rfl rfl ?_
              refine ro_irem (q := 96) hX dX3_chooses_95 (by decide) rfl rfl ?_
              refine vv_top (y := nI (k7 % 6)) (nI_rem (by omega) (by decide) (by decide)) ?_
              refine ro_Nsst (n := b + 5) (q9 := 97) hX rfl (by omega) dX3_chooses_96 rfl ?_
              refine ro_aload_n (i := 0) (q := 98) hX dX3_chooses_97 rfl rfl rfl ?_
              refine ro_Nga1 (q9 := 101) hX kf_X3_7 dX3_chooses_98 rfl ?_
              refine ro_iload_n (i := 1) (q := 102) hX dX3_chooses_101 rfl rfl rfl ?_
              refine ro_bipush (v := nI 7) (q := 104) hX dX3_chooses_102 rfl rfl ?_
              refine ro_iadd (q := 105) hX dX3_chooses_104 rfl ?_
              refine vv_top (y := nI (b + 7)) (nI_add' rfl rfl) ?_
              refine ro_iload (i := 4) (q := 107) hX dX3_chooses_105 rfl rfl ?_
              refine ro_bipush (v := nI 6) (q := 109) hX dX3_chooses_107 rfl rfl ?_
              refine ro_idiv (q := 110) hX dX3_chooses_109 (by decide) rfl rfl ?_
              refine vv_top (y := nI (k7 / 6)) (nI_div (by omega) (by decide) (by decide)) ?_
              refine ro_Nsst (n := b + 7) (q9 := 111) hX rfl (by omega) dX3_chooses_110 rfl ?_
              refine ro_iinc (i := 4) (v := nI (k7 + 1)) (q := 114) hX dX3_chooses_111 rfl (ni_inc _) (Nat.le_of_ble_eq_true rfl) rfl ?_
              refine ro_goto (tgt := 7) hX dX3_chooses_114 (by decide) ?_
              refine ro_drop [5, 6] hX rfl ?_
              exact vv_LM (by first | (rw [chM_no]; all_goals first | rfl | (simp only [btM, dlM]; (repeat' split) <;> first | rfl | contradiction | omega)) | (rw [chM_yes]; all_goals first | rfl | (simp only [dlM]; split <;> first | rfl | contradiction) | (simp only [btM, dlM]; (repeat' split) <;> first | rfl | contradiction | omega))) (by first | (rw [chM_no]; all_goals first | rfl | (simp only [btM, dlM]; (repeat' split) <;> first | rfl | contradiction | omega)) | (rw [chM_yes]; all_goals first | rfl | (simp only [btM, dlM]; (repeat' split) <;> first | rfl | contradiction | omega))) ih7
  · show VV 0 0 7 [(0, .ref (sz + 75)), (1, .int (nI b)), (2, .int (nI (chM s b 180).1.1)), (3, .int ((chM s b 180).1.2)), (4, .int (nI 180))] [] (patch G 75 4 (mS F ((chM s b 180).2)), T)
    refine ro_iload (i := 4) (q := 9) hX dX3_chooses_7 rfl rfl ?_
    refine ro_sipush (v := nI 180) (q := 12) hX dX3_chooses_9 rfl rfl ?_
    refine ro_icmp_ge (tgt := 117) (q := 15) hX dX3_chooses_12 (by decide) rfl (fun _ => ?_) (fun q => absurd (by decide) q)
    refine ro_iload_n (i := 2) (q := 118) hX dX3_chooses_117 rfl rfl rfl ?_
    refine ro_iconst (v := nI 4) (q := 119) hX dX3_chooses_118 rfl rfl ?_
    refine ro_icmp_ge (tgt := 185) (q := 122) hX dX3_chooses_119 (by decide) rfl (fun _ => ?_) (fun q => absurd (ni_le (by omega) (by have := chM_lt (s := s) (b := b) 180; omega)) q)
    exact fin_v hF (Nat.le_of_ble_eq_true rfl) (Nat.le_of_ble_eq_true rfl) dX3_chooses_185 (by first | with_reducible rfl | (simp [cgM, setL_s, setL_t, setL_0, dropL_0, dropL_c, *]; done) | (simp only [cgM, setL_s, setL_t, setL_0, dropL_0, dropL_c]; (repeat' split) <;> first | with_reducible rfl | contradiction | (exfalso; omega) | (simp_all; done)) | rfl)
set_option maxRecDepth 20000 in
set_option maxHeartbeats 2000000 in
theorem m_chooses_s {b : Nat} (hb : b ≤ 2448) {P : Nat} (hP : P < 30) (hc : (chM s b 180).1.1 < 4) (hp : (chM s b 180).2 (b + 7) = nI P) : Does sz I_X3_chooses [.ref (sz + 75), .int (nI b)] (patch G 75 4 (mS F s), T) 0 0 (.inl none) (patch G 75 4 (mS F (cgM s b)), T) := by
  refine Does.of (L := [(0, .ref (sz + 75)), (1, .int (nI b))]) (by decide +kernel) (Nat.le_of_ble_eq_true rfl) rfl ⟨rfl, (by simp), ⟨rfl, (by simp), trivial⟩⟩ (fun VV hF => ?_)
  have hX := hF.c
  refine ro_iconst (v := nI 4) (q := 1) hX dX3_chooses_0 rfl rfl ?_
  refine ro_istore_n (i := 2) (q := 2) hX dX3_chooses_1 rfl (Nat.le_of_ble_eq_true rfl) rfl ?_
  refine ro_iconst (v := nI 0) (q := 3) hX dX3_chooses_2 rfl rfl ?_
  refine ro_istore_n (i := 3) (q := 4) hX dX3_chooses_3 rfl (Nat.le_of_ble_eq_true rfl) rfl ?_
  refine ro_iconst (v := nI 0) (q := 5) hX dX3_chooses_4 rfl rfl ?_
  refine ro_istore (i := 4) (q := 7) hX dX3_chooses_5 (Nat.le_of_ble_eq_true rfl) rfl ?_
  refine vv_LM (L' := [(0, .ref (sz + 75)), (1, .int (nI b)), (2, .int (nI (chM s b 0).1.1)), (3, .int ((chM s b 0).1.2)), (4, .int (nI 0))]) (M' := (patch G 75 4 (mS F ((chM s b 0).2)), T)) (by rfl) (by rfl) ?_
  refine down_ind (P := fun k7 => VV 0 0 7 [(0, .ref (sz + 75)), (1, .int (nI b)), (2, .int (nI (chM s b k7).1.1)), (3, .int ((chM s b k7).1.2)), (4, .int (nI k7))] [] (patch G 75 4 (mS F ((chM s b k7).2)), T)) (180) (fun k7 hk7 ih7 => ?_) ?_
  · have ih7 : VV 0 0 7 [(0, .ref (sz + 75)), (1, .int (nI b)), (2, .int (nI (chM s b (k7 + 1)).1.1)), (3, .int ((chM s b (k7 + 1)).1.2)), (4, .int (nI (k7 + 1)))] [] (patch G 75 4 (mS F ((chM s b (k7 + 1)).2)), T) := ih7
    show VV 0 0 7 [(0, .ref (sz + 75)), (1, .int (nI b)), (2, .int (nI (chM s b k7).1.1)), (3, .int ((chM s b k7).1.2)), (4, .int (nI k7))] [] (patch G 75 4 (mS F ((chM s b k7).2)), T)
    have hcl := clsM_lt (s := (chM s b k7).2) (b := b) (p := k7 / 6) (h := k7 % 6)
    have hle := chM_lt (s := s) (b := b) k7
    refine ro_iload (i := 4) (q := 9) hX dX3_chooses_7 rfl rfl ?_
    refine ro_sipush (v := nI 180) (q := 12) hX dX3_chooses_9 rfl rfl ?_
    refine ro_icmp_ge (tgt := 117) (q := 15) hX dX3_chooses_12 (by decide) rfl (fun q => absurd q (by first | exact ni_nle (by omega) (by omega) | exact ni_lt (by omega) (by omega))) (fun _ => ?_)
    refine ro_aload_n (i := 0) (q := 16) hX dX3_chooses_15 rfl rfl rfl ?_
    refine ro_iload_n (i := 1) (q := 17) hX dX3_chooses_16 rfl rfl rfl ?_
    refine ro_iload (i := 4) (q := 19) hX dX3_chooses_17 rfl rfl ?_
    refine ro_bipush (v := nI 6) (q := 21) hX dX3_chooses_19 rfl rfl ?_
    refine ro_idiv (q := 22) hX dX3_chooses_21 (by decide) rfl rfl ?_
    refine vv_top (y := nI (k7 / 6)) (nI_div (by omega) (by decide) (by decide)) ?_
    refine ro_iload (i := 4) (q := 24) hX dX3_chooses_22 rfl rfl ?_
    refine ro_bipush (v := nI 6) (q := 26) hX dX3_chooses_24 rfl rfl ?_
    refine ro_irem (q := 27) hX dX3_chooses_26 (by decide) rfl rfl ?_
    refine vv_top (y := nI (k7 % 6)) (nI_rem (by omega) (by decide) (by decide)) ?_
    refine ro_callVi (q9 := 30) hX (m_classOf (s := ((chM s b k7).2)) (by omega) (by omega) (by omega)) mw_X3_classOf kl_X3_69 (by decide) (fun cy => cell3 (by decide +kernel)) rfl rfl rfl (Nat.le_of_ble_eq_true rfl) ⟨Nat.le_of_ble_eq_true rfl, Nat.le_of_ble_eq_true rfl⟩ dX3_chooses_27 ⟨Nat.le_of_ble_eq_true rfl, Nat.le_of_ble_eq_true rfl⟩ rfl ?_
    refine ro_istore (i := 5) (q := 32) hX dX3_chooses_30 (Nat.le_of_ble_eq_true rfl) rfl ?_
    refine ro_iload (i := 5) (q := 34) hX dX3_chooses_32 rfl rfl ?_
    refine ro_iconst (v := nI 2) (q := 35) hX dX3_chooses_34 rfl rfl ?_
    refine ro_icmp_ne (tgt := 42) (q := 38) hX dX3_chooses_35 (by decide) rfl (fun q1 => ?_) (fun q1 => ?_)
    · rw [nI_eq (by omega) (by omega)] at q1
      refine ro_aload_n (i := 0) (q := 43) hX dX3_chooses_42 rfl rfl rfl ?_
      refine ro_iload_n (i := 1) (q := 44) hX dX3_chooses_43 rfl rfl rfl ?_
      refine ro_iload (i := 4) (q := 46) hX dX3_chooses_44 rfl rfl ?_
      refine ro_bipush (v := nI 6) (q := 48) hX dX3_chooses_46 rfl rfl ?_
      refine ro_irem (q := 49) hX dX3_chooses_48 (by decide) rfl rfl ?_
      refine vv_top (y := nI (k7 % 6)) (nI_rem (by omega) (by decide) (by decide)) ?_
      refine ro_iconst (v := nI 3) (q := 50) hX dX3_chooses_49 rfl rfl ?_
      refine ro_callVi (q9 := 53) hX (m_of (by omega) (by omega) (by omega)) mw_X3_of kl_X3_36 (by decide) (fun cy => cell3 (by decide +kernel)) rfl rfl rfl (Nat.le_of_ble_eq_true rfl) ⟨Nat.le_of_ble_eq_true rfl, Nat.le_of_ble_eq_true rfl⟩ dX3_chooses_50 ⟨Nat.le_of_ble_eq_true rfl, Nat.le_of_ble_eq_true rfl⟩ rfl ?_
      refine ro_istore (i := 6) (q := 55) hX dX3_chooses_53 (Nat.le_of_ble_eq_true rfl) rfl ?_
      refine ro_iload (i := 5) (q := 57) hX dX3_chooses_55 rfl rfl ?_
      refine ro_if_le (tgt := 111) (q := 60) hX dX3_chooses_57 (by decide) rfl (fun q2 => ?_) (fun q2 => ?_)
      · rw [ni_le0 (by omega)] at q2
        refine ro_iinc (i := 4) (v := nI (k7 + 1)) (q := 114) hX dX3_chooses_111 rfl (ni_inc _) (Nat.le_of_ble_eq_true rfl) rfl ?_
        refine ro_goto (tgt := 7) hX dX3_chooses_114 (by decide) ?_
        refine ro_drop [5, 6] hX rfl ?_
        exact vv_LM (by first | (rw [chM_no]; all_goals first | rfl | (simp only [btM, dlM]; (repeat' split) <;> first | rfl | contradiction | omega)) | (rw [chM_yes]; all_goals first | rfl | (simp only [dlM]; split <;> first | rfl | contradiction) | (simp only [btM, dlM]; (repeat' split) <;> first | rfl | contradiction | omega))) (by first | (rw [chM_no]; all_goals first | rfl | (simp only [btM, dlM]; (repeat' split) <;> first | rfl | contradiction | omega)) | (rw [chM_yes]; all_goals first | rfl | (simp only [btM, dlM]; (repeat' split) <;> first | rfl | contradiction | omega))) ih7
      · rw [ni_le0 (by omega)] at q2
        refine ro_iload (i := 5) (q := 62) hX dX3_chooses_60 rfl rfl ?_
        refine ro_iload_n (i := 2) (q := 63) hX dX3_chooses_62 rfl rfl rfl ?_
        refine ro_icmp_lt (tgt := 78) (q := 66) hX dX3_chooses_63 (by decide) rfl (fun q3 => ?_) (fun q3 => ?_)
        · rw [nI_ltI (by omega) (by omega)] at q3
          refine ro_iload (i := 5) (q := 80) hX dX3_chooses_78 rfl rfl ?_
          refine ro_istore_n (i := 2) (q := 81) hX dX3_chooses_80 rfl (Nat.le_of_ble_eq_true rfl) rfl ?_
          refine ro_iload (i := 6) (q := 83) hX dX3_chooses_81 rfl rfl ?_
          refine ro_istore_n (i := 3) (q := 84) hX dX3_chooses_83 rfl (Nat.le_of_ble_eq_true rfl) rfl ?_
          refine ro_aload_n (i := 0) (q := 85) hX dX3_chooses_84 rfl rfl rfl ?_
          refine ro_Nga1 (q9 := 88) hX kf_X3_7 dX3_chooses_85 rfl ?_
          refine ro_iload_n (i := 1) (q := 89) hX dX3_chooses_88 rfl rfl rfl ?_
          refine ro_iconst (v := nI 5) (q := 90) hX dX3_chooses_89 rfl rfl ?_
          refine ro_iadd (q := 91) hX dX3_chooses_90 rfl ?_
          refine vv_top (y := nI (b + 5)) (nI_add' rfl rfl) ?_
          refine ro_iload (i := 4) (q := 93) hX dX3_chooses_91 rfl rfl ?_
          refine ro_bipush (v := nI 6) (q := 95) hX dX3_chooses_93 rfl rfl ?_
          refine ro_irem (q := 96) hX dX3_chooses_95 (by decide) rfl rfl ?_
          refine vv_top (y := nI (k7 % 6)) (nI_rem (by omega) (by decide) (by decide)) ?_
          refine ro_Nsst (n := b + 5) (q9 := 97) hX rfl (by omega) dX3_chooses_96 rfl ?_
          refine ro_aload_n (i := 0) (q := 98) hX dX3_chooses_97 rfl rfl rfl ?_
          refine ro_Nga1 (q9 := 101) hX kf_X3_7 dX3_chooses_98 rfl ?_
          refine ro_iload_n (i := 1) (q := 102) hX dX3_chooses_101 rfl rfl rfl ?_
          refine ro_bipush (v := nI 7) (q := 104) hX dX3_chooses_102 rfl rfl ?_
          refine ro_iadd (q := 105) hX dX3_chooses_104 rfl ?_
          refine vv_top (y := nI (b + 7)) (nI_add' rfl rfl) ?_
          refine ro_iload (i := 4) (q := 107) hX dX3_chooses_105 rfl rfl ?_
          refine ro_bipush (v := nI 6) (q := 109) hX dX3_chooses_107 rfl rfl ?_
          refine ro_idiv (q := 110) hX dX3_chooses_109 (by decide) rfl rfl ?_
          refine vv_top (y := nI (k7 / 6)) (nI_div (by omega) (by decide) (by decide)) ?_
          refine ro_Nsst (n := b + 7) (q9 := 111) hX rfl (by omega) dX3_chooses_110 rfl ?_
          refine ro_iinc (i := 4) (v := nI (k7 + 1)) (q := 114) hX dX3_chooses_111 rfl (ni_inc _) (Nat.le_of_ble_eq_true rfl) rfl ?_
          refine ro_goto (tgt := 7) hX dX3_chooses_114 (by decide) ?_
          refine ro_drop [5, 6] hX rfl ?_
          exact vv_LM (by first | (rw [chM_no]; all_goals first | rfl | (simp only [btM, dlM]; (repeat' split) <;> first | rfl | contradiction | omega)) | (rw [chM_yes]; all_goals first | rfl | (simp only [dlM]; split <;> first | rfl | contradiction) | (simp only [btM, dlM]; (repeat' split) <;> first | rfl | contradiction | omega))) (by first | (rw [chM_no]; all_goals first | rfl | (simp only [btM, dlM]; (repeat' split) <;> first | rfl | contradiction | omega)) | (rw [chM_yes]; all_goals first | rfl | (simp only [btM, dlM]; (repeat' split) <;> first | rfl | contradiction | omega))) ih7
        · rw [nI_ltI (by omega) (by omega)] at q3
          refine ro_iload (i := 5) (q := 68) hX dX3_chooses_66 rfl rfl ?_
          refine ro_iload_n (i := 2) (q := 69) hX dX3_chooses_68 rfl rfl rfl ?_
          refine ro_icmp_ne (tgt := 111) (q := 72) hX dX3_chooses_69 (by decide) rfl (fun q4 => ?_) (fun q4 => ?_)
          · rw [nI_eq (by omega) (by omega)] at q4
            refine ro_iinc (i := 4) (v := nI (k7 + 1)) (q := 114) hX dX3_chooses_111 rfl (ni_inc _) (Nat.le_of_ble_eq_true rfl) rfl ?_
            refine ro_goto (tgt := 7) hX dX3_chooses_114 (by decide) ?_
            refine ro_drop [5, 6] hX rfl ?_
            exact vv_LM (by first | (rw [chM_no]; all_goals first | rfl | (simp only [btM, dlM]; (repeat' split) <;> first | rfl | contradiction | omega)) | (rw [chM_yes]; all_goals first | rfl | (simp only [dlM]; split <;> first | rfl | contradiction) | (simp only [btM, dlM]; (repeat' split) <;> first | rfl | contradiction | omega))) (by first | (rw [chM_no]; all_goals first | rfl | (simp only [btM, dlM]; (repeat' split) <;> first | rfl | contradiction | omega)) | (rw [chM_yes]; all_goals first | rfl | (simp only [btM, dlM]; (repeat' split) <;> first | rfl | contradiction | omega))) ih7
          · rw [nI_eq (by omega) (by omega)] at q4
            refine ro_iload (i := 6) (q := 74) hX dX3_chooses_72 rfl rfl ?_
            refine ro_iload_n (i := 3) (q := 75) hX dX3_chooses_74 rfl rfl rfl ?_
            refine ro_icmp_ge (tgt := 111) (q := 78) hX dX3_chooses_75 (by decide) rfl (fun q5 => ?_) (fun q5 => ?_)
            · skip
              refine ro_iinc (i := 4) (v := nI (k7 + 1)) (q := 114) hX dX3_chooses_111 rfl (ni_inc _) (Nat.le_of_ble_eq_true rfl) rfl ?_
              refine ro_goto (tgt := 7) hX dX3_chooses_114 (by decide) ?_
              refine ro_drop [5, 6] hX rfl ?_
              exact vv_LM (by first | (rw [chM_no]; all_goals first | rfl | (simp only [btM, dlM]; (repeat' split) <;> first | rfl | contradiction | omega)) | (rw [chM_yes]; all_goals first | rfl | (simp only [dlM]; split <;> first | rfl | contradiction) | (simp only [btM, dlM]; (repeat' split) <;> first | rfl | contradiction | omega))) (by first | (rw [chM_no]; all_goals first | rfl | (simp only [btM, dlM]; (repeat' split) <;> first | rfl | contradiction | omega)) | (rw [chM_yes]; all_goals first | rfl | (simp only [btM, dlM]; (repeat' split) <;> first | rfl | contradiction | omega))) ih7
            · skip
              refine ro_iload (i := 5) (q := 80) hX dX3_chooses_78 rfl rfl ?_
              refine ro_istore_n (i := 2) (q := 81) hX dX3_chooses_80 rfl (Nat.le_of_ble_eq_true rfl) rfl ?_
              refine ro_iload (i := 6) (q := 83) hX dX3_chooses_81 rfl rfl ?_
              refine ro_istore_n (i := 3) (q := 84) hX dX3_chooses_83 rfl (Nat.le_of_ble_eq_true rfl) rfl ?_
              refine ro_aload_n (i := 0) (q := 85) hX dX3_chooses_84 rfl rfl rfl ?_
              refine ro_Nga1 (q9 := 88) hX kf_X3_7 dX3_chooses_85 rfl ?_
              refine ro_iload_n (i := 1) (q := 89) hX dX3_chooses_88 rfl rfl rfl ?_
              refine ro_iconst (v := nI 5) (q := 90) hX dX3_chooses_89 rfl rfl ?_
              refine ro_iadd (q := 91) hX dX3_chooses_90 rfl ?_
              refine vv_top (y := nI (b + 5)) (nI_add' rfl rfl) ?_
              refine ro_iload (i := 4) (q := 93) hX dX3_chooses_91 rfl rfl ?_
              refine ro_bipush (v := nI 6) (q := 95) hX dX3_chooses_93 rfl rfl ?_
              refine ro_irem (q := 96) hX dX3_chooses_95 (by decide) rfl rfl ?_
              refine vv_top (y := nI (k7 % 6)) (nI_rem (by omega) (by decide) (by decide)) ?_
              refine ro_Nsst (n := b + 5) (q9 := 97) hX rfl (by omega) dX3_chooses_96 rfl ?_
              refine ro_aload_n (i := 0) (q := 98) hX dX3_chooses_97 rfl rfl rfl ?_
              refine ro_Nga1 (q9 := 101) hX kf_X3_7 dX3_chooses_98 rfl ?_
              refine ro_iload_n (i := 1) (q := 102) hX dX3_chooses_101 rfl rfl rfl ?_
              refine ro_bipush (v := nI 7) (q := 104) hX dX3_chooses_102 rfl rfl ?_
              refine ro_iadd (q := 105) hX dX3_chooses_104 rfl ?_
              refine vv_top (y := nI (b + 7)) (nI_add' rfl rfl) ?_
              refine ro_iload (i := 4) (q := 107) hX dX3_chooses_105 rfl rfl ?_
              refine ro_bipush (v := nI 6) (q := 109) hX dX3_chooses_107 rfl rfl ?_
              refine ro_idiv (q := 110) hX dX3_chooses_109 (by decide) rfl rfl ?_
              refine vv_top (y := nI (k7 / 6)) (nI_div (by omega) (by decide) (by decide)) ?_
              refine ro_Nsst (n := b + 7) (q9 := 111) hX rfl (by omega) dX3_chooses_110 rfl ?_
              refine ro_iinc (i := 4) (v := nI (k7 + 1)) (q := 114) hX dX3_chooses_111 rfl (ni_inc _) (Nat.le_of_ble_eq_true rfl) rfl ?_
              refine ro_goto (tgt := 7) hX dX3_chooses_114 (by decide) ?_
              refine ro_drop [5, 6] hX rfl ?_
              exact vv_LM (by first | (rw [chM_no]; all_goals first | rfl | (simp only [btM, dlM]; (repeat' split) <;> first | rfl | contradiction | omega)) | (rw [chM_yes]; all_goals first | rfl | (simp only [dlM]; split <;> first | rfl | contradiction) | (simp only [btM, dlM]; (repeat' split) <;> first | rfl | contradiction | omega))) (by first | (rw [chM_no]; all_goals first | rfl | (simp only [btM, dlM]; (repeat' split) <;> first | rfl | contradiction | omega)) | (rw [chM_yes]; all_goals first | rfl | (simp only [btM, dlM]; (repeat' split) <;> first | rfl | contradiction | omega))) ih7
    · rw [nI_eq (by omega) (by omega)] at q1
      refine ro_iconst (v := nI 0) (q := 39) hX dX3_chooses_38 rfl rfl ?_
      refine ro_goto (tgt := 53) hX dX3_chooses_39 (by decide) ?_
      refine ro_istore (i := 6) (q := 55) hX dX3_chooses_53 (Nat.le_of_ble_eq_true rfl) rfl ?_
      refine ro_iload (i := 5) (q := 57) hX dX3_chooses_55 rfl rfl ?_
      refine ro_if_le (tgt := 111) (q := 60) hX dX3_chooses_57 (by decide) rfl (fun q6 => ?_) (fun q6 => ?_)
      · rw [ni_le0 (by omega)] at q6
        refine ro_iinc (i := 4) (v := nI (k7 + 1)) (q := 114) hX dX3_chooses_111 rfl (ni_inc _) (Nat.le_of_ble_eq_true rfl) rfl ?_
        refine ro_goto (tgt := 7) hX dX3_chooses_114 (by decide) ?_
        refine ro_drop [5, 6] hX rfl ?_
        exact vv_LM (by first | (rw [chM_no]; all_goals first | rfl | (simp only [btM, dlM]; (repeat' split) <;> first | rfl | contradiction | omega)) | (rw [chM_yes]; all_goals first | rfl | (simp only [dlM]; split <;> first | rfl | contradiction) | (simp only [btM, dlM]; (repeat' split) <;> first | rfl | contradiction | omega))) (by first | (rw [chM_no]; all_goals first | rfl | (simp only [btM, dlM]; (repeat' split) <;> first | rfl | contradiction | omega)) | (rw [chM_yes]; all_goals first | rfl | (simp only [btM, dlM]; (repeat' split) <;> first | rfl | contradiction | omega))) ih7
      · rw [ni_le0 (by omega)] at q6
        refine ro_iload (i := 5) (q := 62) hX dX3_chooses_60 rfl rfl ?_
        refine ro_iload_n (i := 2) (q := 63) hX dX3_chooses_62 rfl rfl rfl ?_
        refine ro_icmp_lt (tgt := 78) (q := 66) hX dX3_chooses_63 (by decide) rfl (fun q7 => ?_) (fun q7 => ?_)
        · rw [nI_ltI (by omega) (by omega)] at q7
          refine ro_iload (i := 5) (q := 80) hX dX3_chooses_78 rfl rfl ?_
          refine ro_istore_n (i := 2) (q := 81) hX dX3_chooses_80 rfl (Nat.le_of_ble_eq_true rfl) rfl ?_
          refine ro_iload (i := 6) (q := 83) hX dX3_chooses_81 rfl rfl ?_
          refine ro_istore_n (i := 3) (q := 84) hX dX3_chooses_83 rfl (Nat.le_of_ble_eq_true rfl) rfl ?_
          refine ro_aload_n (i := 0) (q := 85) hX dX3_chooses_84 rfl rfl rfl ?_
          refine ro_Nga1 (q9 := 88) hX kf_X3_7 dX3_chooses_85 rfl ?_
          refine ro_iload_n (i := 1) (q := 89) hX dX3_chooses_88 rfl rfl rfl ?_
          refine ro_iconst (v := nI 5) (q := 90) hX dX3_chooses_89 rfl rfl ?_
          refine ro_iadd (q := 91) hX dX3_chooses_90 rfl ?_
          refine vv_top (y := nI (b + 5)) (nI_add' rfl rfl) ?_
          refine ro_iload (i := 4) (q := 93) hX dX3_chooses_91 rfl rfl ?_
          refine ro_bipush (v := nI 6) (q := 95) hX dX3_chooses_93 rfl rfl ?_
          refine ro_irem (q := 96) hX dX3_chooses_95 (by decide) rfl rfl ?_
          refine vv_top (y := nI (k7 % 6)) (nI_rem (by omega) (by decide) (by decide)) ?_
          refine ro_Nsst (n := b + 5) (q9 := 97) hX rfl (by omega) dX3_chooses_96 rfl ?_
          refine ro_aload_n (i := 0) (q := 98) hX dX3_chooses_97 rfl rfl rfl ?_
          refine ro_Nga1 (q9 := 101) hX kf_X3_7 dX3_chooses_98 rfl ?_
          refine ro_iload_n (i := 1) (q := 102) hX dX3_chooses_101 rfl rfl rfl ?_
          refine ro_bipush (v := nI 7) (q := 104) hX dX3_chooses_102 rfl rfl ?_
          refine ro_iadd (q := 105) hX dX3_chooses_104 rfl ?_
          refine vv_top (y := nI (b + 7)) (nI_add' rfl rfl) ?_
          refine ro_iload (i := 4) (q := 107) hX dX3_chooses_105 rfl rfl ?_
          refine ro_bipush (v := nI 6) (q := 109) hX dX3_chooses_107 rfl rfl ?_
          refine ro_idiv (q := 110) hX dX3_chooses_109 (by decide) rfl rfl ?_
          refine vv_top (y := nI (k7 / 6)) (nI_div (by omega) (by decide) (by decide)) ?_
          refine ro_Nsst (n := b + 7) (q9 := 111) hX rfl (by omega) dX3_chooses_110 rfl ?_
          refine ro_iinc (i := 4) (v := nI (k7 + 1)) (q := 114) hX dX3_chooses_111 rfl (ni_inc _) (Nat.le_of_ble_eq_true rfl) rfl ?_
          refine ro_goto (tgt := 7) hX dX3_chooses_114 (by decide) ?_
          refine ro_drop [5, 6] hX rfl ?_
          exact vv_LM (by first | (rw [chM_no]; all_goals first | rfl | (simp only [btM, dlM]; (repeat' split) <;> first | rfl | contradiction | omega)) | (rw [chM_yes]; all_goals first | rfl | (simp only [dlM]; split <;> first | rfl | contradiction) | (simp only [btM, dlM]; (repeat' split) <;> first | rfl | contradiction | omega))) (by first | (rw [chM_no]; all_goals first | rfl | (simp only [btM, dlM]; (repeat' split) <;> first | rfl | contradiction | omega)) | (rw [chM_yes]; all_goals first | rfl | (simp only [btM, dlM]; (repeat' split) <;> first | rfl | contradiction | omega))) ih7
        · rw [nI_ltI (by omega) (by omega)] at q7
          refine ro_iload (i := 5) (q := 68) hX dX3_chooses_66 rfl rfl ?_
          refine ro_iload_n (i := 2) (q := 69) hX dX3_chooses_68 rfl rfl rfl ?_
          refine ro_icmp_ne (tgt := 111) (q := 72) hX dX3_chooses_69 (by decide) rfl (fun q8 => ?_) (fun q8 => ?_)
          · rw [nI_eq (by omega) (by omega)] at q8
            refine ro_iinc (i := 4) (v := nI (k7 + 1)) (q := 114) hX dX3_chooses_111 rfl (ni_inc _) (Nat.le_of_ble_eq_true rfl) rfl ?_
            refine ro_goto (tgt := 7) hX dX3_chooses_114 (by decide) ?_
            refine ro_drop [5, 6] hX rfl ?_
            exact vv_LM (by first | (rw [chM_no]; all_goals first | rfl | (simp only [btM, dlM]; (repeat' split) <;> first | rfl | contradiction | omega)) | (rw [chM_yes]; all_goals first | rfl | (simp only [dlM]; split <;> first | rfl | contradiction) | (simp only [btM, dlM]; (repeat' split) <;> first | rfl | contradiction | omega))) (by first | (rw [chM_no]; all_goals first | rfl | (simp only [btM, dlM]; (repeat' split) <;> first | rfl | contradiction | omega)) | (rw [chM_yes]; all_goals first | rfl | (simp only [btM, dlM]; (repeat' split) <;> first | rfl | contradiction | omega))) ih7
          · rw [nI_eq (by omega) (by omega)] at q8
            refine ro_iload (i := 6) (q := 74) hX dX3_chooses_72 rfl rfl ?_
            refine ro_iload_n (i := 3) (q := 75) hX dX3_chooses_74 rfl rfl rfl ?_
            refine ro_icmp_ge (tgt := 111) (q := 78) hX dX3_chooses_75 (by decide) rfl (fun q9 => ?_) (fun q9 => ?_)
            · skip
              refine ro_iinc (i := 4) (v := nI (k7 + 1)) (q := 114) hX dX3_chooses_111 rfl (ni_inc _) (Nat.le_of_ble_eq_true rfl) rfl ?_
              refine ro_goto (tgt := 7) hX dX3_chooses_114 (by decide) ?_
              refine ro_drop [5, 6] hX rfl ?_
              exact vv_LM (by first | (rw [chM_no]; all_goals first | rfl | (simp only [btM, dlM]; (repeat' split) <;> first | rfl | contradiction | omega)) | (rw [chM_yes]; all_goals first | rfl | (simp only [dlM]; split <;> first | rfl | contradiction) | (simp only [btM, dlM]; (repeat' split) <;> first | rfl | contradiction | omega))) (by first | (rw [chM_no]; all_goals first | rfl | (simp only [btM, dlM]; (repeat' split) <;> first | rfl | contradiction | omega)) | (rw [chM_yes]; all_goals first | rfl | (simp only [btM, dlM]; (repeat' split) <;> first | rfl | contradiction | omega))) ih7
            · skip
              refine ro_iload (i := 5) (q := 80) hX dX3_chooses_78 rfl rfl ?_
              refine ro_istore_n (i := 2) (q := 81) hX dX3_chooses_80 rfl (Nat.le_of_ble_eq_true rfl) rfl ?_
              refine ro_iload (i := 6) (q := 83) hX dX3_chooses_81 rfl rfl ?_
              refine ro_istore_n (i := 3) (q := 84) hX dX3_chooses_83 rfl (Nat.le_of_ble_eq_true rfl) rfl ?_
              refine ro_aload_n (i := 0) (q := 85) hX dX3_chooses_84 rfl rfl rfl ?_
              refine ro_Nga1 (q9 := 88) hX kf_X3_7 dX3_chooses_85 rfl ?_
              refine ro_iload_n (i := 1) (q := 89) hX dX3_chooses_88 rfl rfl rfl ?_
              refine ro_iconst (v := nI 5) (q := 90) hX dX3_chooses_89 rfl rfl ?_
              refine ro_iadd (q := 91) hX dX3_chooses_90 rfl ?_
              refine vv_top (y := nI (b + 5)) (nI_add' rfl rfl) ?_
              refine ro_iload (i := 4) (q := 93) hX dX3_chooses_91 rfl rfl ?_
              refine ro_bipush (v := nI 6) (q := 95) hX dX3_chooses_93 rfl rfl ?_
              refine ro_irem (q := 96) hX dX3_chooses_95 (by decide) rfl rfl ?_
              refine vv_top (y := nI (k7 % 6)) (nI_rem (by omega) (by decide) (by decide)) ?_
              refine ro_Nsst (n := b + 5) (q9 := 97) hX rfl (by omega) dX3_chooses_96 rfl ?_
              refine ro_aload_n (i := 0) (q := 98) hX dX3_chooses_97 rfl rfl rfl ?_
              refine ro_Nga1 (q9 := 101) hX kf_X3_7 dX3_chooses_98 rfl ?_
              refine ro_iload_n (i := 1) (q := 102) hX dX3_chooses_101 rfl rfl rfl ?_
              refine ro_bipush (v := nI 7) (q := 104) hX dX3_chooses_102 rfl rfl ?_
              refine ro_iadd (q := 105) hX dX3_chooses_104 rfl ?_
              refine vv_top (y := nI (b + 7)) (nI_add' rfl rfl) ?_
              refine ro_iload (i := 4) (q := 107) hX dX3_chooses_105 rfl rfl ?_
              refine ro_bipush (v := nI 6) (q := 109) hX dX3_chooses_107 rfl rfl ?_
              refine ro_idiv (q := 110) hX dX3_chooses_109 (by decide) rfl rfl ?_
              refine vv_top (y := nI (k7 / 6)) (nI_div (by omega) (by decide) (by decide)) ?_
              refine ro_Nsst (n := b + 7) (q9 := 111) hX rfl (by omega) dX3_chooses_110 rfl ?_
              refine ro_iinc (i := 4) (v := nI (k7 + 1)) (q := 114) hX dX3_chooses_111 rfl (ni_inc _) (Nat.le_of_ble_eq_true rfl) rfl ?_
              refine ro_goto (tgt := 7) hX dX3_chooses_114 (by decide) ?_
              refine ro_drop [5, 6] hX rfl ?_
              exact vv_LM (by first | (rw [chM_no]; all_goals first | rfl | (simp only [btM, dlM]; (repeat' split) <;> first | rfl | contradiction | omega)) | (rw [chM_yes]; all_goals first | rfl | (simp only [dlM]; split <;> first | rfl | contradiction) | (simp only [btM, dlM]; (repeat' split) <;> first | rfl | contradiction | omega))) (by first | (rw [chM_no]; all_goals first | rfl | (simp only [btM, dlM]; (repeat' split) <;> first | rfl | contradiction | omega)) | (rw [chM_yes]; all_goals first | rfl | (simp only [btM, dlM]; (repeat' split) <;> first | rfl | contradiction | omega))) ih7
  · show VV 0 0 7 [(0, .ref (sz + 75)), (1, .int (nI b)), (2, .int (nI (chM s b 180).1.1)), (3, .int ((chM s b 180).1.2)), (4, .int (nI 180))] [] (patch G 75 4 (mS F ((chM s b 180).2)), T)
    refine ro_iload (i := 4) (q := 9) hX dX3_chooses_7 rfl rfl ?_
    refine ro_sipush (v := nI 180) (q := 12) hX dX3_chooses_9 rfl rfl ?_
    refine ro_icmp_ge (tgt := 117) (q := 15) hX dX3_chooses_12 (by decide) rfl (fun _ => ?_) (fun q => absurd (by decide) q)
    refine ro_iload_n (i := 2) (q := 118) hX dX3_chooses_117 rfl rfl rfl ?_
    refine ro_iconst (v := nI 4) (q := 119) hX dX3_chooses_118 rfl rfl ?_
    refine ro_icmp_ge (tgt := 185) (q := 122) hX dX3_chooses_119 (by decide) rfl (fun q => absurd q (ni_nle (by omega) (by omega))) (fun _ => ?_)
    refine ro_aload_n (i := 0) (q := 123) hX dX3_chooses_122 rfl rfl rfl ?_
    refine ro_Nga1 (q9 := 126) hX kf_X3_7 dX3_chooses_123 rfl ?_
    refine ro_iload_n (i := 1) (q := 127) hX dX3_chooses_126 rfl rfl rfl ?_
    refine ro_bipush (v := nI 7) (q := 129) hX dX3_chooses_127 rfl rfl ?_
    refine ro_iadd (q := 130) hX dX3_chooses_129 rfl ?_
    refine vv_top (y := nI (b + 7)) (nI_add' rfl rfl) ?_
    refine ro_Nsld (n := b + 7) (q9 := 131) hX rfl (by omega) dX3_chooses_130 rfl ?_
    refine vv_top (y := (nI P)) (hp) ?_
    refine ro_istore (i := 4) (q := 133) hX dX3_chooses_131 (Nat.le_of_ble_eq_true rfl) rfl ?_
    refine ro_aload_n (i := 0) (q := 134) hX dX3_chooses_133 rfl rfl rfl ?_
    refine ro_Nga1 (q9 := 137) hX kf_X3_7 dX3_chooses_134 rfl ?_
    refine ro_iload_n (i := 1) (q := 138) hX dX3_chooses_137 rfl rfl rfl ?_
    refine ro_bipush (v := nI 6) (q := 140) hX dX3_chooses_138 rfl rfl ?_
    refine ro_iadd (q := 141) hX dX3_chooses_140 rfl ?_
    refine vv_top (y := nI (b + 6)) (nI_add' rfl rfl) ?_
    refine ro_aload_n (i := 0) (q := 142) hX dX3_chooses_141 rfl rfl rfl ?_
    refine ro_iload_n (i := 1) (q := 143) hX dX3_chooses_142 rfl rfl rfl ?_
    refine ro_iload (i := 4) (q := 145) hX dX3_chooses_143 rfl rfl ?_
    refine ro_callVi (q9 := 148) hX (m_bestHost (by omega) (by omega)) mw_X3_bestHost kl_X3_66 (by decide) (fun cy => cell3 (by decide +kernel)) rfl rfl rfl (Nat.le_of_ble_eq_true rfl) ⟨Nat.le_of_ble_eq_true rfl, Nat.le_of_ble_eq_true rfl⟩ dX3_chooses_145 ⟨Nat.le_of_ble_eq_true rfl, Nat.le_of_ble_eq_true rfl⟩ rfl ?_
    refine ro_Nsst (n := b + 6) (q9 := 149) hX rfl (by omega) dX3_chooses_148 rfl ?_
    refine ro_aload_n (i := 0) (q := 150) hX dX3_chooses_149 rfl rfl rfl ?_
    refine ro_Nga1 (q9 := 153) hX kf_X3_7 dX3_chooses_150 rfl ?_
    refine ro_iload_n (i := 1) (q := 154) hX dX3_chooses_153 rfl rfl rfl ?_
    refine ro_iconst (v := nI 4) (q := 155) hX dX3_chooses_154 rfl rfl ?_
    refine ro_iadd (q := 156) hX dX3_chooses_155 rfl ?_
    refine vv_top (y := nI (b + 4)) (nI_add' rfl rfl) ?_
    refine ro_iload (i := 4) (q := 158) hX dX3_chooses_156 rfl rfl ?_
    refine ro_Nsst (n := b + 4) (q9 := 159) hX rfl (by omega) dX3_chooses_158 rfl ?_
    refine ro_aload_n (i := 0) (q := 160) hX dX3_chooses_159 rfl rfl rfl ?_
    refine ro_Nga1 (q9 := 163) hX kf_X3_7 dX3_chooses_160 rfl ?_
    refine ro_iload_n (i := 1) (q := 164) hX dX3_chooses_163 rfl rfl rfl ?_
    refine ro_bipush (v := nI 7) (q := 166) hX dX3_chooses_164 rfl rfl ?_
    refine ro_iadd (q := 167) hX dX3_chooses_166 rfl ?_
    refine vv_top (y := nI (b + 7)) (nI_add' rfl rfl) ?_
    refine ro_aload_n (i := 0) (q := 168) hX dX3_chooses_167 rfl rfl rfl ?_
    refine ro_Nga1 (q9 := 171) hX kf_X3_7 dX3_chooses_168 rfl ?_
    refine ro_iload_n (i := 1) (q := 172) hX dX3_chooses_171 rfl rfl rfl ?_
    refine ro_iconst (v := nI 0) (q := 173) hX dX3_chooses_172 rfl rfl ?_
    refine ro_iadd (q := 174) hX dX3_chooses_173 rfl ?_
    refine vv_top (y := nI (b + 0)) (nI_add' rfl rfl) ?_
    refine ro_Nsld (n := b + 0) (q9 := 175) hX rfl (by omega) dX3_chooses_174 rfl ?_
    refine ro_aload_n (i := 0) (q := 176) hX dX3_chooses_175 rfl rfl rfl ?_
    refine ro_Nga1 (q9 := 179) hX kf_X3_7 dX3_chooses_176 rfl ?_
    refine ro_iload_n (i := 1) (q := 180) hX dX3_chooses_179 rfl rfl rfl ?_
    refine ro_iconst (v := nI 2) (q := 181) hX dX3_chooses_180 rfl rfl ?_
    refine ro_iadd (q := 182) hX dX3_chooses_181 rfl ?_
    refine vv_top (y := nI (b + 2)) (nI_add' rfl rfl) ?_
    refine ro_Nsld (n := b + 2) (q9 := 183) hX rfl (by omega) dX3_chooses_182 rfl ?_
    refine ro_iadd (q := 184) hX dX3_chooses_183 rfl ?_
    refine ro_Nsst (n := b + 7) (q9 := 185) hX rfl (by omega) dX3_chooses_184 rfl ?_
    exact fin_v hF (Nat.le_of_ble_eq_true rfl) (Nat.le_of_ble_eq_true rfl) dX3_chooses_185 (by rw [cgM, if_pos hc, hp, show ixN (nI P) = P from nI_clamp (by omega)]; rfl)
theorem m_chooses {b : Nat} (hb : b ≤ 2448) : Does sz I_X3_chooses [.ref (sz + 75), .int (nI b)] (patch G 75 4 (mS F s), T) 0 0 (.inl none) (patch G 75 4 (mS F (cgM s b)), T) := by
  by_cases hc : (chM s b 180).1.1 < 4
  · obtain ⟨P, hP, hp⟩ := chM_pg 180 (Nat.le_refl _) hc
    exact m_chooses_s hb hP hc hp
  · exact m_chooses_n hb hc
set_option maxRecDepth 20000 in
set_option maxHeartbeats 2000000 in
theorem m_settles {b : Nat} (hb : b ≤ 2448) : Does sz I_X3_settles [.ref (sz + 75), .int (nI b)] (patch G 75 4 (mS F s), T) 0 0 (.inl none) (patch G 75 4 (mS F (seM s b)), T) := by
  refine Does.of (L := [(0, .ref (sz + 75)), (1, .int (nI b))]) (by decide +kernel) (Nat.le_of_ble_eq_true rfl) rfl ⟨rfl, (by simp), ⟨rfl, (by simp), trivial⟩⟩ (fun VV hF => ?_)
  have hX := hF.c
  refine ro_iconst (v := nI 0) (q := 1) hX dX3_settles_0 rfl rfl ?_
  refine ro_istore_n (i := 2) (q := 2) hX dX3_settles_1 rfl (Nat.le_of_ble_eq_true rfl) rfl ?_
  refine vv_LM (L' := [(0, .ref (sz + 75)), (1, .int (nI b)), (2, .int (nI 0))]) (M' := (patch G 75 4 (mS F (rsM s b 0)), T)) (by rfl) (by rfl) ?_
  refine down_ind (P := fun k2 => VV 0 0 2 [(0, .ref (sz + 75)), (1, .int (nI b)), (2, .int (nI k2))] [] (patch G 75 4 (mS F (rsM s b k2)), T)) (6) (fun k2 hk2 ih2 => ?_) ?_
  · have ih2 : VV 0 0 2 [(0, .ref (sz + 75)), (1, .int (nI b)), (2, .int (nI (k2 + 1)))] [] (patch G 75 4 (mS F (rsM s b (k2 + 1))), T) := ih2
    show VV 0 0 2 [(0, .ref (sz + 75)), (1, .int (nI b)), (2, .int (nI k2))] [] (patch G 75 4 (mS F (rsM s b k2)), T)
    refine ro_iload_n (i := 2) (q := 3) hX dX3_settles_2 rfl rfl rfl ?_
    refine ro_bipush (v := nI 6) (q := 5) hX dX3_settles_3 rfl rfl ?_
    refine ro_icmp_ge (tgt := 73) (q := 8) hX dX3_settles_5 (by decide) rfl (fun q => absurd q (by first | exact ni_nle (by omega) (by omega) | exact ni_lt (by omega) (by omega))) (fun _ => ?_)
    refine ro_aload_n (i := 0) (q := 9) hX dX3_settles_8 rfl rfl rfl ?_
    refine ro_iload_n (i := 1) (q := 10) hX dX3_settles_9 rfl rfl rfl ?_
    refine ro_iload_n (i := 2) (q := 11) hX dX3_settles_10 rfl rfl rfl ?_
    refine ro_iconst (v := nI 0) (q := 12) hX dX3_settles_11 rfl rfl ?_
    refine ro_callVi (q9 := 15) hX (m_of (by omega) (by omega) (by omega)) mw_X3_of kl_X3_36 (by decide) (fun cy => cell3 (by decide +kernel)) rfl rfl rfl (Nat.le_of_ble_eq_true rfl) ⟨Nat.le_of_ble_eq_true rfl, Nat.le_of_ble_eq_true rfl⟩ dX3_settles_12 ⟨Nat.le_of_ble_eq_true rfl, Nat.le_of_ble_eq_true rfl⟩ rfl ?_
    refine ro_iconst (v := nI 2) (q := 16) hX dX3_settles_15 rfl rfl ?_
    refine ro_icmp_ne (tgt := 43) (q := 19) hX dX3_settles_16 (by decide) rfl (fun q1 => ?_) (fun q1 => ?_)
    · skip
      refine ro_iconst (v := nI 0) (q := 44) hX dX3_settles_43 rfl rfl ?_
      refine ro_istore_n (i := 3) (q := 45) hX dX3_settles_44 rfl (Nat.le_of_ble_eq_true rfl) rfl ?_
      refine ro_aload_n (i := 0) (q := 46) hX dX3_settles_45 rfl rfl rfl ?_
      refine ro_iload_n (i := 1) (q := 47) hX dX3_settles_46 rfl rfl rfl ?_
      refine ro_iload_n (i := 2) (q := 48) hX dX3_settles_47 rfl rfl rfl ?_
      refine ro_iconst (v := nI 0) (q := 49) hX dX3_settles_48 rfl rfl ?_
      refine ro_iload_n (i := 3) (q := 50) hX dX3_settles_49 rfl rfl rfl ?_
      refine ro_if_eq (tgt := 57) (q := 53) hX dX3_settles_50 (by decide) rfl (fun _ => ?_) (fun q => absurd (by decide) q)
      refine ro_aload_n (i := 0) (q := 58) hX dX3_settles_57 rfl rfl rfl ?_
      refine ro_iload_n (i := 1) (q := 59) hX dX3_settles_58 rfl rfl rfl ?_
      refine ro_iload_n (i := 2) (q := 60) hX dX3_settles_59 rfl rfl rfl ?_
      refine ro_iconst (v := nI 0) (q := 61) hX dX3_settles_60 rfl rfl ?_
      refine ro_callVi (q9 := 64) hX (m_of (by omega) (by omega) (by omega)) mw_X3_of kl_X3_36 (by decide) (fun cy => cell3 (by decide +kernel)) rfl rfl rfl (Nat.le_of_ble_eq_true rfl) ⟨Nat.le_of_ble_eq_true rfl, Nat.le_of_ble_eq_true rfl⟩ dX3_settles_61 ⟨Nat.le_of_ble_eq_true rfl, Nat.le_of_ble_eq_true rfl⟩ rfl ?_
      refine ro_callVv (q9 := 67) hX (m_lay (by omega) (by omega) (by omega)) mw_X3_lay kl_X3_72 (by decide) (fun cy => cell3 (by decide +kernel)) rfl rfl rfl (Nat.le_of_ble_eq_true rfl) ⟨Nat.le_of_ble_eq_true rfl, Nat.le_of_ble_eq_true rfl⟩ dX3_settles_64 ⟨Nat.le_of_ble_eq_true rfl, Nat.le_of_ble_eq_true rfl⟩ rfl ?_
      refine ro_iinc (i := 2) (v := nI (k2 + 1)) (q := 70) hX dX3_settles_67 rfl (ni_inc _) (Nat.le_of_ble_eq_true rfl) rfl ?_
      refine ro_goto (tgt := 2) hX dX3_settles_70 (by decide) ?_
      refine ro_drop [3] hX rfl ?_
      exact vv_LM (by first | with_reducible rfl | (simp [rsM, laM, setL_s, setL_t, setL_0, dropL_0, dropL_c, *]; done) | (simp only [rsM, laM, setL_s, setL_t, setL_0, dropL_0, dropL_c]; (repeat' split) <;> first | with_reducible rfl | contradiction | (exfalso; omega) | (simp_all; done)) | rfl) (by first | with_reducible rfl | (simp [rsM, laM, setL_s, setL_t, setL_0, dropL_0, dropL_c, *]; done) | (simp only [rsM, laM, setL_s, setL_t, setL_0, dropL_0, dropL_c]; (repeat' split) <;> first | with_reducible rfl | contradiction | (exfalso; omega) | (simp_all; done)) | rfl) ih2
    · skip
      refine ro_aload_n (i := 0) (q := 20) hX dX3_settles_19 rfl rfl rfl ?_
      refine ro_iload_n (i := 1) (q := 21) hX dX3_settles_20 rfl rfl rfl ?_
      refine ro_iload_n (i := 2) (q := 22) hX dX3_settles_21 rfl rfl rfl ?_
      refine ro_iconst (v := nI 1) (q := 23) hX dX3_settles_22 rfl rfl ?_
      refine ro_callVi (q9 := 26) hX (m_of (by omega) (by omega) (by omega)) mw_X3_of kl_X3_36 (by decide) (fun cy => cell3 (by decide +kernel)) rfl rfl rfl (Nat.le_of_ble_eq_true rfl) ⟨Nat.le_of_ble_eq_true rfl, Nat.le_of_ble_eq_true rfl⟩ dX3_settles_23 ⟨Nat.le_of_ble_eq_true rfl, Nat.le_of_ble_eq_true rfl⟩ rfl ?_
      refine ro_iconst (v := nI 1) (q := 27) hX dX3_settles_26 rfl rfl ?_
      refine ro_icmp_ne (tgt := 43) (q := 30) hX dX3_settles_27 (by decide) rfl (fun q2 => ?_) (fun q2 => ?_)
      · skip
        refine ro_iconst (v := nI 0) (q := 44) hX dX3_settles_43 rfl rfl ?_
        refine ro_istore_n (i := 3) (q := 45) hX dX3_settles_44 rfl (Nat.le_of_ble_eq_true rfl) rfl ?_
        refine ro_aload_n (i := 0) (q := 46) hX dX3_settles_45 rfl rfl rfl ?_
        refine ro_iload_n (i := 1) (q := 47) hX dX3_settles_46 rfl rfl rfl ?_
        refine ro_iload_n (i := 2) (q := 48) hX dX3_settles_47 rfl rfl rfl ?_
        refine ro_iconst (v := nI 0) (q := 49) hX dX3_settles_48 rfl rfl ?_
        refine ro_iload_n (i := 3) (q := 50) hX dX3_settles_49 rfl rfl rfl ?_
        refine ro_if_eq (tgt := 57) (q := 53) hX dX3_settles_50 (by decide) rfl (fun _ => ?_) (fun q => absurd (by decide) q)
        refine ro_aload_n (i := 0) (q := 58) hX dX3_settles_57 rfl rfl rfl ?_
        refine ro_iload_n (i := 1) (q := 59) hX dX3_settles_58 rfl rfl rfl ?_
        refine ro_iload_n (i := 2) (q := 60) hX dX3_settles_59 rfl rfl rfl ?_
        refine ro_iconst (v := nI 0) (q := 61) hX dX3_settles_60 rfl rfl ?_
        refine ro_callVi (q9 := 64) hX (m_of (by omega) (by omega) (by omega)) mw_X3_of kl_X3_36 (by decide) (fun cy => cell3 (by decide +kernel)) rfl rfl rfl (Nat.le_of_ble_eq_true rfl) ⟨Nat.le_of_ble_eq_true rfl, Nat.le_of_ble_eq_true rfl⟩ dX3_settles_61 ⟨Nat.le_of_ble_eq_true rfl, Nat.le_of_ble_eq_true rfl⟩ rfl ?_
        refine ro_callVv (q9 := 67) hX (m_lay (by omega) (by omega) (by omega)) mw_X3_lay kl_X3_72 (by decide) (fun cy => cell3 (by decide +kernel)) rfl rfl rfl (Nat.le_of_ble_eq_true rfl) ⟨Nat.le_of_ble_eq_true rfl, Nat.le_of_ble_eq_true rfl⟩ dX3_settles_64 ⟨Nat.le_of_ble_eq_true rfl, Nat.le_of_ble_eq_true rfl⟩ rfl ?_
        refine ro_iinc (i := 2) (v := nI (k2 + 1)) (q := 70) hX dX3_settles_67 rfl (ni_inc _) (Nat.le_of_ble_eq_true rfl) rfl ?_
        refine ro_goto (tgt := 2) hX dX3_settles_70 (by decide) ?_
        refine ro_drop [3] hX rfl ?_
        exact vv_LM (by first | with_reducible rfl | (simp [rsM, laM, setL_s, setL_t, setL_0, dropL_0, dropL_c, *]; done) | (simp only [rsM, laM, setL_s, setL_t, setL_0, dropL_0, dropL_c]; (repeat' split) <;> first | with_reducible rfl | contradiction | (exfalso; omega) | (simp_all; done)) | rfl) (by first | with_reducible rfl | (simp [rsM, laM, setL_s, setL_t, setL_0, dropL_0, dropL_c, *]; done) | (simp only [rsM, laM, setL_s, setL_t, setL_0, dropL_0, dropL_c]; (repeat' split) <;> first | with_reducible rfl | contradiction | (exfalso; omega) | (simp_all; done)) | rfl) ih2
      · skip
        refine ro_aload_n (i := 0) (q := 31) hX dX3_settles_30 rfl rfl rfl ?_
        refine ro_iload_n (i := 1) (q := 32) hX dX3_settles_31 rfl rfl rfl ?_
        refine ro_iload_n (i := 2) (q := 33) hX dX3_settles_32 rfl rfl rfl ?_
        refine ro_callVi (q9 := 36) hX (m_held (by omega) (by omega)) mw_X3_held kl_X3_39 (by decide) (fun cy => cell3 (by decide +kernel)) rfl rfl rfl (Nat.le_of_ble_eq_true rfl) ⟨Nat.le_of_ble_eq_true rfl, Nat.le_of_ble_eq_true rfl⟩ dX3_settles_33 ⟨Nat.le_of_ble_eq_true rfl, Nat.le_of_ble_eq_true rfl⟩ rfl ?_
        refine ro_if_ne (tgt := 43) (q := 39) hX dX3_settles_36 (by decide) rfl (fun q3 => ?_) (fun q3 => ?_)
        · skip
          refine ro_iconst (v := nI 0) (q := 44) hX dX3_settles_43 rfl rfl ?_
          refine ro_istore_n (i := 3) (q := 45) hX dX3_settles_44 rfl (Nat.le_of_ble_eq_true rfl) rfl ?_
          refine ro_aload_n (i := 0) (q := 46) hX dX3_settles_45 rfl rfl rfl ?_
          refine ro_iload_n (i := 1) (q := 47) hX dX3_settles_46 rfl rfl rfl ?_
          refine ro_iload_n (i := 2) (q := 48) hX dX3_settles_47 rfl rfl rfl ?_
          refine ro_iconst (v := nI 0) (q := 49) hX dX3_settles_48 rfl rfl ?_
          refine ro_iload_n (i := 3) (q := 50) hX dX3_settles_49 rfl rfl rfl ?_
          refine ro_if_eq (tgt := 57) (q := 53) hX dX3_settles_50 (by decide) rfl (fun _ => ?_) (fun q => absurd (by decide) q)
          refine ro_aload_n (i := 0) (q := 58) hX dX3_settles_57 rfl rfl rfl ?_
          refine ro_iload_n (i := 1) (q := 59) hX dX3_settles_58 rfl rfl rfl ?_
          refine ro_iload_n (i := 2) (q := 60) hX dX3_settles_59 rfl rfl rfl ?_
          refine ro_iconst (v := nI 0) (q := 61) hX dX3_settles_60 rfl rfl ?_
          refine ro_callVi (q9 := 64) hX (m_of (by omega) (by omega) (by omega)) mw_X3_of kl_X3_36 (by decide) (fun cy => cell3 (by decide +kernel)) rfl rfl rfl (Nat.le_of_ble_eq_true rfl) ⟨Nat.le_of_ble_eq_true rfl, Nat.le_of_ble_eq_true rfl⟩ dX3_settles_61 ⟨Nat.le_of_ble_eq_true rfl, Nat.le_of_ble_eq_true rfl⟩ rfl ?_
          refine ro_callVv (q9 := 67) hX (m_lay (by omega) (by omega) (by omega)) mw_X3_lay kl_X3_72 (by decide) (fun cy => cell3 (by decide +kernel)) rfl rfl rfl (Nat.le_of_ble_eq_true rfl) ⟨Nat.le_of_ble_eq_true rfl, Nat.le_of_ble_eq_true rfl⟩ dX3_settles_64 ⟨Nat.le_of_ble_eq_true rfl, Nat.le_of_ble_eq_true rfl⟩ rfl ?_
          refine ro_iinc (i := 2) (v := nI (k2 + 1)) (q := 70) hX dX3_settles_67 rfl (ni_inc _) (Nat.le_of_ble_eq_true rfl) rfl ?_
          refine ro_goto (tgt := 2) hX dX3_settles_70 (by decide) ?_
          refine ro_drop [3] hX rfl ?_
          exact vv_LM (by first | with_reducible rfl | (simp [rsM, laM, setL_s, setL_t, setL_0, dropL_0, dropL_c, *]; done) | (simp only [rsM, laM, setL_s, setL_t, setL_0, dropL_0, dropL_c]; (repeat' split) <;> first | with_reducible rfl | contradiction | (exfalso; omega) | (simp_all; done)) | rfl) (by first | with_reducible rfl | (simp [rsM, laM, setL_s, setL_t, setL_0, dropL_0, dropL_c, *]; done) | (simp only [rsM, laM, setL_s, setL_t, setL_0, dropL_0, dropL_c]; (repeat' split) <;> first | with_reducible rfl | contradiction | (exfalso; omega) | (simp_all; done)) | rfl) ih2
        · skip
          refine ro_iconst (v := nI 1) (q := 40) hX dX3_settles_39 rfl rfl ?_
          refine ro_goto (tgt := 44) hX dX3_settles_40 (by decide) ?_
          refine ro_istore_n (i := 3) (q := 45) hX dX3_settles_44 rfl (Nat.le_of_ble_eq_true rfl) rfl ?_
          refine ro_aload_n (i := 0) (q := 46) hX dX3_settles_45 rfl rfl rfl ?_
          refine ro_iload_n (i := 1) (q := 47) hX dX3_settles_46 rfl rfl rfl ?_
          refine ro_iload_n (i := 2) (q := 48) hX dX3_settles_47 rfl rfl rfl ?_
          refine ro_iconst (v := nI 0) (q := 49) hX dX3_settles_48 rfl rfl ?_
          refine ro_iload_n (i := 3) (q := 50) hX dX3_settles_49 rfl rfl rfl ?_
          refine ro_if_eq (tgt := 57) (q := 53) hX dX3_settles_50 (by decide) rfl (fun q => absurd q (by decide)) (fun _ => ?_)
          refine ro_iconst (v := nI 0) (q := 54) hX dX3_settles_53 rfl rfl ?_
          refine ro_goto (tgt := 64) hX dX3_settles_54 (by decide) ?_
          refine ro_callVv (q9 := 67) hX (m_lay (by omega) (by omega) (by omega)) mw_X3_lay kl_X3_72 (by decide) (fun cy => cell3 (by decide +kernel)) rfl rfl rfl (Nat.le_of_ble_eq_true rfl) ⟨Nat.le_of_ble_eq_true rfl, Nat.le_of_ble_eq_true rfl⟩ dX3_settles_64 ⟨Nat.le_of_ble_eq_true rfl, Nat.le_of_ble_eq_true rfl⟩ rfl ?_
          refine ro_iinc (i := 2) (v := nI (k2 + 1)) (q := 70) hX dX3_settles_67 rfl (ni_inc _) (Nat.le_of_ble_eq_true rfl) rfl ?_
          refine ro_goto (tgt := 2) hX dX3_settles_70 (by decide) ?_
          refine ro_drop [3] hX rfl ?_
          exact vv_LM (by first | with_reducible rfl | (simp [rsM, laM, setL_s, setL_t, setL_0, dropL_0, dropL_c, *]; done) | (simp only [rsM, laM, setL_s, setL_t, setL_0, dropL_0, dropL_c]; (repeat' split) <;> first | with_reducible rfl | contradiction | (exfalso; omega) | (simp_all; done)) | rfl) (by first | with_reducible rfl | (simp [rsM, laM, setL_s, setL_t, setL_0, dropL_0, dropL_c, *]; done) | (simp only [rsM, laM, setL_s, setL_t, setL_0, dropL_0, dropL_c]; (repeat' split) <;> first | with_reducible rfl | contradiction | (exfalso; omega) | (simp_all; done)) | rfl) ih2
  · show VV 0 0 2 [(0, .ref (sz + 75)), (1, .int (nI b)), (2, .int (nI 6))] [] (patch G 75 4 (mS F (rsM s b 6)), T)
    refine ro_iload_n (i := 2) (q := 3) hX dX3_settles_2 rfl rfl rfl ?_
    refine ro_bipush (v := nI 6) (q := 5) hX dX3_settles_3 rfl rfl ?_
    refine ro_icmp_ge (tgt := 73) (q := 8) hX dX3_settles_5 (by decide) rfl (fun _ => ?_) (fun q => absurd (by decide) q)
    refine ro_aload_n (i := 0) (q := 74) hX dX3_settles_73 rfl rfl rfl ?_
    refine ro_Nga1 (q9 := 77) hX kf_X3_7 dX3_settles_74 rfl ?_
    refine ro_iload_n (i := 1) (q := 78) hX dX3_settles_77 rfl rfl rfl ?_
    refine ro_iconst (v := nI 4) (q := 79) hX dX3_settles_78 rfl rfl ?_
    refine ro_iadd (q := 80) hX dX3_settles_79 rfl ?_
    refine vv_top (y := nI (b + 4)) (nI_add' rfl rfl) ?_
    refine ro_Nsld (n := b + 4) (q9 := 81) hX rfl (by omega) dX3_settles_80 rfl ?_
    refine ro_iconst (v := (-1)) (q := 82) hX dX3_settles_81 rfl rfl ?_
    refine ro_icmp_ne (tgt := 90) (q := 85) hX dX3_settles_82 (by decide) rfl (fun q4 => ?_) (fun q4 => ?_)
    · skip
      exact fin_v hF (Nat.le_of_ble_eq_true rfl) (Nat.le_of_ble_eq_true rfl) dX3_settles_90 (by first | with_reducible rfl | (simp [seM, setL_s, setL_t, setL_0, dropL_0, dropL_c, *]; done) | (simp only [seM, setL_s, setL_t, setL_0, dropL_0, dropL_c]; (repeat' split) <;> first | with_reducible rfl | contradiction | (exfalso; omega) | (simp_all; done)) | rfl)
    · skip
      refine ro_aload_n (i := 0) (q := 86) hX dX3_settles_85 rfl rfl rfl ?_
      refine ro_iload_n (i := 1) (q := 87) hX dX3_settles_86 rfl rfl rfl ?_
      refine ro_callVv (q9 := 90) hX (m_chooses (by omega)) mw_X3_chooses kl_X3_75 (by decide) (fun cy => cell3 (by decide +kernel)) rfl rfl rfl (Nat.le_of_ble_eq_true rfl) ⟨Nat.le_of_ble_eq_true rfl, Nat.le_of_ble_eq_true rfl⟩ dX3_settles_87 ⟨Nat.le_of_ble_eq_true rfl, Nat.le_of_ble_eq_true rfl⟩ rfl ?_
      exact fin_v hF (Nat.le_of_ble_eq_true rfl) (Nat.le_of_ble_eq_true rfl) dX3_settles_90 (by first | with_reducible rfl | (simp [seM, setL_s, setL_t, setL_0, dropL_0, dropL_c, *]; done) | (simp only [seM, setL_s, setL_t, setL_0, dropL_0, dropL_c]; (repeat' split) <;> first | with_reducible rfl | contradiction | (exfalso; omega) | (simp_all; done)) | rfl)
set_option maxRecDepth 20000 in
set_option maxHeartbeats 2000000 in
theorem m_completes {b : Nat} (hb : b ≤ 2448) (h1 : isR (s (b + 4)) 30 = true) (h2 : isR (s (b + 5)) 6 = true) (h3 : isR (s (b + 6)) 6 = true) : Does sz I_X3_completes [.ref (sz + 75), .int (nI b)] (patch G 75 4 (mS F s), T) 0 0 (.inl none) (patch G 75 4 (mS F (coM s b)), T) := by
  refine Does.of (L := [(0, .ref (sz + 75)), (1, .int (nI b))]) (by decide +kernel) (Nat.le_of_ble_eq_true rfl) rfl ⟨rfl, (by simp), ⟨rfl, (by simp), trivial⟩⟩ (fun VV hF => ?_)
  have hX := hF.c
  obtain ⟨e1, l1⟩ := isR_n h1 (by decide)
  obtain ⟨e2, l2⟩ := isR_n h2 (by decide)
  obtain ⟨e3, l3⟩ := isR_n h3 (by decide)
  refine ro_aload_n (i := 0) (q := 1) hX dX3_completes_0 rfl rfl rfl ?_
  refine ro_Nga1 (q9 := 4) hX kf_X3_7 dX3_completes_1 rfl ?_
  refine ro_iload_n (i := 1) (q := 5) hX dX3_completes_4 rfl rfl rfl ?_
  refine ro_iconst (v := nI 4) (q := 6) hX dX3_completes_5 rfl rfl ?_
  refine ro_iadd (q := 7) hX dX3_completes_6 rfl ?_
  refine vv_top (y := nI (b + 4)) (nI_add' rfl rfl) ?_
  refine ro_Nsld (n := b + 4) (q9 := 8) hX rfl (by omega) dX3_completes_7 rfl ?_
  refine vv_top (y := (nI (ixN (s (b + 4))))) (e1) ?_
  refine ro_istore_n (i := 2) (q := 9) hX dX3_completes_8 rfl (Nat.le_of_ble_eq_true rfl) rfl ?_
  refine ro_aload_n (i := 0) (q := 10) hX dX3_completes_9 rfl rfl rfl ?_
  refine ro_Nga1 (q9 := 13) hX kf_X3_7 dX3_completes_10 rfl ?_
  refine ro_iload_n (i := 1) (q := 14) hX dX3_completes_13 rfl rfl rfl ?_
  refine ro_iconst (v := nI 5) (q := 15) hX dX3_completes_14 rfl rfl ?_
  refine ro_iadd (q := 16) hX dX3_completes_15 rfl ?_
  refine vv_top (y := nI (b + 5)) (nI_add' rfl rfl) ?_
  refine ro_Nsld (n := b + 5) (q9 := 17) hX rfl (by omega) dX3_completes_16 rfl ?_
  refine vv_top (y := (nI (ixN (s (b + 5))))) (e2) ?_
  refine ro_istore_n (i := 3) (q := 18) hX dX3_completes_17 rfl (Nat.le_of_ble_eq_true rfl) rfl ?_
  refine ro_aload_n (i := 0) (q := 19) hX dX3_completes_18 rfl rfl rfl ?_
  refine ro_iload_n (i := 1) (q := 20) hX dX3_completes_19 rfl rfl rfl ?_
  refine ro_iload_n (i := 3) (q := 21) hX dX3_completes_20 rfl rfl rfl ?_
  refine ro_iconst (v := nI 0) (q := 22) hX dX3_completes_21 rfl rfl ?_
  refine ro_callVi (q9 := 25) hX (m_of (by omega) (by omega) (by omega)) mw_X3_of kl_X3_36 (by decide) (fun cy => cell3 (by decide +kernel)) rfl rfl rfl (Nat.le_of_ble_eq_true rfl) ⟨Nat.le_of_ble_eq_true rfl, Nat.le_of_ble_eq_true rfl⟩ dX3_completes_22 ⟨Nat.le_of_ble_eq_true rfl, Nat.le_of_ble_eq_true rfl⟩ rfl ?_
  refine ro_iconst (v := nI 2) (q := 26) hX dX3_completes_25 rfl rfl ?_
  refine ro_icmp_ne (tgt := 33) (q := 29) hX dX3_completes_26 (by decide) rfl (fun q1 => ?_) (fun q1 => ?_)
  · skip
    refine ro_iconst (v := nI 0) (q := 34) hX dX3_completes_33 rfl rfl ?_
    refine ro_istore (i := 4) (q := 36) hX dX3_completes_34 (Nat.le_of_ble_eq_true rfl) rfl ?_
    refine ro_iload (i := 4) (q := 38) hX dX3_completes_36 rfl rfl ?_
    refine ro_if_ne (tgt := 54) (q := 41) hX dX3_completes_38 (by decide) rfl (fun q => absurd (by decide) q) (fun _ => ?_)
    refine ro_aload_n (i := 0) (q := 42) hX dX3_completes_41 rfl rfl rfl ?_
    refine ro_iload_n (i := 1) (q := 43) hX dX3_completes_42 rfl rfl rfl ?_
    refine ro_iload_n (i := 2) (q := 44) hX dX3_completes_43 rfl rfl rfl ?_
    refine ro_callVi (q9 := 47) hX (m_copiesOf (by omega) (by omega)) mw_X3_copiesOf kl_X3_49 (by decide) (fun cy => cell3 (by decide +kernel)) rfl rfl rfl (Nat.le_of_ble_eq_true rfl) ⟨Nat.le_of_ble_eq_true rfl, Nat.le_of_ble_eq_true rfl⟩ dX3_completes_44 ⟨Nat.le_of_ble_eq_true rfl, Nat.le_of_ble_eq_true rfl⟩ rfl ?_
    refine ro_callSi (q9 := 50) hX (m_ones) mw_X3_ones kl_X3_52 rfl rfl (Nat.le_of_ble_eq_true rfl) ⟨Nat.le_of_ble_eq_true rfl, Nat.le_of_ble_eq_true rfl⟩ dX3_completes_47 ⟨Nat.le_of_ble_eq_true rfl, Nat.le_of_ble_eq_true rfl⟩ rfl ?_
    refine ro_iconst (v := nI 1) (q := 51) hX dX3_completes_50 rfl rfl ?_
    refine ro_icmp_ne (tgt := 80) (q := 54) hX dX3_completes_51 (by decide) rfl (fun q2 => ?_) (fun q2 => ?_)
    · skip
      refine ro_iload (i := 4) (q := 82) hX dX3_completes_80 rfl rfl ?_
      refine ro_if_eq (tgt := 93) (q := 85) hX dX3_completes_82 (by decide) rfl (fun _ => ?_) (fun q => absurd (by decide) q)
      refine ro_aload_n (i := 0) (q := 94) hX dX3_completes_93 rfl rfl rfl ?_
      refine ro_Nga1 (q9 := 97) hX kf_X3_7 dX3_completes_94 rfl ?_
      refine ro_iload_n (i := 1) (q := 98) hX dX3_completes_97 rfl rfl rfl ?_
      refine ro_iconst (v := nI 4) (q := 99) hX dX3_completes_98 rfl rfl ?_
      refine ro_iadd (q := 100) hX dX3_completes_99 rfl ?_
      refine vv_top (y := nI (b + 4)) (nI_add' rfl rfl) ?_
      refine ro_iconst (v := (-1)) (q := 101) hX dX3_completes_100 rfl rfl ?_
      refine ro_Nsst (n := b + 4) (q9 := 102) hX rfl (by omega) dX3_completes_101 rfl ?_
      refine ro_aload_n (i := 0) (q := 103) hX dX3_completes_102 rfl rfl rfl ?_
      refine ro_Nga1 (q9 := 106) hX kf_X3_7 dX3_completes_103 rfl ?_
      refine ro_iload_n (i := 1) (q := 107) hX dX3_completes_106 rfl rfl rfl ?_
      refine ro_iconst (v := nI 3) (q := 108) hX dX3_completes_107 rfl rfl ?_
      refine ro_iadd (q := 109) hX dX3_completes_108 rfl ?_
      refine vv_top (y := nI (b + 3)) (nI_add' rfl rfl) ?_
      refine ro_dup2 (q := 110) hX dX3_completes_109 rfl rfl rfl ?_
      refine ro_Nsld (n := b + 3) (q9 := 111) hX rfl (by omega) dX3_completes_110 rfl ?_
      refine ro_iconst (v := nI 1) (q := 112) hX dX3_completes_111 rfl rfl ?_
      refine ro_iadd (q := 113) hX dX3_completes_112 rfl ?_
      refine ro_Nsst (n := b + 3) (q9 := 114) hX rfl (by omega) dX3_completes_113 rfl ?_
      exact fin_v hF (Nat.le_of_ble_eq_true rfl) (Nat.le_of_ble_eq_true rfl) dX3_completes_114 (by clear e1 e2 e3; (first | with_reducible rfl | (simp [coM, co1, co2, *]; done) | rfl))
    · skip
      refine ro_aload_n (i := 0) (q := 55) hX dX3_completes_54 rfl rfl rfl ?_
      refine ro_iload_n (i := 1) (q := 56) hX dX3_completes_55 rfl rfl rfl ?_
      refine ro_aload_n (i := 0) (q := 57) hX dX3_completes_56 rfl rfl rfl ?_
      refine ro_Nga1 (q9 := 60) hX kf_X3_7 dX3_completes_57 rfl ?_
      refine ro_iload_n (i := 1) (q := 61) hX dX3_completes_60 rfl rfl rfl ?_
      refine ro_bipush (v := nI 6) (q := 63) hX dX3_completes_61 rfl rfl ?_
      refine ro_iadd (q := 64) hX dX3_completes_63 rfl ?_
      refine vv_top (y := nI (b + 6)) (nI_add' rfl rfl) ?_
      refine ro_Nsld (n := b + 6) (q9 := 65) hX rfl (by omega) dX3_completes_64 rfl ?_
      refine vv_top (y := (nI (ixN (s (b + 6))))) (e3) ?_
      refine ro_iload_n (i := 2) (q := 66) hX dX3_completes_65 rfl rfl rfl ?_
      refine ro_aload_n (i := 0) (q := 67) hX dX3_completes_66 rfl rfl rfl ?_
      refine ro_Nga1 (q9 := 70) hX kf_X3_7 dX3_completes_67 rfl ?_
      refine ro_iload_n (i := 1) (q := 71) hX dX3_completes_70 rfl rfl rfl ?_
      refine ro_bipush (v := nI 32) (q := 73) hX dX3_completes_71 rfl rfl ?_
      refine ro_iadd (q := 74) hX dX3_completes_73 rfl ?_
      refine vv_top (y := nI (b + 32)) (nI_add' rfl rfl) ?_
      refine ro_iload_n (i := 2) (q := 75) hX dX3_completes_74 rfl rfl rfl ?_
      refine ro_iadd (q := 76) hX dX3_completes_75 rfl ?_
      refine vv_top (y := nI (b + 32 + (ixN (s (b + 4))))) (nI_add' rfl rfl) ?_
      refine ro_Nsld (n := b + 32 + (ixN (s (b + 4)))) (q9 := 77) hX rfl (by omega) dX3_completes_76 rfl ?_
      refine ro_callVv (q9 := 80) hX (m_layReplica (by omega) (by omega) (by omega)) mw_X3_layReplica kl_X3_62 (by decide) (fun cy => cell3 (by decide +kernel)) rfl rfl rfl (Nat.le_of_ble_eq_true rfl) ⟨Nat.le_of_ble_eq_true rfl, Nat.le_of_ble_eq_true rfl⟩ dX3_completes_77 ⟨Nat.le_of_ble_eq_true rfl, Nat.le_of_ble_eq_true rfl⟩ rfl ?_
      refine ro_iload (i := 4) (q := 82) hX dX3_completes_80 rfl rfl ?_
      refine ro_if_eq (tgt := 93) (q := 85) hX dX3_completes_82 (by decide) rfl (fun _ => ?_) (fun q => absurd (by decide) q)
      refine ro_aload_n (i := 0) (q := 94) hX dX3_completes_93 rfl rfl rfl ?_
      refine ro_Nga1 (q9 := 97) hX kf_X3_7 dX3_completes_94 rfl ?_
      refine ro_iload_n (i := 1) (q := 98) hX dX3_completes_97 rfl rfl rfl ?_
      refine ro_iconst (v := nI 4) (q := 99) hX dX3_completes_98 rfl rfl ?_
      refine ro_iadd (q := 100) hX dX3_completes_99 rfl ?_
      refine vv_top (y := nI (b + 4)) (nI_add' rfl rfl) ?_
      refine ro_iconst (v := (-1)) (q := 101) hX dX3_completes_100 rfl rfl ?_
      refine ro_Nsst (n := b + 4) (q9 := 102) hX rfl (by omega) dX3_completes_101 rfl ?_
      refine ro_aload_n (i := 0) (q := 103) hX dX3_completes_102 rfl rfl rfl ?_
      refine ro_Nga1 (q9 := 106) hX kf_X3_7 dX3_completes_103 rfl ?_
      refine ro_iload_n (i := 1) (q := 107) hX dX3_completes_106 rfl rfl rfl ?_
      refine ro_iconst (v := nI 3) (q := 108) hX dX3_completes_107 rfl rfl ?_
      refine ro_iadd (q := 109) hX dX3_completes_108 rfl ?_
      refine vv_top (y := nI (b + 3)) (nI_add' rfl rfl) ?_
      refine ro_dup2 (q := 110) hX dX3_completes_109 rfl rfl rfl ?_
      refine ro_Nsld (n := b + 3) (q9 := 111) hX rfl (by omega) dX3_completes_110 rfl ?_
      refine ro_iconst (v := nI 1) (q := 112) hX dX3_completes_111 rfl rfl ?_
      refine ro_iadd (q := 113) hX dX3_completes_112 rfl ?_
      refine ro_Nsst (n := b + 3) (q9 := 114) hX rfl (by omega) dX3_completes_113 rfl ?_
      exact fin_v hF (Nat.le_of_ble_eq_true rfl) (Nat.le_of_ble_eq_true rfl) dX3_completes_114 (by clear e1 e2 e3; (first | with_reducible rfl | (simp [coM, co1, co2, *]; done) | rfl))
  · skip
    refine ro_iconst (v := nI 1) (q := 30) hX dX3_completes_29 rfl rfl ?_
    refine ro_goto (tgt := 34) hX dX3_completes_30 (by decide) ?_
    refine ro_istore (i := 4) (q := 36) hX dX3_completes_34 (Nat.le_of_ble_eq_true rfl) rfl ?_
    refine ro_iload (i := 4) (q := 38) hX dX3_completes_36 rfl rfl ?_
    refine ro_if_ne (tgt := 54) (q := 41) hX dX3_completes_38 (by decide) rfl (fun _ => ?_) (fun q => absurd q (by decide))
    refine ro_aload_n (i := 0) (q := 55) hX dX3_completes_54 rfl rfl rfl ?_
    refine ro_iload_n (i := 1) (q := 56) hX dX3_completes_55 rfl rfl rfl ?_
    refine ro_aload_n (i := 0) (q := 57) hX dX3_completes_56 rfl rfl rfl ?_
    refine ro_Nga1 (q9 := 60) hX kf_X3_7 dX3_completes_57 rfl ?_
    refine ro_iload_n (i := 1) (q := 61) hX dX3_completes_60 rfl rfl rfl ?_
    refine ro_bipush (v := nI 6) (q := 63) hX dX3_completes_61 rfl rfl ?_
    refine ro_iadd (q := 64) hX dX3_completes_63 rfl ?_
    refine vv_top (y := nI (b + 6)) (nI_add' rfl rfl) ?_
    refine ro_Nsld (n := b + 6) (q9 := 65) hX rfl (by omega) dX3_completes_64 rfl ?_
    refine vv_top (y := (nI (ixN (s (b + 6))))) (e3) ?_
    refine ro_iload_n (i := 2) (q := 66) hX dX3_completes_65 rfl rfl rfl ?_
    refine ro_aload_n (i := 0) (q := 67) hX dX3_completes_66 rfl rfl rfl ?_
    refine ro_Nga1 (q9 := 70) hX kf_X3_7 dX3_completes_67 rfl ?_
    refine ro_iload_n (i := 1) (q := 71) hX dX3_completes_70 rfl rfl rfl ?_
    refine ro_bipush (v := nI 32) (q := 73) hX dX3_completes_71 rfl rfl ?_
    refine ro_iadd (q := 74) hX dX3_completes_73 rfl ?_
    refine vv_top (y := nI (b + 32)) (nI_add' rfl rfl) ?_
    refine ro_iload_n (i := 2) (q := 75) hX dX3_completes_74 rfl rfl rfl ?_
    refine ro_iadd (q := 76) hX dX3_completes_75 rfl ?_
    refine vv_top (y := nI (b + 32 + (ixN (s (b + 4))))) (nI_add' rfl rfl) ?_
    refine ro_Nsld (n := b + 32 + (ixN (s (b + 4)))) (q9 := 77) hX rfl (by omega) dX3_completes_76 rfl ?_
    refine ro_callVv (q9 := 80) hX (m_layReplica (by omega) (by omega) (by omega)) mw_X3_layReplica kl_X3_62 (by decide) (fun cy => cell3 (by decide +kernel)) rfl rfl rfl (Nat.le_of_ble_eq_true rfl) ⟨Nat.le_of_ble_eq_true rfl, Nat.le_of_ble_eq_true rfl⟩ dX3_completes_77 ⟨Nat.le_of_ble_eq_true rfl, Nat.le_of_ble_eq_true rfl⟩ rfl ?_
    refine ro_iload (i := 4) (q := 82) hX dX3_completes_80 rfl rfl ?_
    refine ro_if_eq (tgt := 93) (q := 85) hX dX3_completes_82 (by decide) rfl (fun q => absurd q (by decide)) (fun _ => ?_)
    refine ro_aload_n (i := 0) (q := 86) hX dX3_completes_85 rfl rfl rfl ?_
    refine ro_iload_n (i := 1) (q := 87) hX dX3_completes_86 rfl rfl rfl ?_
    refine ro_iload_n (i := 3) (q := 88) hX dX3_completes_87 rfl rfl rfl ?_
    refine ro_iload_n (i := 2) (q := 89) hX dX3_completes_88 rfl rfl rfl ?_
    refine ro_iconst (v := nI 0) (q := 90) hX dX3_completes_89 rfl rfl ?_
    refine ro_callVv (q9 := 93) hX (m_layReplica (by omega) (by omega) (by omega)) mw_X3_layReplica kl_X3_62 (by decide) (fun cy => cell3 (by decide +kernel)) rfl rfl rfl (Nat.le_of_ble_eq_true rfl) ⟨Nat.le_of_ble_eq_true rfl, Nat.le_of_ble_eq_true rfl⟩ dX3_completes_90 ⟨Nat.le_of_ble_eq_true rfl, Nat.le_of_ble_eq_true rfl⟩ rfl ?_
    refine ro_aload_n (i := 0) (q := 94) hX dX3_completes_93 rfl rfl rfl ?_
    refine ro_Nga1 (q9 := 97) hX kf_X3_7 dX3_completes_94 rfl ?_
    refine ro_iload_n (i := 1) (q := 98) hX dX3_completes_97 rfl rfl rfl ?_
    refine ro_iconst (v := nI 4) (q := 99) hX dX3_completes_98 rfl rfl ?_
    refine ro_iadd (q := 100) hX dX3_completes_99 rfl ?_
    refine vv_top (y := nI (b + 4)) (nI_add' rfl rfl) ?_
    refine ro_iconst (v := (-1)) (q := 101) hX dX3_completes_100 rfl rfl ?_
    refine ro_Nsst (n := b + 4) (q9 := 102) hX rfl (by omega) dX3_completes_101 rfl ?_
    refine ro_aload_n (i := 0) (q := 103) hX dX3_completes_102 rfl rfl rfl ?_
    refine ro_Nga1 (q9 := 106) hX kf_X3_7 dX3_completes_103 rfl ?_
    refine ro_iload_n (i := 1) (q := 107) hX dX3_completes_106 rfl rfl rfl ?_
    refine ro_iconst (v := nI 3) (q := 108) hX dX3_completes_107 rfl rfl ?_
    refine ro_iadd (q := 109) hX dX3_completes_108 rfl ?_
    refine vv_top (y := nI (b + 3)) (nI_add' rfl rfl) ?_
    refine ro_dup2 (q := 110) hX dX3_completes_109 rfl rfl rfl ?_
    refine ro_Nsld (n := b + 3) (q9 := 111) hX rfl (by omega) dX3_completes_110 rfl ?_
    refine ro_iconst (v := nI 1) (q := 112) hX dX3_completes_111 rfl rfl ?_
    refine ro_iadd (q := 113) hX dX3_completes_112 rfl ?_
    refine ro_Nsst (n := b + 3) (q9 := 114) hX rfl (by omega) dX3_completes_113 rfl ?_
    exact fin_v hF (Nat.le_of_ble_eq_true rfl) (Nat.le_of_ble_eq_true rfl) dX3_completes_114 (by clear e1 e2 e3; (first | with_reducible rfl | (simp [coM, co1, co2, *]; done) | rfl))
set_option maxRecDepth 20000 in
set_option maxHeartbeats 2000000 in
theorem m_secondPasses {b : Nat} (hb : b ≤ 2448) (hT : trOK (tkM s b) b) : Does sz I_X3_secondPasses [.ref (sz + 75), .int (nI b)] (patch G 75 4 (mS F s), T) 0 0 (.inl none) (patch G 75 4 (mS F (spM s b)), T) := by
  refine Does.of (L := [(0, .ref (sz + 75)), (1, .int (nI b))]) (by decide +kernel) (Nat.le_of_ble_eq_true rfl) rfl ⟨rfl, (by simp), ⟨rfl, (by simp), trivial⟩⟩ (fun VV hF => ?_)
  have hX := hF.c
  refine ro_aload_n (i := 0) (q := 1) hX dX3_secondPasses_0 rfl rfl rfl ?_
  refine ro_Nga1 (q9 := 4) hX kf_X3_7 dX3_secondPasses_1 rfl ?_
  refine ro_iload_n (i := 1) (q := 5) hX dX3_secondPasses_4 rfl rfl rfl ?_
  refine ro_iconst (v := nI 0) (q := 6) hX dX3_secondPasses_5 rfl rfl ?_
  refine ro_iadd (q := 7) hX dX3_secondPasses_6 rfl ?_
  refine vv_top (y := nI (b + 0)) (nI_add' rfl rfl) ?_
  refine ro_dup2 (q := 8) hX dX3_secondPasses_7 rfl rfl rfl ?_
  refine ro_Nsld (n := b + 0) (q9 := 9) hX rfl (by omega) dX3_secondPasses_8 rfl ?_
  refine ro_iconst (v := nI 1) (q := 10) hX dX3_secondPasses_9 rfl rfl ?_
  refine ro_iadd (q := 11) hX dX3_secondPasses_10 rfl ?_
  refine ro_Nsst (n := b + 0) (q9 := 12) hX rfl (by omega) dX3_secondPasses_11 rfl ?_
  refine ro_aload_n (i := 0) (q := 13) hX dX3_secondPasses_12 rfl rfl rfl ?_
  refine ro_Nga1 (q9 := 16) hX kf_X3_7 dX3_secondPasses_13 rfl ?_
  refine ro_iload_n (i := 1) (q := 17) hX dX3_secondPasses_16 rfl rfl rfl ?_
  refine ro_iconst (v := nI 4) (q := 18) hX dX3_secondPasses_17 rfl rfl ?_
  refine ro_iadd (q := 19) hX dX3_secondPasses_18 rfl ?_
  refine vv_top (y := nI (b + 4)) (nI_add' rfl rfl) ?_
  refine ro_Nsld (n := b + 4) (q9 := 20) hX rfl (by omega) dX3_secondPasses_19 rfl ?_
  refine ro_iconst (v := (-1)) (q := 21) hX dX3_secondPasses_20 rfl rfl ?_
  refine ro_icmp_eq (tgt := 49) (q := 24) hX dX3_secondPasses_21 (by decide) rfl (fun q1 => ?_) (fun q1 => ?_)
  · skip
    refine ro_iconst (v := nI 0) (q := 50) hX dX3_secondPasses_49 rfl rfl ?_
    refine ro_istore_n (i := 2) (q := 51) hX dX3_secondPasses_50 rfl (Nat.le_of_ble_eq_true rfl) rfl ?_
    refine vv_LM (L' := [(0, .ref (sz + 75)), (1, .int (nI b)), (2, .int (nI 0))]) (M' := (patch G 75 4 (mS F (exM (evM (tkM s b) b) b 0)), T)) (by first | with_reducible rfl | (simp [exM, evM, tkM, setL_s, setL_t, setL_0, dropL_0, dropL_c, *]; done) | (simp only [exM, evM, tkM, setL_s, setL_t, setL_0, dropL_0, dropL_c]; (repeat' split) <;> first | with_reducible rfl | contradiction | (exfalso; omega) | (simp_all; done)) | rfl) (by first | with_reducible rfl | (simp [exM, evM, tkM, setL_s, setL_t, setL_0, dropL_0, dropL_c, *]; done) | (simp only [exM, evM, tkM, setL_s, setL_t, setL_0, dropL_0, dropL_c]; (repeat' split) <;> first | with_reducible rfl | contradiction | (exfalso; omega) | (simp_all; done)) | rfl) ?_
    refine down_ind (P := fun k51 => VV 0 0 51 [(0, .ref (sz + 75)), (1, .int (nI b)), (2, .int (nI k51))] [] (patch G 75 4 (mS F (exM (evM (tkM s b) b) b k51)), T)) (6) (fun k51 hk51 ih51 => ?_) ?_
    · have ih51 : VV 0 0 51 [(0, .ref (sz + 75)), (1, .int (nI b)), (2, .int (nI (k51 + 1)))] [] (patch G 75 4 (mS F (exM (evM (tkM s b) b) b (k51 + 1))), T) := ih51
      show VV 0 0 51 [(0, .ref (sz + 75)), (1, .int (nI b)), (2, .int (nI k51))] [] (patch G 75 4 (mS F (exM (evM (tkM s b) b) b k51)), T)
      have hdl := hdM_le (s := exM (evM (tkM s b) b) b k51) (b := b) (h := k51)
      refine ro_iload_n (i := 2) (q := 52) hX dX3_secondPasses_51 rfl rfl rfl ?_
      refine ro_bipush (v := nI 6) (q := 54) hX dX3_secondPasses_52 rfl rfl ?_
      refine ro_icmp_ge (tgt := 122) (q := 57) hX dX3_secondPasses_54 (by decide) rfl (fun q => absurd q (by first | exact ni_nle (by omega) (by omega) | exact ni_lt (by omega) (by omega))) (fun _ => ?_)
      refine ro_aload_n (i := 0) (q := 58) hX dX3_secondPasses_57 rfl rfl rfl ?_
      refine ro_iload_n (i := 1) (q := 59) hX dX3_secondPasses_58 rfl rfl rfl ?_
      refine ro_iload_n (i := 2) (q := 60) hX dX3_secondPasses_59 rfl rfl rfl ?_
      refine ro_iconst (v := nI 0) (q := 61) hX dX3_secondPasses_60 rfl rfl ?_
      refine ro_callVi (q9 := 64) hX (m_of (by omega) (by omega) (by omega)) mw_X3_of kl_X3_36 (by decide) (fun cy => cell3 (by decide +kernel)) rfl rfl rfl (Nat.le_of_ble_eq_true rfl) ⟨Nat.le_of_ble_eq_true rfl, Nat.le_of_ble_eq_true rfl⟩ dX3_secondPasses_61 ⟨Nat.le_of_ble_eq_true rfl, Nat.le_of_ble_eq_true rfl⟩ rfl ?_
      refine ro_iconst (v := nI 2) (q := 65) hX dX3_secondPasses_64 rfl rfl ?_
      refine ro_icmp_ne (tgt := 116) (q := 68) hX dX3_secondPasses_65 (by decide) rfl (fun q2 => ?_) (fun q2 => ?_)
      · skip
        refine ro_iinc (i := 2) (v := nI (k51 + 1)) (q := 119) hX dX3_secondPasses_116 rfl (ni_inc _) (Nat.le_of_ble_eq_true rfl) rfl ?_
        refine ro_goto (tgt := 51) hX dX3_secondPasses_119 (by decide) ?_
        exact vv_LM (by first | with_reducible rfl | (simp [exM, setL_s, setL_t, setL_0, dropL_0, dropL_c, *]; done) | (simp only [exM, setL_s, setL_t, setL_0, dropL_0, dropL_c]; (repeat' split) <;> first | with_reducible rfl | contradiction | (exfalso; omega) | (simp_all; done)) | rfl) (by first | with_reducible rfl | (simp [exM, setL_s, setL_t, setL_0, dropL_0, dropL_c, *]; done) | (simp only [exM, setL_s, setL_t, setL_0, dropL_0, dropL_c]; (repeat' split) <;> first | with_reducible rfl | contradiction | (exfalso; omega) | (simp_all; done)) | rfl) ih51
      · skip
        refine ro_aload_n (i := 0) (q := 69) hX dX3_secondPasses_68 rfl rfl rfl ?_
        refine ro_iload_n (i := 1) (q := 70) hX dX3_secondPasses_69 rfl rfl rfl ?_
        refine ro_iload_n (i := 2) (q := 71) hX dX3_secondPasses_70 rfl rfl rfl ?_
        refine ro_iconst (v := nI 3) (q := 72) hX dX3_secondPasses_71 rfl rfl ?_
        refine ro_callVi (q9 := 75) hX (m_of (by omega) (by omega) (by omega)) mw_X3_of kl_X3_36 (by decide) (fun cy => cell3 (by decide +kernel)) rfl rfl rfl (Nat.le_of_ble_eq_true rfl) ⟨Nat.le_of_ble_eq_true rfl, Nat.le_of_ble_eq_true rfl⟩ dX3_secondPasses_72 ⟨Nat.le_of_ble_eq_true rfl, Nat.le_of_ble_eq_true rfl⟩ rfl ?_
        refine ro_aload_n (i := 0) (q := 76) hX dX3_secondPasses_75 rfl rfl rfl ?_
        refine ro_Nga1 (q9 := 79) hX kf_X3_7 dX3_secondPasses_76 rfl ?_
        refine ro_iload_n (i := 1) (q := 80) hX dX3_secondPasses_79 rfl rfl rfl ?_
        refine ro_iconst (v := nI 0) (q := 81) hX dX3_secondPasses_80 rfl rfl ?_
        refine ro_iadd (q := 82) hX dX3_secondPasses_81 rfl ?_
        refine vv_top (y := nI (b + 0)) (nI_add' rfl rfl) ?_
        refine ro_Nsld (n := b + 0) (q9 := 83) hX rfl (by omega) dX3_secondPasses_82 rfl ?_
        refine ro_icmp_ne (tgt := 116) (q := 86) hX dX3_secondPasses_83 (by decide) rfl (fun q3 => ?_) (fun q3 => ?_)
        · skip
          refine ro_iinc (i := 2) (v := nI (k51 + 1)) (q := 119) hX dX3_secondPasses_116 rfl (ni_inc _) (Nat.le_of_ble_eq_true rfl) rfl ?_
          refine ro_goto (tgt := 51) hX dX3_secondPasses_119 (by decide) ?_
          exact vv_LM (by first | with_reducible rfl | (simp [exM, setL_s, setL_t, setL_0, dropL_0, dropL_c, *]; done) | (simp only [exM, setL_s, setL_t, setL_0, dropL_0, dropL_c]; (repeat' split) <;> first | with_reducible rfl | contradiction | (exfalso; omega) | (simp_all; done)) | rfl) (by first | with_reducible rfl | (simp [exM, setL_s, setL_t, setL_0, dropL_0, dropL_c, *]; done) | (simp only [exM, setL_s, setL_t, setL_0, dropL_0, dropL_c]; (repeat' split) <;> first | with_reducible rfl | contradiction | (exfalso; omega) | (simp_all; done)) | rfl) ih51
        · skip
          refine ro_aload_n (i := 0) (q := 87) hX dX3_secondPasses_86 rfl rfl rfl ?_
          refine ro_iload_n (i := 1) (q := 88) hX dX3_secondPasses_87 rfl rfl rfl ?_
          refine ro_iload_n (i := 2) (q := 89) hX dX3_secondPasses_88 rfl rfl rfl ?_
          refine ro_callVi (q9 := 92) hX (m_clears (by omega) (by omega)) mw_X3_clears kl_X3_82 (by decide) (fun cy => cell3 (by decide +kernel)) rfl rfl rfl (Nat.le_of_ble_eq_true rfl) ⟨Nat.le_of_ble_eq_true rfl, Nat.le_of_ble_eq_true rfl⟩ dX3_secondPasses_89 ⟨Nat.le_of_ble_eq_true rfl, Nat.le_of_ble_eq_true rfl⟩ rfl ?_
          refine ro_istore_n (i := 3) (q := 93) hX dX3_secondPasses_92 rfl (Nat.le_of_ble_eq_true rfl) rfl ?_
          refine ro_aload_n (i := 0) (q := 94) hX dX3_secondPasses_93 rfl rfl rfl ?_
          refine ro_iload_n (i := 1) (q := 95) hX dX3_secondPasses_94 rfl rfl rfl ?_
          refine ro_iload_n (i := 2) (q := 96) hX dX3_secondPasses_95 rfl rfl rfl ?_
          refine ro_iconst (v := nI 0) (q := 97) hX dX3_secondPasses_96 rfl rfl ?_
          refine ro_iconst (v := nI 0) (q := 98) hX dX3_secondPasses_97 rfl rfl ?_
          refine ro_callVv (q9 := 101) hX (m_lay (by omega) (by omega) (by omega)) mw_X3_lay kl_X3_72 (by decide) (fun cy => cell3 (by decide +kernel)) rfl rfl rfl (Nat.le_of_ble_eq_true rfl) ⟨Nat.le_of_ble_eq_true rfl, Nat.le_of_ble_eq_true rfl⟩ dX3_secondPasses_98 ⟨Nat.le_of_ble_eq_true rfl, Nat.le_of_ble_eq_true rfl⟩ rfl ?_
          refine ro_aload_n (i := 0) (q := 102) hX dX3_secondPasses_101 rfl rfl rfl ?_
          refine ro_iload_n (i := 1) (q := 103) hX dX3_secondPasses_102 rfl rfl rfl ?_
          refine ro_iload_n (i := 2) (q := 104) hX dX3_secondPasses_103 rfl rfl rfl ?_
          refine ro_iload_n (i := 3) (q := 105) hX dX3_secondPasses_104 rfl rfl rfl ?_
          refine ro_if_lt (tgt := 112) (q := 108) hX dX3_secondPasses_105 (by decide) rfl (fun q => absurd q (by first | exact nI_pos (by omega) | exact nI_pos' (by omega))) (fun _ => ?_)
          refine ro_iconst (v := nI 1) (q := 109) hX dX3_secondPasses_108 rfl rfl ?_
          refine ro_goto (tgt := 113) hX dX3_secondPasses_109 (by decide) ?_
          refine ro_callVv (q9 := 116) hX (m_cancels_1 (by omega) (by omega)) mw_X3_cancels kl_X3_85 (by decide) (fun cy => cell3 (by decide +kernel)) rfl rfl rfl (Nat.le_of_ble_eq_true rfl) ⟨Nat.le_of_ble_eq_true rfl, Nat.le_of_ble_eq_true rfl⟩ dX3_secondPasses_113 ⟨Nat.le_of_ble_eq_true rfl, Nat.le_of_ble_eq_true rfl⟩ rfl ?_
          refine ro_iinc (i := 2) (v := nI (k51 + 1)) (q := 119) hX dX3_secondPasses_116 rfl (ni_inc _) (Nat.le_of_ble_eq_true rfl) rfl ?_
          refine ro_goto (tgt := 51) hX dX3_secondPasses_119 (by decide) ?_
          refine ro_drop [3] hX rfl ?_
          exact vv_LM (by first | with_reducible rfl | (simp [exM, setL_s, setL_t, setL_0, dropL_0, dropL_c, *]; done) | (simp only [exM, setL_s, setL_t, setL_0, dropL_0, dropL_c]; (repeat' split) <;> first | with_reducible rfl | contradiction | (exfalso; omega) | (simp_all; done)) | rfl) (by first | with_reducible rfl | (simp [exM, setL_s, setL_t, setL_0, dropL_0, dropL_c, *]; done) | (simp only [exM, setL_s, setL_t, setL_0, dropL_0, dropL_c]; (repeat' split) <;> first | with_reducible rfl | contradiction | (exfalso; omega) | (simp_all; done)) | rfl) ih51
    · show VV 0 0 51 [(0, .ref (sz + 75)), (1, .int (nI b)), (2, .int (nI 6))] [] (patch G 75 4 (mS F (exM (evM (tkM s b) b) b 6)), T)
      refine ro_iload_n (i := 2) (q := 52) hX dX3_secondPasses_51 rfl rfl rfl ?_
      refine ro_bipush (v := nI 6) (q := 54) hX dX3_secondPasses_52 rfl rfl ?_
      refine ro_icmp_ge (tgt := 122) (q := 57) hX dX3_secondPasses_54 (by decide) rfl (fun _ => ?_) (fun q => absurd (by decide) q)
      refine ro_aload_n (i := 0) (q := 123) hX dX3_secondPasses_122 rfl rfl rfl ?_
      refine ro_iload_n (i := 1) (q := 124) hX dX3_secondPasses_123 rfl rfl rfl ?_
      refine ro_callVv (q9 := 127) hX (m_settles (by omega)) mw_X3_settles kl_X3_89 (by decide) (fun cy => cell3 (by decide +kernel)) rfl rfl rfl (Nat.le_of_ble_eq_true rfl) ⟨Nat.le_of_ble_eq_true rfl, Nat.le_of_ble_eq_true rfl⟩ dX3_secondPasses_124 ⟨Nat.le_of_ble_eq_true rfl, Nat.le_of_ble_eq_true rfl⟩ rfl ?_
      exact fin_v hF (Nat.le_of_ble_eq_true rfl) (Nat.le_of_ble_eq_true rfl) dX3_secondPasses_127 (by rfl)
  · skip
    refine ro_aload_n (i := 0) (q := 25) hX dX3_secondPasses_24 rfl rfl rfl ?_
    refine ro_Nga1 (q9 := 28) hX kf_X3_7 dX3_secondPasses_25 rfl ?_
    refine ro_iload_n (i := 1) (q := 29) hX dX3_secondPasses_28 rfl rfl rfl ?_
    refine ro_bipush (v := nI 7) (q := 31) hX dX3_secondPasses_29 rfl rfl ?_
    refine ro_iadd (q := 32) hX dX3_secondPasses_31 rfl ?_
    refine vv_top (y := nI (b + 7)) (nI_add' rfl rfl) ?_
    refine ro_Nsld (n := b + 7) (q9 := 33) hX rfl (by omega) dX3_secondPasses_32 rfl ?_
    refine ro_aload_n (i := 0) (q := 34) hX dX3_secondPasses_33 rfl rfl rfl ?_
    refine ro_Nga1 (q9 := 37) hX kf_X3_7 dX3_secondPasses_34 rfl ?_
    refine ro_iload_n (i := 1) (q := 38) hX dX3_secondPasses_37 rfl rfl rfl ?_
    refine ro_iconst (v := nI 0) (q := 39) hX dX3_secondPasses_38 rfl rfl ?_
    refine ro_iadd (q := 40) hX dX3_secondPasses_39 rfl ?_
    refine vv_top (y := nI (b + 0)) (nI_add' rfl rfl) ?_
    refine ro_Nsld (n := b + 0) (q9 := 41) hX rfl (by omega) dX3_secondPasses_40 rfl ?_
    refine ro_icmp_ne (tgt := 49) (q := 44) hX dX3_secondPasses_41 (by decide) rfl (fun q4 => ?_) (fun q4 => ?_)
    · skip
      refine ro_iconst (v := nI 0) (q := 50) hX dX3_secondPasses_49 rfl rfl ?_
      refine ro_istore_n (i := 2) (q := 51) hX dX3_secondPasses_50 rfl (Nat.le_of_ble_eq_true rfl) rfl ?_
      refine vv_LM (L' := [(0, .ref (sz + 75)), (1, .int (nI b)), (2, .int (nI 0))]) (M' := (patch G 75 4 (mS F (exM (evM (tkM s b) b) b 0)), T)) (by first | with_reducible rfl | (simp [exM, evM, tkM, setL_s, setL_t, setL_0, dropL_0, dropL_c, *]; done) | (simp only [exM, evM, tkM, setL_s, setL_t, setL_0, dropL_0, dropL_c]; (repeat' split) <;> first | with_reducible rfl | contradiction | (exfalso; omega) | (simp_all; done)) | rfl) (by first | with_reducible rfl | (simp [exM, evM, tkM, setL_s, setL_t, setL_0, dropL_0, dropL_c, *]; done) | (simp only [exM, evM, tkM, setL_s, setL_t, setL_0, dropL_0, dropL_c]; (repeat' split) <;> first | with_reducible rfl | contradiction | (exfalso; omega) | (simp_all; done)) | rfl) ?_
      refine down_ind (P := fun k51 => VV 0 0 51 [(0, .ref (sz + 75)), (1, .int (nI b)), (2, .int (nI k51))] [] (patch G 75 4 (mS F (exM (evM (tkM s b) b) b k51)), T)) (6) (fun k51 hk51 ih51 => ?_) ?_
      · have ih51 : VV 0 0 51 [(0, .ref (sz + 75)), (1, .int (nI b)), (2, .int (nI (k51 + 1)))] [] (patch G 75 4 (mS F (exM (evM (tkM s b) b) b (k51 + 1))), T) := ih51
        show VV 0 0 51 [(0, .ref (sz + 75)), (1, .int (nI b)), (2, .int (nI k51))] [] (patch G 75 4 (mS F (exM (evM (tkM s b) b) b k51)), T)
        have hdl := hdM_le (s := exM (evM (tkM s b) b) b k51) (b := b) (h := k51)
        refine ro_iload_n (i := 2) (q := 52) hX dX3_secondPasses_51 rfl rfl rfl ?_
        refine ro_bipush (v := nI 6) (q := 54) hX dX3_secondPasses_52 rfl rfl ?_
        refine ro_icmp_ge (tgt := 122) (q := 57) hX dX3_secondPasses_54 (by decide) rfl (fun q => absurd q (by first | exact ni_nle (by omega) (by omega) | exact ni_lt (by omega) (by omega))) (fun _ => ?_)
        refine ro_aload_n (i := 0) (q := 58) hX dX3_secondPasses_57 rfl rfl rfl ?_
        refine ro_iload_n (i := 1) (q := 59) hX dX3_secondPasses_58 rfl rfl rfl ?_
        refine ro_iload_n (i := 2) (q := 60) hX dX3_secondPasses_59 rfl rfl rfl ?_
        refine ro_iconst (v := nI 0) (q := 61) hX dX3_secondPasses_60 rfl rfl ?_
        refine ro_callVi (q9 := 64) hX (m_of (by omega) (by omega) (by omega)) mw_X3_of kl_X3_36 (by decide) (fun cy => cell3 (by decide +kernel)) rfl rfl rfl (Nat.le_of_ble_eq_true rfl) ⟨Nat.le_of_ble_eq_true rfl, Nat.le_of_ble_eq_true rfl⟩ dX3_secondPasses_61 ⟨Nat.le_of_ble_eq_true rfl, Nat.le_of_ble_eq_true rfl⟩ rfl ?_
        refine ro_iconst (v := nI 2) (q := 65) hX dX3_secondPasses_64 rfl rfl ?_
        refine ro_icmp_ne (tgt := 116) (q := 68) hX dX3_secondPasses_65 (by decide) rfl (fun q5 => ?_) (fun q5 => ?_)
        · skip
          refine ro_iinc (i := 2) (v := nI (k51 + 1)) (q := 119) hX dX3_secondPasses_116 rfl (ni_inc _) (Nat.le_of_ble_eq_true rfl) rfl ?_
          refine ro_goto (tgt := 51) hX dX3_secondPasses_119 (by decide) ?_
          exact vv_LM (by first | with_reducible rfl | (simp [exM, setL_s, setL_t, setL_0, dropL_0, dropL_c, *]; done) | (simp only [exM, setL_s, setL_t, setL_0, dropL_0, dropL_c]; (repeat' split) <;> first | with_reducible rfl | contradiction | (exfalso; omega) | (simp_all; done)) | rfl) (by first | with_reducible rfl | (simp [exM, setL_s, setL_t, setL_0, dropL_0, dropL_c, *]; done) | (simp only [exM, setL_s, setL_t, setL_0, dropL_0, dropL_c]; (repeat' split) <;> first | with_reducible rfl | contradiction | (exfalso; omega) | (simp_all; done)) | rfl) ih51
        · skip
          refine ro_aload_n (i := 0) (q := 69) hX dX3_secondPasses_68 rfl rfl rfl ?_
          refine ro_iload_n (i := 1) (q := 70) hX dX3_secondPasses_69 rfl rfl rfl ?_
          refine ro_iload_n (i := 2) (q := 71) hX dX3_secondPasses_70 rfl rfl rfl ?_
          refine ro_iconst (v := nI 3) (q := 72) hX dX3_secondPasses_71 rfl rfl ?_
          refine ro_callVi (q9 := 75) hX (m_of (by omega) (by omega) (by omega)) mw_X3_of kl_X3_36 (by decide) (fun cy => cell3 (by decide +kernel)) rfl rfl rfl (Nat.le_of_ble_eq_true rfl) ⟨Nat.le_of_ble_eq_true rfl, Nat.le_of_ble_eq_true rfl⟩ dX3_secondPasses_72 ⟨Nat.le_of_ble_eq_true rfl, Nat.le_of_ble_eq_true rfl⟩ rfl ?_
          refine ro_aload_n (i := 0) (q := 76) hX dX3_secondPasses_75 rfl rfl rfl ?_
          refine ro_Nga1 (q9 := 79) hX kf_X3_7 dX3_secondPasses_76 rfl ?_
          refine ro_iload_n (i := 1) (q := 80) hX dX3_secondPasses_79 rfl rfl rfl ?_
          refine ro_iconst (v := nI 0) (q := 81) hX dX3_secondPasses_80 rfl rfl ?_
          refine ro_iadd (q := 82) hX dX3_secondPasses_81 rfl ?_
          refine vv_top (y := nI (b + 0)) (nI_add' rfl rfl) ?_
          refine ro_Nsld (n := b + 0) (q9 := 83) hX rfl (by omega) dX3_secondPasses_82 rfl ?_
          refine ro_icmp_ne (tgt := 116) (q := 86) hX dX3_secondPasses_83 (by decide) rfl (fun q6 => ?_) (fun q6 => ?_)
          · skip
            refine ro_iinc (i := 2) (v := nI (k51 + 1)) (q := 119) hX dX3_secondPasses_116 rfl (ni_inc _) (Nat.le_of_ble_eq_true rfl) rfl ?_
            refine ro_goto (tgt := 51) hX dX3_secondPasses_119 (by decide) ?_
            exact vv_LM (by first | with_reducible rfl | (simp [exM, setL_s, setL_t, setL_0, dropL_0, dropL_c, *]; done) | (simp only [exM, setL_s, setL_t, setL_0, dropL_0, dropL_c]; (repeat' split) <;> first | with_reducible rfl | contradiction | (exfalso; omega) | (simp_all; done)) | rfl) (by first | with_reducible rfl | (simp [exM, setL_s, setL_t, setL_0, dropL_0, dropL_c, *]; done) | (simp only [exM, setL_s, setL_t, setL_0, dropL_0, dropL_c]; (repeat' split) <;> first | with_reducible rfl | contradiction | (exfalso; omega) | (simp_all; done)) | rfl) ih51
          · skip
            refine ro_aload_n (i := 0) (q := 87) hX dX3_secondPasses_86 rfl rfl rfl ?_
            refine ro_iload_n (i := 1) (q := 88) hX dX3_secondPasses_87 rfl rfl rfl ?_
            refine ro_iload_n (i := 2) (q := 89) hX dX3_secondPasses_88 rfl rfl rfl ?_
            refine ro_callVi (q9 := 92) hX (m_clears (by omega) (by omega)) mw_X3_clears kl_X3_82 (by decide) (fun cy => cell3 (by decide +kernel)) rfl rfl rfl (Nat.le_of_ble_eq_true rfl) ⟨Nat.le_of_ble_eq_true rfl, Nat.le_of_ble_eq_true rfl⟩ dX3_secondPasses_89 ⟨Nat.le_of_ble_eq_true rfl, Nat.le_of_ble_eq_true rfl⟩ rfl ?_
            refine ro_istore_n (i := 3) (q := 93) hX dX3_secondPasses_92 rfl (Nat.le_of_ble_eq_true rfl) rfl ?_
            refine ro_aload_n (i := 0) (q := 94) hX dX3_secondPasses_93 rfl rfl rfl ?_
            refine ro_iload_n (i := 1) (q := 95) hX dX3_secondPasses_94 rfl rfl rfl ?_
            refine ro_iload_n (i := 2) (q := 96) hX dX3_secondPasses_95 rfl rfl rfl ?_
            refine ro_iconst (v := nI 0) (q := 97) hX dX3_secondPasses_96 rfl rfl ?_
            refine ro_iconst (v := nI 0) (q := 98) hX dX3_secondPasses_97 rfl rfl ?_
            refine ro_callVv (q9 := 101) hX (m_lay (by omega) (by omega) (by omega)) mw_X3_lay kl_X3_72 (by decide) (fun cy => cell3 (by decide +kernel)) rfl rfl rfl (Nat.le_of_ble_eq_true rfl) ⟨Nat.le_of_ble_eq_true rfl, Nat.le_of_ble_eq_true rfl⟩ dX3_secondPasses_98 ⟨Nat.le_of_ble_eq_true rfl, Nat.le_of_ble_eq_true rfl⟩ rfl ?_
            refine ro_aload_n (i := 0) (q := 102) hX dX3_secondPasses_101 rfl rfl rfl ?_
            refine ro_iload_n (i := 1) (q := 103) hX dX3_secondPasses_102 rfl rfl rfl ?_
            refine ro_iload_n (i := 2) (q := 104) hX dX3_secondPasses_103 rfl rfl rfl ?_
            refine ro_iload_n (i := 3) (q := 105) hX dX3_secondPasses_104 rfl rfl rfl ?_
            refine ro_if_lt (tgt := 112) (q := 108) hX dX3_secondPasses_105 (by decide) rfl (fun q => absurd q (by first | exact nI_pos (by omega) | exact nI_pos' (by omega))) (fun _ => ?_)
            refine ro_iconst (v := nI 1) (q := 109) hX dX3_secondPasses_108 rfl rfl ?_
            refine ro_goto (tgt := 113) hX dX3_secondPasses_109 (by decide) ?_
            refine ro_callVv (q9 := 116) hX (m_cancels_1 (by omega) (by omega)) mw_X3_cancels kl_X3_85 (by decide) (fun cy => cell3 (by decide +kernel)) rfl rfl rfl (Nat.le_of_ble_eq_true rfl) ⟨Nat.le_of_ble_eq_true rfl, Nat.le_of_ble_eq_true rfl⟩ dX3_secondPasses_113 ⟨Nat.le_of_ble_eq_true rfl, Nat.le_of_ble_eq_true rfl⟩ rfl ?_
            refine ro_iinc (i := 2) (v := nI (k51 + 1)) (q := 119) hX dX3_secondPasses_116 rfl (ni_inc _) (Nat.le_of_ble_eq_true rfl) rfl ?_
            refine ro_goto (tgt := 51) hX dX3_secondPasses_119 (by decide) ?_
            refine ro_drop [3] hX rfl ?_
            exact vv_LM (by first | with_reducible rfl | (simp [exM, setL_s, setL_t, setL_0, dropL_0, dropL_c, *]; done) | (simp only [exM, setL_s, setL_t, setL_0, dropL_0, dropL_c]; (repeat' split) <;> first | with_reducible rfl | contradiction | (exfalso; omega) | (simp_all; done)) | rfl) (by first | with_reducible rfl | (simp [exM, setL_s, setL_t, setL_0, dropL_0, dropL_c, *]; done) | (simp only [exM, setL_s, setL_t, setL_0, dropL_0, dropL_c]; (repeat' split) <;> first | with_reducible rfl | contradiction | (exfalso; omega) | (simp_all; done)) | rfl) ih51
      · show VV 0 0 51 [(0, .ref (sz + 75)), (1, .int (nI b)), (2, .int (nI 6))] [] (patch G 75 4 (mS F (exM (evM (tkM s b) b) b 6)), T)
        refine ro_iload_n (i := 2) (q := 52) hX dX3_secondPasses_51 rfl rfl rfl ?_
        refine ro_bipush (v := nI 6) (q := 54) hX dX3_secondPasses_52 rfl rfl ?_
        refine ro_icmp_ge (tgt := 122) (q := 57) hX dX3_secondPasses_54 (by decide) rfl (fun _ => ?_) (fun q => absurd (by decide) q)
        refine ro_aload_n (i := 0) (q := 123) hX dX3_secondPasses_122 rfl rfl rfl ?_
        refine ro_iload_n (i := 1) (q := 124) hX dX3_secondPasses_123 rfl rfl rfl ?_
        refine ro_callVv (q9 := 127) hX (m_settles (by omega)) mw_X3_settles kl_X3_89 (by decide) (fun cy => cell3 (by decide +kernel)) rfl rfl rfl (Nat.le_of_ble_eq_true rfl) ⟨Nat.le_of_ble_eq_true rfl, Nat.le_of_ble_eq_true rfl⟩ dX3_secondPasses_124 ⟨Nat.le_of_ble_eq_true rfl, Nat.le_of_ble_eq_true rfl⟩ rfl ?_
        exact fin_v hF (Nat.le_of_ble_eq_true rfl) (Nat.le_of_ble_eq_true rfl) dX3_secondPasses_127 (by rfl)
    · skip
      refine ro_aload_n (i := 0) (q := 45) hX dX3_secondPasses_44 rfl rfl rfl ?_
      refine ro_iload_n (i := 1) (q := 46) hX dX3_secondPasses_45 rfl rfl rfl ?_
      refine ro_callVv (q9 := 49) hX (m_completes (by omega) (hT q1).1 (hT q1).2.1 (hT q1).2.2) mw_X3_completes kl_X3_79 (by decide) (fun cy => cell3 (by decide +kernel)) rfl rfl rfl (Nat.le_of_ble_eq_true rfl) ⟨Nat.le_of_ble_eq_true rfl, Nat.le_of_ble_eq_true rfl⟩ dX3_secondPasses_46 ⟨Nat.le_of_ble_eq_true rfl, Nat.le_of_ble_eq_true rfl⟩ rfl ?_
      refine ro_iconst (v := nI 0) (q := 50) hX dX3_secondPasses_49 rfl rfl ?_
      refine ro_istore_n (i := 2) (q := 51) hX dX3_secondPasses_50 rfl (Nat.le_of_ble_eq_true rfl) rfl ?_
      refine vv_LM (L' := [(0, .ref (sz + 75)), (1, .int (nI b)), (2, .int (nI 0))]) (M' := (patch G 75 4 (mS F (exM (evM (tkM s b) b) b 0)), T)) (by first | with_reducible rfl | (simp [exM, evM, tkM, setL_s, setL_t, setL_0, dropL_0, dropL_c, *]; done) | (simp only [exM, evM, tkM, setL_s, setL_t, setL_0, dropL_0, dropL_c]; (repeat' split) <;> first | with_reducible rfl | contradiction | (exfalso; omega) | (simp_all; done)) | rfl) (by first | with_reducible rfl | (simp [exM, evM, tkM, setL_s, setL_t, setL_0, dropL_0, dropL_c, *]; done) | (simp only [exM, evM, tkM, setL_s, setL_t, setL_0, dropL_0, dropL_c]; (repeat' split) <;> first | with_reducible rfl | contradiction | (exfalso; omega) | (simp_all; done)) | rfl) ?_
      refine down_ind (P := fun k51 => VV 0 0 51 [(0, .ref (sz + 75)), (1, .int (nI b)), (2, .int (nI k51))] [] (patch G 75 4 (mS F (exM (evM (tkM s b) b) b k51)), T)) (6) (fun k51 hk51 ih51 => ?_) ?_
      · have ih51 : VV 0 0 51 [(0, .ref (sz + 75)), (1, .int (nI b)), (2, .int (nI (k51 + 1)))] [] (patch G 75 4 (mS F (exM (evM (tkM s b) b) b (k51 + 1))), T) := ih51
        show VV 0 0 51 [(0, .ref (sz + 75)), (1, .int (nI b)), (2, .int (nI k51))] [] (patch G 75 4 (mS F (exM (evM (tkM s b) b) b k51)), T)
        have hdl := hdM_le (s := exM (evM (tkM s b) b) b k51) (b := b) (h := k51)
        refine ro_iload_n (i := 2) (q := 52) hX dX3_secondPasses_51 rfl rfl rfl ?_
        refine ro_bipush (v := nI 6) (q := 54) hX dX3_secondPasses_52 rfl rfl ?_
        refine ro_icmp_ge (tgt := 122) (q := 57) hX dX3_secondPasses_54 (by decide) rfl (fun q => absurd q (by first | exact ni_nle (by omega) (by omega) | exact ni_lt (by omega) (by omega))) (fun _ => ?_)
        refine ro_aload_n (i := 0) (q := 58) hX dX3_secondPasses_57 rfl rfl rfl ?_
        refine ro_iload_n (i := 1) (q := 59) hX dX3_secondPasses_58 rfl rfl rfl ?_
        refine ro_iload_n (i := 2) (q := 60) hX dX3_secondPasses_59 rfl rfl rfl ?_
        refine ro_iconst (v := nI 0) (q := 61) hX dX3_secondPasses_60 rfl rfl ?_
        refine ro_callVi (q9 := 64) hX (m_of (by omega) (by omega) (by omega)) mw_X3_of kl_X3_36 (by decide) (fun cy => cell3 (by decide +kernel)) rfl rfl rfl (Nat.le_of_ble_eq_true rfl) ⟨Nat.le_of_ble_eq_true rfl, Nat.le_of_ble_eq_true rfl⟩ dX3_secondPasses_61 ⟨Nat.le_of_ble_eq_true rfl, Nat.le_of_ble_eq_true rfl⟩ rfl ?_
        refine ro_iconst (v := nI 2) (q := 65) hX dX3_secondPasses_64 rfl rfl ?_
        refine ro_icmp_ne (tgt := 116) (q := 68) hX dX3_secondPasses_65 (by decide) rfl (fun q7 => ?_) (fun q7 => ?_)
        · skip
          refine ro_iinc (i := 2) (v := nI (k51 + 1)) (q := 119) hX dX3_secondPasses_116 rfl (ni_inc _) (Nat.le_of_ble_eq_true rfl) rfl ?_
          refine ro_goto (tgt := 51) hX dX3_secondPasses_119 (by decide) ?_
          exact vv_LM (by first | with_reducible rfl | (simp [exM, setL_s, setL_t, setL_0, dropL_0, dropL_c, *]; done) | (simp only [exM, setL_s, setL_t, setL_0, dropL_0, dropL_c]; (repeat' split) <;> first | with_reducible rfl | contradiction | (exfalso; omega) | (simp_all; done)) | rfl) (by first | with_reducible rfl | (simp [exM, setL_s, setL_t, setL_0, dropL_0, dropL_c, *]; done) | (simp only [exM, setL_s, setL_t, setL_0, dropL_0, dropL_c]; (repeat' split) <;> first | with_reducible rfl | contradiction | (exfalso; omega) | (simp_all; done)) | rfl) ih51
        · skip
          refine ro_aload_n (i := 0) (q := 69) hX dX3_secondPasses_68 rfl rfl rfl ?_
          refine ro_iload_n (i := 1) (q := 70) hX dX3_secondPasses_69 rfl rfl rfl ?_
          refine ro_iload_n (i := 2) (q := 71) hX dX3_secondPasses_70 rfl rfl rfl ?_
          refine ro_iconst (v := nI 3) (q := 72) hX dX3_secondPasses_71 rfl rfl ?_
          refine ro_callVi (q9 := 75) hX (m_of (by omega) (by omega) (by omega)) mw_X3_of kl_X3_36 (by decide) (fun cy => cell3 (by decide +kernel)) rfl rfl rfl (Nat.le_of_ble_eq_true rfl) ⟨Nat.le_of_ble_eq_true rfl, Nat.le_of_ble_eq_true rfl⟩ dX3_secondPasses_72 ⟨Nat.le_of_ble_eq_true rfl, Nat.le_of_ble_eq_true rfl⟩ rfl ?_
          refine ro_aload_n (i := 0) (q := 76) hX dX3_secondPasses_75 rfl rfl rfl ?_
          refine ro_Nga1 (q9 := 79) hX kf_X3_7 dX3_secondPasses_76 rfl ?_
          refine ro_iload_n (i := 1) (q := 80) hX dX3_secondPasses_79 rfl rfl rfl ?_
          refine ro_iconst (v := nI 0) (q := 81) hX dX3_secondPasses_80 rfl rfl ?_
          refine ro_iadd (q := 82) hX dX3_secondPasses_81 rfl ?_
          refine vv_top (y := nI (b + 0)) (nI_add' rfl rfl) ?_
          refine ro_Nsld (n := b + 0) (q9 := 83) hX rfl (by omega) dX3_secondPasses_82 rfl ?_
          refine ro_icmp_ne (tgt := 116) (q := 86) hX dX3_secondPasses_83 (by decide) rfl (fun q8 => ?_) (fun q8 => ?_)
          · skip
            refine ro_iinc (i := 2) (v := nI (k51 + 1)) (q := 119) hX dX3_secondPasses_116 rfl (ni_inc _) (Nat.le_of_ble_eq_true rfl) rfl ?_
            refine ro_goto (tgt := 51) hX dX3_secondPasses_119 (by decide) ?_
            exact vv_LM (by first | with_reducible rfl | (simp [exM, setL_s, setL_t, setL_0, dropL_0, dropL_c, *]; done) | (simp only [exM, setL_s, setL_t, setL_0, dropL_0, dropL_c]; (repeat' split) <;> first | with_reducible rfl | contradiction | (exfalso; omega) | (simp_all; done)) | rfl) (by first | with_reducible rfl | (simp [exM, setL_s, setL_t, setL_0, dropL_0, dropL_c, *]; done) | (simp only [exM, setL_s, setL_t, setL_0, dropL_0, dropL_c]; (repeat' split) <;> first | with_reducible rfl | contradiction | (exfalso; omega) | (simp_all; done)) | rfl) ih51
          · skip
            refine ro_aload_n (i := 0) (q := 87) hX dX3_secondPasses_86 rfl rfl rfl ?_
            refine ro_iload_n (i := 1) (q := 88) hX dX3_secondPasses_87 rfl rfl rfl ?_
            refine ro_iload_n (i := 2) (q := 89) hX dX3_secondPasses_88 rfl rfl rfl ?_
            refine ro_callVi (q9 := 92) hX (m_clears (by omega) (by omega)) mw_X3_clears kl_X3_82 (by decide) (fun cy => cell3 (by decide +kernel)) rfl rfl rfl (Nat.le_of_ble_eq_true rfl) ⟨Nat.le_of_ble_eq_true rfl, Nat.le_of_ble_eq_true rfl⟩ dX3_secondPasses_89 ⟨Nat.le_of_ble_eq_true rfl, Nat.le_of_ble_eq_true rfl⟩ rfl ?_
            refine ro_istore_n (i := 3) (q := 93) hX dX3_secondPasses_92 rfl (Nat.le_of_ble_eq_true rfl) rfl ?_
            refine ro_aload_n (i := 0) (q := 94) hX dX3_secondPasses_93 rfl rfl rfl ?_
            refine ro_iload_n (i := 1) (q := 95) hX dX3_secondPasses_94 rfl rfl rfl ?_
            refine ro_iload_n (i := 2) (q := 96) hX dX3_secondPasses_95 rfl rfl rfl ?_
            refine ro_iconst (v := nI 0) (q := 97) hX dX3_secondPasses_96 rfl rfl ?_
            refine ro_iconst (v := nI 0) (q := 98) hX dX3_secondPasses_97 rfl rfl ?_
            refine ro_callVv (q9 := 101) hX (m_lay (by omega) (by omega) (by omega)) mw_X3_lay kl_X3_72 (by decide) (fun cy => cell3 (by decide +kernel)) rfl rfl rfl (Nat.le_of_ble_eq_true rfl) ⟨Nat.le_of_ble_eq_true rfl, Nat.le_of_ble_eq_true rfl⟩ dX3_secondPasses_98 ⟨Nat.le_of_ble_eq_true rfl, Nat.le_of_ble_eq_true rfl⟩ rfl ?_
            refine ro_aload_n (i := 0) (q := 102) hX dX3_secondPasses_101 rfl rfl rfl ?_
            refine ro_iload_n (i := 1) (q := 103) hX dX3_secondPasses_102 rfl rfl rfl ?_
            refine ro_iload_n (i := 2) (q := 104) hX dX3_secondPasses_103 rfl rfl rfl ?_
            refine ro_iload_n (i := 3) (q := 105) hX dX3_secondPasses_104 rfl rfl rfl ?_
            refine ro_if_lt (tgt := 112) (q := 108) hX dX3_secondPasses_105 (by decide) rfl (fun q => absurd q (by first | exact nI_pos (by omega) | exact nI_pos' (by omega))) (fun _ => ?_)
            refine ro_iconst (v := nI 1) (q := 109) hX dX3_secondPasses_108 rfl rfl ?_
            refine ro_goto (tgt := 113) hX dX3_secondPasses_109 (by decide) ?_
            refine ro_callVv (q9 := 116) hX (m_cancels_1 (by omega) (by omega)) mw_X3_cancels kl_X3_85 (by decide) (fun cy => cell3 (by decide +kernel)) rfl rfl rfl (Nat.le_of_ble_eq_true rfl) ⟨Nat.le_of_ble_eq_true rfl, Nat.le_of_ble_eq_true rfl⟩ dX3_secondPasses_113 ⟨Nat.le_of_ble_eq_true rfl, Nat.le_of_ble_eq_true rfl⟩ rfl ?_
            refine ro_iinc (i := 2) (v := nI (k51 + 1)) (q := 119) hX dX3_secondPasses_116 rfl (ni_inc _) (Nat.le_of_ble_eq_true rfl) rfl ?_
            refine ro_goto (tgt := 51) hX dX3_secondPasses_119 (by decide) ?_
            refine ro_drop [3] hX rfl ?_
            exact vv_LM (by first | with_reducible rfl | (simp [exM, setL_s, setL_t, setL_0, dropL_0, dropL_c, *]; done) | (simp only [exM, setL_s, setL_t, setL_0, dropL_0, dropL_c]; (repeat' split) <;> first | with_reducible rfl | contradiction | (exfalso; omega) | (simp_all; done)) | rfl) (by first | with_reducible rfl | (simp [exM, setL_s, setL_t, setL_0, dropL_0, dropL_c, *]; done) | (simp only [exM, setL_s, setL_t, setL_0, dropL_0, dropL_c]; (repeat' split) <;> first | with_reducible rfl | contradiction | (exfalso; omega) | (simp_all; done)) | rfl) ih51
      · show VV 0 0 51 [(0, .ref (sz + 75)), (1, .int (nI b)), (2, .int (nI 6))] [] (patch G 75 4 (mS F (exM (evM (tkM s b) b) b 6)), T)
        refine ro_iload_n (i := 2) (q := 52) hX dX3_secondPasses_51 rfl rfl rfl ?_
        refine ro_bipush (v := nI 6) (q := 54) hX dX3_secondPasses_52 rfl rfl ?_
        refine ro_icmp_ge (tgt := 122) (q := 57) hX dX3_secondPasses_54 (by decide) rfl (fun _ => ?_) (fun q => absurd (by decide) q)
        refine ro_aload_n (i := 0) (q := 123) hX dX3_secondPasses_122 rfl rfl rfl ?_
        refine ro_iload_n (i := 1) (q := 124) hX dX3_secondPasses_123 rfl rfl rfl ?_
        refine ro_callVv (q9 := 127) hX (m_settles (by omega)) mw_X3_settles kl_X3_89 (by decide) (fun cy => cell3 (by decide +kernel)) rfl rfl rfl (Nat.le_of_ble_eq_true rfl) ⟨Nat.le_of_ble_eq_true rfl, Nat.le_of_ble_eq_true rfl⟩ dX3_secondPasses_124 ⟨Nat.le_of_ble_eq_true rfl, Nat.le_of_ble_eq_true rfl⟩ rfl ?_
        exact fin_v hF (Nat.le_of_ble_eq_true rfl) (Nat.le_of_ble_eq_true rfl) dX3_secondPasses_127 (by rfl)
end
