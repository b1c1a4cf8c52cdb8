section
variable {sz : Nat} {G : Nat → Nat → Int32} {T : (Nat → Nat) × Int64} {f : SV} {B M : Nat}
set_option maxRecDepth 20000 in
set_option maxHeartbeats 2000000 in
theorem ap_in {VV : VT} (hX : Ctx VV sz RL cL_arePages (roomOf I_L_arePages 0 0) 10) {al st on th : Int32} {p : Nat} (hp : p < 30) (kk : VV 0 0 118 [(0, .ref (sz + 0)), (1, .int al), (2, .int (nI 1)), (3, .int (nI p)), (4, .int st), (5, .int on), (6, .int th), (7, .int (bi (fhB f p 6))), (8, .int (bi (hrB f p 6))), (9, .int (nI 6))] [] (patch G 1 7 f, T)) : VV 0 0 51 [(0, .ref (sz + 0)), (1, .int al), (2, .int (nI 1)), (3, .int (nI p)), (4, .int st), (5, .int on), (6, .int th), (7, .int (nI 0)), (8, .int (nI 0)), (9, .int (nI 0))] [] (patch G 1 7 f, T) := by
  refine vv_LM (L' := [(0, .ref (sz + 0)), (1, .int al), (2, .int (nI 1)), (3, .int (nI p)), (4, .int st), (5, .int on), (6, .int th), (7, .int (bi (fhB f p 0))), (8, .int (bi (hrB f p 0))), (9, .int (nI 0))]) (M' := (patch G 1 7 f, T)) (by rfl) rfl ?_
  refine down_ind (P := fun k51 => VV 0 0 51 [(0, .ref (sz + 0)), (1, .int al), (2, .int (nI 1)), (3, .int (nI p)), (4, .int st), (5, .int on), (6, .int th), (7, .int (bi (fhB f p k51))), (8, .int (bi (hrB f p k51))), (9, .int (nI k51))] [] (patch G 1 7 f, T)) (6) (fun k51 hk51 ih51 => ?_) ?_
  · have ih51 : VV 0 0 51 [(0, .ref (sz + 0)), (1, .int al), (2, .int (nI 1)), (3, .int (nI p)), (4, .int st), (5, .int on), (6, .int th), (7, .int (bi (fhB f p (k51 + 1)))), (8, .int (bi (hrB f p (k51 + 1)))), (9, .int (nI (k51 + 1)))] [] (patch G 1 7 f, T) := ih51
    show VV 0 0 51 [(0, .ref (sz + 0)), (1, .int al), (2, .int (nI 1)), (3, .int (nI p)), (4, .int st), (5, .int on), (6, .int th), (7, .int (bi (fhB f p k51))), (8, .int (bi (hrB f p k51))), (9, .int (nI k51))] [] (patch G 1 7 f, T)
    refine ro_iload (i := 9) (q := 53) hX dL_arePages_51 rfl rfl ?_
    refine ro_bipush (v := nI 6) (q := 55) hX dL_arePages_53 rfl rfl ?_
    refine ro_icmp_ge (tgt := 118) (q := 58) hX dL_arePages_55 (by decide) rfl (fun q => absurd q (ni_nle (by omega) (by omega))) (fun _ => ?_)
    refine ro_iload (i := 7) (q := 60) hX dL_arePages_58 rfl rfl ?_
    refine ro_ifb_ne (tgt := 74) (q := 63) hX dL_arePages_60 (by decide) rfl (fun q60 => ?_) (fun q60 => ?_)
    · skip
      refine ro_iconst (v := nI 1) (q := 75) hX dL_arePages_74 rfl rfl ?_
      refine vv_top (y := bi (fhB f p (k51 + 1))) (by first | exact fh_t (by assumption) | exact fh_1 (by assumption) | exact fh_0 (by assumption) (by assumption)) ?_
      refine ro_goto (tgt := 79) hX dL_arePages_75 (by decide) ?_
      refine ro_istore (i := 7) (q := 81) hX dL_arePages_79 (Nat.le_of_ble_eq_true rfl) rfl ?_
      refine ro_iload (i := 8) (q := 83) hX dL_arePages_81 rfl rfl ?_
      refine ro_ifb_ne (tgt := 105) (q := 86) hX dL_arePages_83 (by decide) rfl (fun q83 => ?_) (fun q83 => ?_)
      · skip
        refine ro_iconst (v := nI 1) (q := 106) hX dL_arePages_105 rfl rfl ?_
        refine vv_top (y := bi (hrB f p (k51 + 1))) (by first | exact hr_t (by assumption) | exact hr_1 (by assumption) (by assumption) | exact hr_a (by assumption) (by assumption) | exact hr_b (by assumption) (by assumption)) ?_
        refine ro_goto (tgt := 110) hX dL_arePages_106 (by decide) ?_
        refine ro_istore (i := 8) (q := 112) hX dL_arePages_110 (Nat.le_of_ble_eq_true rfl) rfl ?_
        refine ro_iinc (i := 9) (v := nI (k51 + 1)) (q := 115) hX dL_arePages_112 rfl (ni_inc _) (Nat.le_of_ble_eq_true rfl) rfl ?_
        refine ro_goto (tgt := 51) hX dL_arePages_115 (by decide) ?_
        exact vv_LM (by rfl) rfl ih51
      · skip
        refine ro_aload_n (i := 0) (q := 87) hX dL_arePages_86 rfl rfl rfl ?_
        refine ro_iload (i := 9) (q := 89) hX dL_arePages_87 rfl rfl ?_
        refine ro_callVi (q9 := 92) hX (x_freeRoom (by omega)) mw_X2_freeRoom kl_L_26 (by decide) (fun cy => cell2 (by decide +kernel)) rfl rfl rfl (Nat.le_of_ble_eq_true rfl) ⟨Nat.le_of_ble_eq_true rfl, Nat.le_of_ble_eq_true rfl⟩ dL_arePages_89 ⟨Nat.le_of_ble_eq_true rfl, Nat.le_of_ble_eq_true rfl⟩ rfl ?_
        refine ro_if_le (tgt := 109) (q := 95) hX dL_arePages_92 (by decide) rfl (fun q92 => ?_) (fun q92 => ?_)
        · skip
          refine ro_iconst (v := nI 0) (q := 110) hX dL_arePages_109 rfl rfl ?_
          refine vv_top (y := bi (hrB f p (k51 + 1))) (by first | exact hr_t (by assumption) | exact hr_1 (by assumption) (by assumption) | exact hr_a (by assumption) (by assumption) | exact hr_b (by assumption) (by assumption)) ?_
          refine ro_istore (i := 8) (q := 112) hX dL_arePages_110 (Nat.le_of_ble_eq_true rfl) rfl ?_
          refine ro_iinc (i := 9) (v := nI (k51 + 1)) (q := 115) hX dL_arePages_112 rfl (ni_inc _) (Nat.le_of_ble_eq_true rfl) rfl ?_
          refine ro_goto (tgt := 51) hX dL_arePages_115 (by decide) ?_
          exact vv_LM (by rfl) rfl ih51
        · skip
          refine ro_aload_n (i := 0) (q := 96) hX dL_arePages_95 rfl rfl rfl ?_
          refine ro_iload (i := 9) (q := 98) hX dL_arePages_96 rfl rfl ?_
          refine ro_iload_n (i := 3) (q := 99) hX dL_arePages_98 rfl rfl rfl ?_
          refine ro_callVi (q9 := 102) hX (x_rep (by omega) (by omega)) mw_X2_replica kl_L_47 (by decide) (fun cy => cell2 (by decide +kernel)) rfl rfl rfl (Nat.le_of_ble_eq_true rfl) ⟨Nat.le_of_ble_eq_true rfl, Nat.le_of_ble_eq_true rfl⟩ dL_arePages_99 ⟨Nat.le_of_ble_eq_true rfl, Nat.le_of_ble_eq_true rfl⟩ rfl ?_
          refine ro_if_ne (tgt := 109) (q := 105) hX dL_arePages_102 (by decide) rfl (fun q102 => ?_) (fun q102 => ?_)
          · skip
            refine ro_iconst (v := nI 0) (q := 110) hX dL_arePages_109 rfl rfl ?_
            refine vv_top (y := bi (hrB f p (k51 + 1))) (by first | exact hr_t (by assumption) | exact hr_1 (by assumption) (by assumption) | exact hr_a (by assumption) (by assumption) | exact hr_b (by assumption) (by assumption)) ?_
            refine ro_istore (i := 8) (q := 112) hX dL_arePages_110 (Nat.le_of_ble_eq_true rfl) rfl ?_
            refine ro_iinc (i := 9) (v := nI (k51 + 1)) (q := 115) hX dL_arePages_112 rfl (ni_inc _) (Nat.le_of_ble_eq_true rfl) rfl ?_
            refine ro_goto (tgt := 51) hX dL_arePages_115 (by decide) ?_
            exact vv_LM (by rfl) rfl ih51
          · skip
            refine ro_iconst (v := nI 1) (q := 106) hX dL_arePages_105 rfl rfl ?_
            refine vv_top (y := bi (hrB f p (k51 + 1))) (by first | exact hr_t (by assumption) | exact hr_1 (by assumption) (by assumption) | exact hr_a (by assumption) (by assumption) | exact hr_b (by assumption) (by assumption)) ?_
            refine ro_goto (tgt := 110) hX dL_arePages_106 (by decide) ?_
            refine ro_istore (i := 8) (q := 112) hX dL_arePages_110 (Nat.le_of_ble_eq_true rfl) rfl ?_
            refine ro_iinc (i := 9) (v := nI (k51 + 1)) (q := 115) hX dL_arePages_112 rfl (ni_inc _) (Nat.le_of_ble_eq_true rfl) rfl ?_
            refine ro_goto (tgt := 51) hX dL_arePages_115 (by decide) ?_
            exact vv_LM (by rfl) rfl ih51
    · skip
      refine ro_aload_n (i := 0) (q := 64) hX dL_arePages_63 rfl rfl rfl ?_
      refine ro_iload (i := 9) (q := 66) hX dL_arePages_64 rfl rfl ?_
      refine ro_iload_n (i := 3) (q := 67) hX dL_arePages_66 rfl rfl rfl ?_
      refine ro_callVi (q9 := 70) hX (x_rep (by omega) (by omega)) mw_X2_replica kl_L_47 (by decide) (fun cy => cell2 (by decide +kernel)) rfl rfl rfl (Nat.le_of_ble_eq_true rfl) ⟨Nat.le_of_ble_eq_true rfl, Nat.le_of_ble_eq_true rfl⟩ dL_arePages_67 ⟨Nat.le_of_ble_eq_true rfl, Nat.le_of_ble_eq_true rfl⟩ rfl ?_
      refine ro_iconst (v := nI 1) (q := 71) hX dL_arePages_70 rfl rfl ?_
      refine ro_icmp_ne (tgt := 78) (q := 74) hX dL_arePages_71 (by decide) rfl (fun q71 => ?_) (fun q71 => ?_)
      · skip
        refine ro_iconst (v := nI 0) (q := 79) hX dL_arePages_78 rfl rfl ?_
        refine vv_top (y := bi (fhB f p (k51 + 1))) (by first | exact fh_t (by assumption) | exact fh_1 (by assumption) | exact fh_0 (by assumption) (by assumption)) ?_
        refine ro_istore (i := 7) (q := 81) hX dL_arePages_79 (Nat.le_of_ble_eq_true rfl) rfl ?_
        refine ro_iload (i := 8) (q := 83) hX dL_arePages_81 rfl rfl ?_
        refine ro_ifb_ne (tgt := 105) (q := 86) hX dL_arePages_83 (by decide) rfl (fun q83 => ?_) (fun q83 => ?_)
        · skip
          refine ro_iconst (v := nI 1) (q := 106) hX dL_arePages_105 rfl rfl ?_
          refine vv_top (y := bi (hrB f p (k51 + 1))) (by first | exact hr_t (by assumption) | exact hr_1 (by assumption) (by assumption) | exact hr_a (by assumption) (by assumption) | exact hr_b (by assumption) (by assumption)) ?_
          refine ro_goto (tgt := 110) hX dL_arePages_106 (by decide) ?_
          refine ro_istore (i := 8) (q := 112) hX dL_arePages_110 (Nat.le_of_ble_eq_true rfl) rfl ?_
          refine ro_iinc (i := 9) (v := nI (k51 + 1)) (q := 115) hX dL_arePages_112 rfl (ni_inc _) (Nat.le_of_ble_eq_true rfl) rfl ?_
          refine ro_goto (tgt := 51) hX dL_arePages_115 (by decide) ?_
          exact vv_LM (by rfl) rfl ih51
        · skip
          refine ro_aload_n (i := 0) (q := 87) hX dL_arePages_86 rfl rfl rfl ?_
          refine ro_iload (i := 9) (q := 89) hX dL_arePages_87 rfl rfl ?_
          refine ro_callVi (q9 := 92) hX (x_freeRoom (by omega)) mw_X2_freeRoom kl_L_26 (by decide) (fun cy => cell2 (by decide +kernel)) rfl rfl rfl (Nat.le_of_ble_eq_true rfl) ⟨Nat.le_of_ble_eq_true rfl, Nat.le_of_ble_eq_true rfl⟩ dL_arePages_89 ⟨Nat.le_of_ble_eq_true rfl, Nat.le_of_ble_eq_true rfl⟩ rfl ?_
          refine ro_if_le (tgt := 109) (q := 95) hX dL_arePages_92 (by decide) rfl (fun q92 => ?_) (fun q92 => ?_)
          · skip
            refine ro_iconst (v := nI 0) (q := 110) hX dL_arePages_109 rfl rfl ?_
            refine vv_top (y := bi (hrB f p (k51 + 1))) (by first | exact hr_t (by assumption) | exact hr_1 (by assumption) (by assumption) | exact hr_a (by assumption) (by assumption) | exact hr_b (by assumption) (by assumption)) ?_
            refine ro_istore (i := 8) (q := 112) hX dL_arePages_110 (Nat.le_of_ble_eq_true rfl) rfl ?_
            refine ro_iinc (i := 9) (v := nI (k51 + 1)) (q := 115) hX dL_arePages_112 rfl (ni_inc _) (Nat.le_of_ble_eq_true rfl) rfl ?_
            refine ro_goto (tgt := 51) hX dL_arePages_115 (by decide) ?_
            exact vv_LM (by rfl) rfl ih51
          · skip
            refine ro_aload_n (i := 0) (q := 96) hX dL_arePages_95 rfl rfl rfl ?_
            refine ro_iload (i := 9) (q := 98) hX dL_arePages_96 rfl rfl ?_
            refine ro_iload_n (i := 3) (q := 99) hX dL_arePages_98 rfl rfl rfl ?_
            refine ro_callVi (q9 := 102) hX (x_rep (by omega) (by omega)) mw_X2_replica kl_L_47 (by decide) (fun cy => cell2 (by decide +kernel)) rfl rfl rfl (Nat.le_of_ble_eq_true rfl) ⟨Nat.le_of_ble_eq_true rfl, Nat.le_of_ble_eq_true rfl⟩ dL_arePages_99 ⟨Nat.le_of_ble_eq_true rfl, Nat.le_of_ble_eq_true rfl⟩ rfl ?_
            refine ro_if_ne (tgt := 109) (q := 105) hX dL_arePages_102 (by decide) rfl (fun q102 => ?_) (fun q102 => ?_)
            · skip
              refine ro_iconst (v := nI 0) (q := 110) hX dL_arePages_109 rfl rfl ?_
              refine vv_top (y := bi (hrB f p (k51 + 1))) (by first | exact hr_t (by assumption) | exact hr_1 (by assumption) (by assumption) | exact hr_a (by assumption) (by assumption) | exact hr_b (by assumption) (by assumption)) ?_
              refine ro_istore (i := 8) (q := 112) hX dL_arePages_110 (Nat.le_of_ble_eq_true rfl) rfl ?_
              refine ro_iinc (i := 9) (v := nI (k51 + 1)) (q := 115) hX dL_arePages_112 rfl (ni_inc _) (Nat.le_of_ble_eq_true rfl) rfl ?_
              refine ro_goto (tgt := 51) hX dL_arePages_115 (by decide) ?_
              exact vv_LM (by rfl) rfl ih51
            · skip
              refine ro_iconst (v := nI 1) (q := 106) hX dL_arePages_105 rfl rfl ?_
              refine vv_top (y := bi (hrB f p (k51 + 1))) (by first | exact hr_t (by assumption) | exact hr_1 (by assumption) (by assumption) | exact hr_a (by assumption) (by assumption) | exact hr_b (by assumption) (by assumption)) ?_
              refine ro_goto (tgt := 110) hX dL_arePages_106 (by decide) ?_
              refine ro_istore (i := 8) (q := 112) hX dL_arePages_110 (Nat.le_of_ble_eq_true rfl) rfl ?_
              refine ro_iinc (i := 9) (v := nI (k51 + 1)) (q := 115) hX dL_arePages_112 rfl (ni_inc _) (Nat.le_of_ble_eq_true rfl) rfl ?_
              refine ro_goto (tgt := 51) hX dL_arePages_115 (by decide) ?_
              exact vv_LM (by rfl) rfl ih51
      · skip
        refine ro_iconst (v := nI 1) (q := 75) hX dL_arePages_74 rfl rfl ?_
        refine vv_top (y := bi (fhB f p (k51 + 1))) (by first | exact fh_t (by assumption) | exact fh_1 (by assumption) | exact fh_0 (by assumption) (by assumption)) ?_
        refine ro_goto (tgt := 79) hX dL_arePages_75 (by decide) ?_
        refine ro_istore (i := 7) (q := 81) hX dL_arePages_79 (Nat.le_of_ble_eq_true rfl) rfl ?_
        refine ro_iload (i := 8) (q := 83) hX dL_arePages_81 rfl rfl ?_
        refine ro_ifb_ne (tgt := 105) (q := 86) hX dL_arePages_83 (by decide) rfl (fun q83 => ?_) (fun q83 => ?_)
        · skip
          refine ro_iconst (v := nI 1) (q := 106) hX dL_arePages_105 rfl rfl ?_
          refine vv_top (y := bi (hrB f p (k51 + 1))) (by first | exact hr_t (by assumption) | exact hr_1 (by assumption) (by assumption) | exact hr_a (by assumption) (by assumption) | exact hr_b (by assumption) (by assumption)) ?_
          refine ro_goto (tgt := 110) hX dL_arePages_106 (by decide) ?_
          refine ro_istore (i := 8) (q := 112) hX dL_arePages_110 (Nat.le_of_ble_eq_true rfl) rfl ?_
          refine ro_iinc (i := 9) (v := nI (k51 + 1)) (q := 115) hX dL_arePages_112 rfl (ni_inc _) (Nat.le_of_ble_eq_true rfl) rfl ?_
          refine ro_goto (tgt := 51) hX dL_arePages_115 (by decide) ?_
          exact vv_LM (by rfl) rfl ih51
        · skip
          refine ro_aload_n (i := 0) (q := 87) hX dL_arePages_86 rfl rfl rfl ?_
          refine ro_iload (i := 9) (q := 89) hX dL_arePages_87 rfl rfl ?_
          refine ro_callVi (q9 := 92) hX (x_freeRoom (by omega)) mw_X2_freeRoom kl_L_26 (by decide) (fun cy => cell2 (by decide +kernel)) rfl rfl rfl (Nat.le_of_ble_eq_true rfl) ⟨Nat.le_of_ble_eq_true rfl, Nat.le_of_ble_eq_true rfl⟩ dL_arePages_89 ⟨Nat.le_of_ble_eq_true rfl, Nat.le_of_ble_eq_true rfl⟩ rfl ?_
          refine ro_if_le (tgt := 109) (q := 95) hX dL_arePages_92 (by decide) rfl (fun q92 => ?_) (fun q92 => ?_)
          · skip
            refine ro_iconst (v := nI 0) (q := 110) hX dL_arePages_109 rfl rfl ?_
            refine vv_top (y := bi (hrB f p (k51 + 1))) (by first | exact hr_t (by assumption) | exact hr_1 (by assumption) (by assumption) | exact hr_a (by assumption) (by assumption) | exact hr_b (by assumption) (by assumption)) ?_
            refine ro_istore (i := 8) (q := 112) hX dL_arePages_110 (Nat.le_of_ble_eq_true rfl) rfl ?_
            refine ro_iinc (i := 9) (v := nI (k51 + 1)) (q := 115) hX dL_arePages_112 rfl (ni_inc _) (Nat.le_of_ble_eq_true rfl) rfl ?_
            refine ro_goto (tgt := 51) hX dL_arePages_115 (by decide) ?_
            exact vv_LM (by rfl) rfl ih51
          · skip
            refine ro_aload_n (i := 0) (q := 96) hX dL_arePages_95 rfl rfl rfl ?_
            refine ro_iload (i := 9) (q := 98) hX dL_arePages_96 rfl rfl ?_
            refine ro_iload_n (i := 3) (q := 99) hX dL_arePages_98 rfl rfl rfl ?_
            refine ro_callVi (q9 := 102) hX (x_rep (by omega) (by omega)) mw_X2_replica kl_L_47 (by decide) (fun cy => cell2 (by decide +kernel)) rfl rfl rfl (Nat.le_of_ble_eq_true rfl) ⟨Nat.le_of_ble_eq_true rfl, Nat.le_of_ble_eq_true rfl⟩ dL_arePages_99 ⟨Nat.le_of_ble_eq_true rfl, Nat.le_of_ble_eq_true rfl⟩ rfl ?_
            refine ro_if_ne (tgt := 109) (q := 105) hX dL_arePages_102 (by decide) rfl (fun q102 => ?_) (fun q102 => ?_)
            · skip
              refine ro_iconst (v := nI 0) (q := 110) hX dL_arePages_109 rfl rfl ?_
              refine vv_top (y := bi (hrB f p (k51 + 1))) (by first | exact hr_t (by assumption) | exact hr_1 (by assumption) (by assumption) | exact hr_a (by assumption) (by assumption) | exact hr_b (by assumption) (by assumption)) ?_
              refine ro_istore (i := 8) (q := 112) hX dL_arePages_110 (Nat.le_of_ble_eq_true rfl) rfl ?_
              refine ro_iinc (i := 9) (v := nI (k51 + 1)) (q := 115) hX dL_arePages_112 rfl (ni_inc _) (Nat.le_of_ble_eq_true rfl) rfl ?_
              refine ro_goto (tgt := 51) hX dL_arePages_115 (by decide) ?_
              exact vv_LM (by rfl) rfl ih51
            · skip
              refine ro_iconst (v := nI 1) (q := 106) hX dL_arePages_105 rfl rfl ?_
              refine vv_top (y := bi (hrB f p (k51 + 1))) (by first | exact hr_t (by assumption) | exact hr_1 (by assumption) (by assumption) | exact hr_a (by assumption) (by assumption) | exact hr_b (by assumption) (by assumption)) ?_
              refine ro_goto (tgt := 110) hX dL_arePages_106 (by decide) ?_
              refine ro_istore (i := 8) (q := 112) hX dL_arePages_110 (Nat.le_of_ble_eq_true rfl) rfl ?_
              refine ro_iinc (i := 9) (v := nI (k51 + 1)) (q := 115) hX dL_arePages_112 rfl (ni_inc _) (Nat.le_of_ble_eq_true rfl) rfl ?_
              refine ro_goto (tgt := 51) hX dL_arePages_115 (by decide) ?_
              exact vv_LM (by rfl) rfl ih51
  · show VV 0 0 51 [(0, .ref (sz + 0)), (1, .int al), (2, .int (nI 1)), (3, .int (nI p)), (4, .int st), (5, .int on), (6, .int th), (7, .int (bi (fhB f p 6))), (8, .int (bi (hrB f p 6))), (9, .int (nI 6))] [] (patch G 1 7 f, T)
    refine ro_iload (i := 9) (q := 53) hX dL_arePages_51 rfl rfl ?_
    refine ro_bipush (v := nI 6) (q := 55) hX dL_arePages_53 rfl rfl ?_
    refine ro_icmp_ge (tgt := 118) (q := 58) hX dL_arePages_55 (by decide) rfl (fun _ => ?_) (fun q => absurd (ni_le (by omega) (by omega)) q)
    exact vv_LM (by rfl) rfl (kk)
set_option maxRecDepth 20000 in
set_option maxHeartbeats 2000000 in
theorem ap_hn {VV : VT} (hX : Ctx VV sz RL cL_arePages (roomOf I_L_arePages 0 0) 10) {p al : Nat} (hp : p < 30) (e : stS f p = (-1)) (eb : onM (cpS f p) = nI 0) (kk : VV 0 0 51 [(0, .ref (sz + 0)), (1, .int (nI al)), (2, .int (nI 1)), (3, .int (nI p)), (4, .int (-1)), (5, .int (nI 0)), (6, .int (nI 0)), (7, .int (nI 0)), (8, .int (nI 0)), (9, .int (nI 0))] [] (patch G 1 7 f, T)) : VV 0 0 12 [(0, .ref (sz + 0)), (1, .int (nI al)), (2, .int (nI 1)), (3, .int (nI p))] [] (patch G 1 7 f, T) := by
  refine ro_aload_n (i := 0) (q := 13) hX dL_arePages_12 rfl rfl rfl ?_
  refine ro_iload_n (i := 3) (q := 14) hX dL_arePages_13 rfl rfl rfl ?_
  refine ro_callVi (q9 := 17) hX (x_status (by omega)) mw_X2_status kl_L_36 (by decide) (fun cy => cell2 (by decide +kernel)) rfl rfl rfl (Nat.le_of_ble_eq_true rfl) ⟨Nat.le_of_ble_eq_true rfl, Nat.le_of_ble_eq_true rfl⟩ dL_arePages_14 ⟨Nat.le_of_ble_eq_true rfl, Nat.le_of_ble_eq_true rfl⟩ rfl ?_
  refine vv_top (y := (-1)) (e) ?_
  refine ro_istore (i := 4) (q := 19) hX dL_arePages_17 (Nat.le_of_ble_eq_true rfl) rfl ?_
  refine ro_aload_n (i := 0) (q := 20) hX dL_arePages_19 rfl rfl rfl ?_
  refine ro_iload_n (i := 3) (q := 21) hX dL_arePages_20 rfl rfl rfl ?_
  refine ro_callVi (q9 := 24) hX (x_copies (by omega)) mw_X2_copies kl_L_39 (by decide) (fun cy => cell2 (by decide +kernel)) rfl rfl rfl (Nat.le_of_ble_eq_true rfl) ⟨Nat.le_of_ble_eq_true rfl, Nat.le_of_ble_eq_true rfl⟩ dL_arePages_21 ⟨Nat.le_of_ble_eq_true rfl, Nat.le_of_ble_eq_true rfl⟩ rfl ?_
  refine ro_callSi (q9 := 27) hX (l_bits) mw_L_bits kl_L_95 rfl rfl (Nat.le_of_ble_eq_true rfl) ⟨Nat.le_of_ble_eq_true rfl, Nat.le_of_ble_eq_true rfl⟩ dL_arePages_24 ⟨Nat.le_of_ble_eq_true rfl, Nat.le_of_ble_eq_true rfl⟩ rfl ?_
  refine vv_top (y := (nI 0)) (eb) ?_
  refine ro_istore (i := 5) (q := 29) hX dL_arePages_27 (Nat.le_of_ble_eq_true rfl) rfl ?_
  refine ro_iload (i := 4) (q := 31) hX dL_arePages_29 rfl rfl ?_
  refine ro_iconst (v := (-1)) (q := 32) hX dL_arePages_31 rfl rfl ?_
  refine ro_icmp_eq (tgt := 39) (q := 35) hX dL_arePages_32 (by decide) rfl (fun _ => ?_) (fun q => absurd (by decide) q)
  refine ro_iconst (v := nI 0) (q := 40) hX dL_arePages_39 rfl rfl ?_
  refine ro_istore (i := 6) (q := 42) hX dL_arePages_40 (Nat.le_of_ble_eq_true rfl) rfl ?_
  refine ro_iconst (v := nI 0) (q := 43) hX dL_arePages_42 rfl rfl ?_
  refine ro_istore (i := 7) (q := 45) hX dL_arePages_43 (Nat.le_of_ble_eq_true rfl) rfl ?_
  refine ro_iconst (v := nI 0) (q := 46) hX dL_arePages_45 rfl rfl ?_
  refine ro_istore (i := 8) (q := 48) hX dL_arePages_46 (Nat.le_of_ble_eq_true rfl) rfl ?_
  refine ro_iconst (v := nI 0) (q := 49) hX dL_arePages_48 rfl rfl ?_
  refine ro_istore (i := 9) (q := 51) hX dL_arePages_49 (Nat.le_of_ble_eq_true rfl) rfl ?_
  exact kk
set_option maxRecDepth 20000 in
set_option maxHeartbeats 2000000 in
theorem ap_tnn {VV : VT} (hX : Ctx VV sz RL cL_arePages (roomOf I_L_arePages 0 0) 10) {p : Nat} (hp : p < 30) (e : stS f p = (-1)) (et : trV f 0 = -1) (kk : VV 0 0 6 [(0, .ref (sz + 0)), (1, .int (nI (alN f (p + 1)))), (2, .int (nI 1)), (3, .int (nI (p + 1)))] [] (patch G 1 7 f, T)) : VV 0 0 118 [(0, .ref (sz + 0)), (1, .int (nI (alN f p))), (2, .int (nI 1)), (3, .int (nI p)), (4, .int (-1)), (5, .int (nI 0)), (6, .int (nI 0)), (7, .int (bi (fhB f p 6))), (8, .int (bi (hrB f p 6))), (9, .int (nI 6))] [] (patch G 1 7 f, T) := by
  refine ro_iload_n (i := 1) (q := 119) hX dL_arePages_118 rfl rfl rfl ?_
  refine ro_iload (i := 6) (q := 121) hX dL_arePages_119 rfl rfl ?_
  refine ro_if_eq (tgt := 128) (q := 124) hX dL_arePages_121 (by decide) rfl (fun _ => ?_) (fun q => absurd (by decide) q)
  refine ro_iconst (v := nI 0) (q := 129) hX dL_arePages_128 rfl rfl ?_
  refine ro_iadd (q := 130) hX dL_arePages_129 rfl ?_
  refine vv_top (y := (nI (alN f (p + 1)))) (al_0 e) ?_
  refine ro_istore_n (i := 1) (q := 131) hX dL_arePages_130 rfl (Nat.le_of_ble_eq_true rfl) rfl ?_
  refine ro_iload_n (i := 2) (q := 132) hX dL_arePages_131 rfl rfl rfl ?_
  refine ro_if_eq (tgt := 238) (q := 135) hX dL_arePages_132 (by decide) rfl (fun q => absurd q (by decide)) (fun _ => ?_)
  refine ro_iload (i := 4) (q := 137) hX dL_arePages_135 rfl rfl ?_
  refine ro_iconst (v := nI 2) (q := 138) hX dL_arePages_137 rfl rfl ?_
  refine ro_icmp_ne (tgt := 145) (q := 141) hX dL_arePages_138 (by decide) rfl (fun _ => ?_) (fun q => absurd q (by decide))
  refine ro_iconst (v := nI 0) (q := 146) hX dL_arePages_145 rfl rfl ?_
  refine ro_iload (i := 5) (q := 148) hX dL_arePages_146 rfl rfl ?_
  refine ro_iconst (v := nI 1) (q := 149) hX dL_arePages_148 rfl rfl ?_
  refine ro_icmp_le (tgt := 156) (q := 152) hX dL_arePages_149 (by decide) rfl (fun _ => ?_) (fun q => absurd (by decide) q)
  refine ro_iconst (v := nI 0) (q := 157) hX dL_arePages_156 rfl rfl ?_
  refine ro_icmp_ne (tgt := 238) (q := 160) hX dL_arePages_157 (by decide) rfl (fun q => absurd (by decide) q) (fun _ => ?_)
  refine ro_iload (i := 4) (q := 162) hX dL_arePages_160 rfl rfl ?_
  refine ro_iconst (v := nI 1) (q := 163) hX dL_arePages_162 rfl rfl ?_
  refine ro_icmp_ne (tgt := 170) (q := 166) hX dL_arePages_163 (by decide) rfl (fun _ => ?_) (fun q => absurd q (by decide))
  refine ro_iconst (v := nI 0) (q := 171) hX dL_arePages_170 rfl rfl ?_
  refine ro_iload (i := 5) (q := 173) hX dL_arePages_171 rfl rfl ?_
  refine ro_iconst (v := nI 1) (q := 174) hX dL_arePages_173 rfl rfl ?_
  refine ro_icmp_ne (tgt := 181) (q := 177) hX dL_arePages_174 (by decide) rfl (fun _ => ?_) (fun q => absurd q (by decide))
  refine ro_iconst (v := nI 0) (q := 182) hX dL_arePages_181 rfl rfl ?_
  refine ro_icmp_ne (tgt := 238) (q := 185) hX dL_arePages_182 (by decide) rfl (fun q => absurd (by decide) q) (fun _ => ?_)
  refine ro_iload (i := 6) (q := 187) hX dL_arePages_185 rfl rfl ?_
  refine ro_if_eq (tgt := 205) (q := 190) hX dL_arePages_187 (by decide) rfl (fun _ => ?_) (fun q => absurd (by decide) q)
  refine ro_iload (i := 6) (q := 207) hX dL_arePages_205 rfl rfl ?_
  refine ro_if_ne (tgt := 215) (q := 210) hX dL_arePages_207 (by decide) rfl (fun q => absurd (by decide) q) (fun _ => ?_)
  refine ro_iload (i := 5) (q := 212) hX dL_arePages_210 rfl rfl ?_
  refine ro_if_ne (tgt := 238) (q := 215) hX dL_arePages_212 (by decide) rfl (fun q => absurd (by decide) q) (fun _ => ?_)
  refine ro_aload_n (i := 0) (q := 216) hX dL_arePages_215 rfl rfl rfl ?_
  refine ro_iconst (v := nI 0) (q := 217) hX dL_arePages_216 rfl rfl ?_
  refine ro_callVi (q9 := 220) hX (x_tr (by omega)) mw_X2_transfer kl_L_51 (by decide) (fun cy => cell2 (by decide +kernel)) rfl rfl rfl (Nat.le_of_ble_eq_true rfl) ⟨Nat.le_of_ble_eq_true rfl, Nat.le_of_ble_eq_true rfl⟩ dL_arePages_217 ⟨Nat.le_of_ble_eq_true rfl, Nat.le_of_ble_eq_true rfl⟩ rfl ?_
  refine vv_top (y := (-1)) (et) ?_
  refine ro_if_ge (tgt := 234) (q := 223) hX dL_arePages_220 (by decide) rfl (fun q => absurd q (by decide)) (fun _ => ?_)
  refine ro_iload (i := 4) (q := 225) hX dL_arePages_223 rfl rfl ?_
  refine ro_iconst (v := nI 1) (q := 226) hX dL_arePages_225 rfl rfl ?_
  refine ro_icmp_ne (tgt := 234) (q := 229) hX dL_arePages_226 (by decide) rfl (fun _ => ?_) (fun q => absurd q (by decide))
  refine ro_iconst (v := nI 1) (q := 235) hX dL_arePages_234 rfl rfl ?_
  refine ro_goto (tgt := 239) hX dL_arePages_235 (by decide) ?_
  refine ro_istore_n (i := 2) (q := 240) hX dL_arePages_239 rfl (Nat.le_of_ble_eq_true rfl) rfl ?_
  refine ro_drop [4, 5, 6, 7, 8, 9] hX rfl ?_
  refine ro_iinc (i := 3) (v := nI (p + 1)) (q := 243) hX dL_arePages_240 rfl (ni_inc _) (Nat.le_of_ble_eq_true rfl) rfl ?_
  refine ro_goto (tgt := 6) hX dL_arePages_243 (by decide) ?_
  exact kk
set_option maxRecDepth 20000 in
set_option maxHeartbeats 2000000 in
theorem ap_tns {VV : VT} (hX : Ctx VV sz RL cL_arePages (roomOf I_L_arePages 0 0) 10) {p q : Nat} (hp : p < 30) (e : stS f p = (-1)) (et : trV f 0 = nI q) (hq : q < 30) (kk : VV 0 0 6 [(0, .ref (sz + 0)), (1, .int (nI (alN f (p + 1)))), (2, .int (nI 1)), (3, .int (nI (p + 1)))] [] (patch G 1 7 f, T)) : VV 0 0 118 [(0, .ref (sz + 0)), (1, .int (nI (alN f p))), (2, .int (nI 1)), (3, .int (nI p)), (4, .int (-1)), (5, .int (nI 0)), (6, .int (nI 0)), (7, .int (bi (fhB f p 6))), (8, .int (bi (hrB f p 6))), (9, .int (nI 6))] [] (patch G 1 7 f, T) := by
  refine ro_iload_n (i := 1) (q := 119) hX dL_arePages_118 rfl rfl rfl ?_
  refine ro_iload (i := 6) (q := 121) hX dL_arePages_119 rfl rfl ?_
  refine ro_if_eq (tgt := 128) (q := 124) hX dL_arePages_121 (by decide) rfl (fun _ => ?_) (fun q => absurd (by decide) q)
  refine ro_iconst (v := nI 0) (q := 129) hX dL_arePages_128 rfl rfl ?_
  refine ro_iadd (q := 130) hX dL_arePages_129 rfl ?_
  refine vv_top (y := (nI (alN f (p + 1)))) (al_0 e) ?_
  refine ro_istore_n (i := 1) (q := 131) hX dL_arePages_130 rfl (Nat.le_of_ble_eq_true rfl) rfl ?_
  refine ro_iload_n (i := 2) (q := 132) hX dL_arePages_131 rfl rfl rfl ?_
  refine ro_if_eq (tgt := 238) (q := 135) hX dL_arePages_132 (by decide) rfl (fun q => absurd q (by decide)) (fun _ => ?_)
  refine ro_iload (i := 4) (q := 137) hX dL_arePages_135 rfl rfl ?_
  refine ro_iconst (v := nI 2) (q := 138) hX dL_arePages_137 rfl rfl ?_
  refine ro_icmp_ne (tgt := 145) (q := 141) hX dL_arePages_138 (by decide) rfl (fun _ => ?_) (fun q => absurd q (by decide))
  refine ro_iconst (v := nI 0) (q := 146) hX dL_arePages_145 rfl rfl ?_
  refine ro_iload (i := 5) (q := 148) hX dL_arePages_146 rfl rfl ?_
  refine ro_iconst (v := nI 1) (q := 149) hX dL_arePages_148 rfl rfl ?_
  refine ro_icmp_le (tgt := 156) (q := 152) hX dL_arePages_149 (by decide) rfl (fun _ => ?_) (fun q => absurd (by decide) q)
  refine ro_iconst (v := nI 0) (q := 157) hX dL_arePages_156 rfl rfl ?_
  refine ro_icmp_ne (tgt := 238) (q := 160) hX dL_arePages_157 (by decide) rfl (fun q => absurd (by decide) q) (fun _ => ?_)
  refine ro_iload (i := 4) (q := 162) hX dL_arePages_160 rfl rfl ?_
  refine ro_iconst (v := nI 1) (q := 163) hX dL_arePages_162 rfl rfl ?_
  refine ro_icmp_ne (tgt := 170) (q := 166) hX dL_arePages_163 (by decide) rfl (fun _ => ?_) (fun q => absurd q (by decide))
  refine ro_iconst (v := nI 0) (q := 171) hX dL_arePages_170 rfl rfl ?_
  refine ro_iload (i := 5) (q := 173) hX dL_arePages_171 rfl rfl ?_
  refine ro_iconst (v := nI 1) (q := 174) hX dL_arePages_173 rfl rfl ?_
  refine ro_icmp_ne (tgt := 181) (q := 177) hX dL_arePages_174 (by decide) rfl (fun _ => ?_) (fun q => absurd q (by decide))
  refine ro_iconst (v := nI 0) (q := 182) hX dL_arePages_181 rfl rfl ?_
  refine ro_icmp_ne (tgt := 238) (q := 185) hX dL_arePages_182 (by decide) rfl (fun q => absurd (by decide) q) (fun _ => ?_)
  refine ro_iload (i := 6) (q := 187) hX dL_arePages_185 rfl rfl ?_
  refine ro_if_eq (tgt := 205) (q := 190) hX dL_arePages_187 (by decide) rfl (fun _ => ?_) (fun q => absurd (by decide) q)
  refine ro_iload (i := 6) (q := 207) hX dL_arePages_205 rfl rfl ?_
  refine ro_if_ne (tgt := 215) (q := 210) hX dL_arePages_207 (by decide) rfl (fun q => absurd (by decide) q) (fun _ => ?_)
  refine ro_iload (i := 5) (q := 212) hX dL_arePages_210 rfl rfl ?_
  refine ro_if_ne (tgt := 238) (q := 215) hX dL_arePages_212 (by decide) rfl (fun q => absurd (by decide) q) (fun _ => ?_)
  refine ro_aload_n (i := 0) (q := 216) hX dL_arePages_215 rfl rfl rfl ?_
  refine ro_iconst (v := nI 0) (q := 217) hX dL_arePages_216 rfl rfl ?_
  refine ro_callVi (q9 := 220) hX (x_tr (by omega)) mw_X2_transfer kl_L_51 (by decide) (fun cy => cell2 (by decide +kernel)) rfl rfl rfl (Nat.le_of_ble_eq_true rfl) ⟨Nat.le_of_ble_eq_true rfl, Nat.le_of_ble_eq_true rfl⟩ dL_arePages_217 ⟨Nat.le_of_ble_eq_true rfl, Nat.le_of_ble_eq_true rfl⟩ rfl ?_
  refine vv_top (y := (nI q)) (et) ?_
  refine ro_if_ge (tgt := 234) (q := 223) hX dL_arePages_220 (by decide) rfl (fun _ => ?_) (fun q => absurd (by rw [← nI_0]; exact ni_le (by omega) (by omega)) q)
  refine ro_iconst (v := nI 1) (q := 235) hX dL_arePages_234 rfl rfl ?_
  refine ro_goto (tgt := 239) hX dL_arePages_235 (by decide) ?_
  refine ro_istore_n (i := 2) (q := 240) hX dL_arePages_239 rfl (Nat.le_of_ble_eq_true rfl) rfl ?_
  refine ro_drop [4, 5, 6, 7, 8, 9] hX rfl ?_
  refine ro_iinc (i := 3) (v := nI (p + 1)) (q := 243) hX dL_arePages_240 rfl (ni_inc _) (Nat.le_of_ble_eq_true rfl) rfl ?_
  refine ro_goto (tgt := 6) hX dL_arePages_243 (by decide) ?_
  exact kk
set_option maxRecDepth 20000 in
set_option maxHeartbeats 2000000 in
theorem ap_hs {VV : VT} (hX : Ctx VV sz RL cL_arePages (roomOf I_L_arePages 0 0) 10) {p al c : Nat} (hp : p < 30) (e : stS f p = nI 2) (eb : onM (cpS f p) = nI c) (kk : VV 0 0 51 [(0, .ref (sz + 0)), (1, .int (nI al)), (2, .int (nI 1)), (3, .int (nI p)), (4, .int (nI 2)), (5, .int (nI c)), (6, .int (nI 1)), (7, .int (nI 0)), (8, .int (nI 0)), (9, .int (nI 0))] [] (patch G 1 7 f, T)) : VV 0 0 12 [(0, .ref (sz + 0)), (1, .int (nI al)), (2, .int (nI 1)), (3, .int (nI p))] [] (patch G 1 7 f, T) := by
  refine ro_aload_n (i := 0) (q := 13) hX dL_arePages_12 rfl rfl rfl ?_
  refine ro_iload_n (i := 3) (q := 14) hX dL_arePages_13 rfl rfl rfl ?_
  refine ro_callVi (q9 := 17) hX (x_status (by omega)) mw_X2_status kl_L_36 (by decide) (fun cy => cell2 (by decide +kernel)) rfl rfl rfl (Nat.le_of_ble_eq_true rfl) ⟨Nat.le_of_ble_eq_true rfl, Nat.le_of_ble_eq_true rfl⟩ dL_arePages_14 ⟨Nat.le_of_ble_eq_true rfl, Nat.le_of_ble_eq_true rfl⟩ rfl ?_
  refine vv_top (y := (nI 2)) (e) ?_
  refine ro_istore (i := 4) (q := 19) hX dL_arePages_17 (Nat.le_of_ble_eq_true rfl) rfl ?_
  refine ro_aload_n (i := 0) (q := 20) hX dL_arePages_19 rfl rfl rfl ?_
  refine ro_iload_n (i := 3) (q := 21) hX dL_arePages_20 rfl rfl rfl ?_
  refine ro_callVi (q9 := 24) hX (x_copies (by omega)) mw_X2_copies kl_L_39 (by decide) (fun cy => cell2 (by decide +kernel)) rfl rfl rfl (Nat.le_of_ble_eq_true rfl) ⟨Nat.le_of_ble_eq_true rfl, Nat.le_of_ble_eq_true rfl⟩ dL_arePages_21 ⟨Nat.le_of_ble_eq_true rfl, Nat.le_of_ble_eq_true rfl⟩ rfl ?_
  refine ro_callSi (q9 := 27) hX (l_bits) mw_L_bits kl_L_95 rfl rfl (Nat.le_of_ble_eq_true rfl) ⟨Nat.le_of_ble_eq_true rfl, Nat.le_of_ble_eq_true rfl⟩ dL_arePages_24 ⟨Nat.le_of_ble_eq_true rfl, Nat.le_of_ble_eq_true rfl⟩ rfl ?_
  refine vv_top (y := (nI c)) (eb) ?_
  refine ro_istore (i := 5) (q := 29) hX dL_arePages_27 (Nat.le_of_ble_eq_true rfl) rfl ?_
  refine ro_iload (i := 4) (q := 31) hX dL_arePages_29 rfl rfl ?_
  refine ro_iconst (v := (-1)) (q := 32) hX dL_arePages_31 rfl rfl ?_
  refine ro_icmp_eq (tgt := 39) (q := 35) hX dL_arePages_32 (by decide) rfl (fun q => absurd q (by decide)) (fun _ => ?_)
  refine ro_iconst (v := nI 1) (q := 36) hX dL_arePages_35 rfl rfl ?_
  refine ro_goto (tgt := 40) hX dL_arePages_36 (by decide) ?_
  refine ro_istore (i := 6) (q := 42) hX dL_arePages_40 (Nat.le_of_ble_eq_true rfl) rfl ?_
  refine ro_iconst (v := nI 0) (q := 43) hX dL_arePages_42 rfl rfl ?_
  refine ro_istore (i := 7) (q := 45) hX dL_arePages_43 (Nat.le_of_ble_eq_true rfl) rfl ?_
  refine ro_iconst (v := nI 0) (q := 46) hX dL_arePages_45 rfl rfl ?_
  refine ro_istore (i := 8) (q := 48) hX dL_arePages_46 (Nat.le_of_ble_eq_true rfl) rfl ?_
  refine ro_iconst (v := nI 0) (q := 49) hX dL_arePages_48 rfl rfl ?_
  refine ro_istore (i := 9) (q := 51) hX dL_arePages_49 (Nat.le_of_ble_eq_true rfl) rfl ?_
  exact kk
set_option maxRecDepth 20000 in
set_option maxHeartbeats 2000000 in
theorem ap_tsn {VV : VT} (hX : Ctx VV sz RL cL_arePages (roomOf I_L_arePages 0 0) 10) {p c : Nat} (hp : p < 30) (e : stS f p = nI 2) (hc : 2 ≤ c) (hc6 : c ≤ 6) (ef : fhB f p 6 = true) (et : trV f 0 = -1) (kk : VV 0 0 6 [(0, .ref (sz + 0)), (1, .int (nI (alN f (p + 1)))), (2, .int (nI 1)), (3, .int (nI (p + 1)))] [] (patch G 1 7 f, T)) : VV 0 0 118 [(0, .ref (sz + 0)), (1, .int (nI (alN f p))), (2, .int (nI 1)), (3, .int (nI p)), (4, .int (nI 2)), (5, .int (nI c)), (6, .int (nI 1)), (7, .int (bi (fhB f p 6))), (8, .int (bi (hrB f p 6))), (9, .int (nI 6))] [] (patch G 1 7 f, T) := by
  refine ro_iload_n (i := 1) (q := 119) hX dL_arePages_118 rfl rfl rfl ?_
  refine ro_iload (i := 6) (q := 121) hX dL_arePages_119 rfl rfl ?_
  refine ro_if_eq (tgt := 128) (q := 124) hX dL_arePages_121 (by decide) rfl (fun q => absurd q (by decide)) (fun _ => ?_)
  refine ro_iconst (v := nI 1) (q := 125) hX dL_arePages_124 rfl rfl ?_
  refine ro_goto (tgt := 129) hX dL_arePages_125 (by decide) ?_
  refine ro_iadd (q := 130) hX dL_arePages_129 rfl ?_
  refine vv_top (y := (nI (alN f (p + 1)))) (al_1 (by rw [e]; decide)) ?_
  refine ro_istore_n (i := 1) (q := 131) hX dL_arePages_130 rfl (Nat.le_of_ble_eq_true rfl) rfl ?_
  refine ro_iload_n (i := 2) (q := 132) hX dL_arePages_131 rfl rfl rfl ?_
  refine ro_if_eq (tgt := 238) (q := 135) hX dL_arePages_132 (by decide) rfl (fun q => absurd q (by decide)) (fun _ => ?_)
  refine ro_iload (i := 4) (q := 137) hX dL_arePages_135 rfl rfl ?_
  refine ro_iconst (v := nI 2) (q := 138) hX dL_arePages_137 rfl rfl ?_
  refine ro_icmp_ne (tgt := 145) (q := 141) hX dL_arePages_138 (by decide) rfl (fun q => absurd (by decide) q) (fun _ => ?_)
  refine ro_iconst (v := nI 1) (q := 142) hX dL_arePages_141 rfl rfl ?_
  refine ro_goto (tgt := 146) hX dL_arePages_142 (by decide) ?_
  refine ro_iload (i := 5) (q := 148) hX dL_arePages_146 rfl rfl ?_
  refine ro_iconst (v := nI 1) (q := 149) hX dL_arePages_148 rfl rfl ?_
  refine ro_icmp_le (tgt := 156) (q := 152) hX dL_arePages_149 (by decide) rfl (fun q => absurd q (ni_nle (by omega) (by omega))) (fun _ => ?_)
  refine ro_iconst (v := nI 1) (q := 153) hX dL_arePages_152 rfl rfl ?_
  refine ro_goto (tgt := 157) hX dL_arePages_153 (by decide) ?_
  refine ro_icmp_ne (tgt := 238) (q := 160) hX dL_arePages_157 (by decide) rfl (fun q => absurd (by decide) q) (fun _ => ?_)
  refine ro_iload (i := 4) (q := 162) hX dL_arePages_160 rfl rfl ?_
  refine ro_iconst (v := nI 1) (q := 163) hX dL_arePages_162 rfl rfl ?_
  refine ro_icmp_ne (tgt := 170) (q := 166) hX dL_arePages_163 (by decide) rfl (fun _ => ?_) (fun q => absurd q (by decide))
  refine ro_iconst (v := nI 0) (q := 171) hX dL_arePages_170 rfl rfl ?_
  refine ro_iload (i := 5) (q := 173) hX dL_arePages_171 rfl rfl ?_
  refine ro_iconst (v := nI 1) (q := 174) hX dL_arePages_173 rfl rfl ?_
  refine ro_icmp_ne (tgt := 181) (q := 177) hX dL_arePages_174 (by decide) rfl (fun _ => ?_) (fun q => absurd q (ni_ne (by omega) (by omega) (by omega)))
  refine ro_iconst (v := nI 0) (q := 182) hX dL_arePages_181 rfl rfl ?_
  refine ro_icmp_ne (tgt := 238) (q := 185) hX dL_arePages_182 (by decide) rfl (fun q => absurd (by decide) q) (fun _ => ?_)
  refine ro_iload (i := 6) (q := 187) hX dL_arePages_185 rfl rfl ?_
  refine ro_if_eq (tgt := 205) (q := 190) hX dL_arePages_187 (by decide) rfl (fun q => absurd q (by decide)) (fun _ => ?_)
  refine ro_iload (i := 7) (q := 192) hX dL_arePages_190 rfl rfl ?_
  refine vv_top (y := (nI 1)) (by rw [ef]; rfl) ?_
  refine ro_iload (i := 4) (q := 194) hX dL_arePages_192 rfl rfl ?_
  refine ro_if_lt (tgt := 201) (q := 197) hX dL_arePages_194 (by decide) rfl (fun q => absurd q (by decide)) (fun _ => ?_)
  refine ro_iconst (v := nI 1) (q := 198) hX dL_arePages_197 rfl rfl ?_
  refine ro_goto (tgt := 202) hX dL_arePages_198 (by decide) ?_
  refine ro_icmp_ne (tgt := 238) (q := 205) hX dL_arePages_202 (by decide) rfl (fun q => absurd (by decide) q) (fun _ => ?_)
  refine ro_iload (i := 6) (q := 207) hX dL_arePages_205 rfl rfl ?_
  refine ro_if_ne (tgt := 215) (q := 210) hX dL_arePages_207 (by decide) rfl (fun _ => ?_) (fun q => absurd q (by decide))
  refine ro_aload_n (i := 0) (q := 216) hX dL_arePages_215 rfl rfl rfl ?_
  refine ro_iconst (v := nI 0) (q := 217) hX dL_arePages_216 rfl rfl ?_
  refine ro_callVi (q9 := 220) hX (x_tr (by omega)) mw_X2_transfer kl_L_51 (by decide) (fun cy => cell2 (by decide +kernel)) rfl rfl rfl (Nat.le_of_ble_eq_true rfl) ⟨Nat.le_of_ble_eq_true rfl, Nat.le_of_ble_eq_true rfl⟩ dL_arePages_217 ⟨Nat.le_of_ble_eq_true rfl, Nat.le_of_ble_eq_true rfl⟩ rfl ?_
  refine vv_top (y := (-1)) (et) ?_
  refine ro_if_ge (tgt := 234) (q := 223) hX dL_arePages_220 (by decide) rfl (fun q => absurd q (by decide)) (fun _ => ?_)
  refine ro_iload (i := 4) (q := 225) hX dL_arePages_223 rfl rfl ?_
  refine ro_iconst (v := nI 1) (q := 226) hX dL_arePages_225 rfl rfl ?_
  refine ro_icmp_ne (tgt := 234) (q := 229) hX dL_arePages_226 (by decide) rfl (fun _ => ?_) (fun q => absurd q (by decide))
  refine ro_iconst (v := nI 1) (q := 235) hX dL_arePages_234 rfl rfl ?_
  refine ro_goto (tgt := 239) hX dL_arePages_235 (by decide) ?_
  refine ro_istore_n (i := 2) (q := 240) hX dL_arePages_239 rfl (Nat.le_of_ble_eq_true rfl) rfl ?_
  refine ro_drop [4, 5, 6, 7, 8, 9] hX rfl ?_
  refine ro_iinc (i := 3) (v := nI (p + 1)) (q := 243) hX dL_arePages_240 rfl (ni_inc _) (Nat.le_of_ble_eq_true rfl) rfl ?_
  refine ro_goto (tgt := 6) hX dL_arePages_243 (by decide) ?_
  exact kk
set_option maxRecDepth 20000 in
set_option maxHeartbeats 2000000 in
theorem ap_tss {VV : VT} (hX : Ctx VV sz RL cL_arePages (roomOf I_L_arePages 0 0) 10) {p c q : Nat} (hp : p < 30) (e : stS f p = nI 2) (hc : 2 ≤ c) (hc6 : c ≤ 6) (ef : fhB f p 6 = true) (et : trV f 0 = nI q) (hq : q < 30) (kk : VV 0 0 6 [(0, .ref (sz + 0)), (1, .int (nI (alN f (p + 1)))), (2, .int (nI 1)), (3, .int (nI (p + 1)))] [] (patch G 1 7 f, T)) : VV 0 0 118 [(0, .ref (sz + 0)), (1, .int (nI (alN f p))), (2, .int (nI 1)), (3, .int (nI p)), (4, .int (nI 2)), (5, .int (nI c)), (6, .int (nI 1)), (7, .int (bi (fhB f p 6))), (8, .int (bi (hrB f p 6))), (9, .int (nI 6))] [] (patch G 1 7 f, T) := by
  refine ro_iload_n (i := 1) (q := 119) hX dL_arePages_118 rfl rfl rfl ?_
  refine ro_iload (i := 6) (q := 121) hX dL_arePages_119 rfl rfl ?_
  refine ro_if_eq (tgt := 128) (q := 124) hX dL_arePages_121 (by decide) rfl (fun q => absurd q (by decide)) (fun _ => ?_)
  refine ro_iconst (v := nI 1) (q := 125) hX dL_arePages_124 rfl rfl ?_
  refine ro_goto (tgt := 129) hX dL_arePages_125 (by decide) ?_
  refine ro_iadd (q := 130) hX dL_arePages_129 rfl ?_
  refine vv_top (y := (nI (alN f (p + 1)))) (al_1 (by rw [e]; decide)) ?_
  refine ro_istore_n (i := 1) (q := 131) hX dL_arePages_130 rfl (Nat.le_of_ble_eq_true rfl) rfl ?_
  refine ro_iload_n (i := 2) (q := 132) hX dL_arePages_131 rfl rfl rfl ?_
  refine ro_if_eq (tgt := 238) (q := 135) hX dL_arePages_132 (by decide) rfl (fun q => absurd q (by decide)) (fun _ => ?_)
  refine ro_iload (i := 4) (q := 137) hX dL_arePages_135 rfl rfl ?_
  refine ro_iconst (v := nI 2) (q := 138) hX dL_arePages_137 rfl rfl ?_
  refine ro_icmp_ne (tgt := 145) (q := 141) hX dL_arePages_138 (by decide) rfl (fun q => absurd (by decide) q) (fun _ => ?_)
  refine ro_iconst (v := nI 1) (q := 142) hX dL_arePages_141 rfl rfl ?_
  refine ro_goto (tgt := 146) hX dL_arePages_142 (by decide) ?_
  refine ro_iload (i := 5) (q := 148) hX dL_arePages_146 rfl rfl ?_
  refine ro_iconst (v := nI 1) (q := 149) hX dL_arePages_148 rfl rfl ?_
  refine ro_icmp_le (tgt := 156) (q := 152) hX dL_arePages_149 (by decide) rfl (fun q => absurd q (ni_nle (by omega) (by omega))) (fun _ => ?_)
  refine ro_iconst (v := nI 1) (q := 153) hX dL_arePages_152 rfl rfl ?_
  refine ro_goto (tgt := 157) hX dL_arePages_153 (by decide) ?_
  refine ro_icmp_ne (tgt := 238) (q := 160) hX dL_arePages_157 (by decide) rfl (fun q => absurd (by decide) q) (fun _ => ?_)
  refine ro_iload (i := 4) (q := 162) hX dL_arePages_160 rfl rfl ?_
  refine ro_iconst (v := nI 1) (q := 163) hX dL_arePages_162 rfl rfl ?_
  refine ro_icmp_ne (tgt := 170) (q := 166) hX dL_arePages_163 (by decide) rfl (fun _ => ?_) (fun q => absurd q (by decide))
  refine ro_iconst (v := nI 0) (q := 171) hX dL_arePages_170 rfl rfl ?_
  refine ro_iload (i := 5) (q := 173) hX dL_arePages_171 rfl rfl ?_
  refine ro_iconst (v := nI 1) (q := 174) hX dL_arePages_173 rfl rfl ?_
  refine ro_icmp_ne (tgt := 181) (q := 177) hX dL_arePages_174 (by decide) rfl (fun _ => ?_) (fun q => absurd q (ni_ne (by omega) (by omega) (by omega)))
  refine ro_iconst (v := nI 0) (q := 182) hX dL_arePages_181 rfl rfl ?_
  refine ro_icmp_ne (tgt := 238) (q := 185) hX dL_arePages_182 (by decide) rfl (fun q => absurd (by decide) q) (fun _ => ?_)
  refine ro_iload (i := 6) (q := 187) hX dL_arePages_185 rfl rfl ?_
  refine ro_if_eq (tgt := 205) (q := 190) hX dL_arePages_187 (by decide) rfl (fun q => absurd q (by decide)) (fun _ => ?_)
  refine ro_iload (i := 7) (q := 192) hX dL_arePages_190 rfl rfl ?_
  refine vv_top (y := (nI 1)) (by rw [ef]; rfl) ?_
  refine ro_iload (i := 4) (q := 194) hX dL_arePages_192 rfl rfl ?_
  refine ro_if_lt (tgt := 201) (q := 197) hX dL_arePages_194 (by decide) rfl (fun q => absurd q (by decide)) (fun _ => ?_)
  refine ro_iconst (v := nI 1) (q := 198) hX dL_arePages_197 rfl rfl ?_
  refine ro_goto (tgt := 202) hX dL_arePages_198 (by decide) ?_
  refine ro_icmp_ne (tgt := 238) (q := 205) hX dL_arePages_202 (by decide) rfl (fun q => absurd (by decide) q) (fun _ => ?_)
  refine ro_iload (i := 6) (q := 207) hX dL_arePages_205 rfl rfl ?_
  refine ro_if_ne (tgt := 215) (q := 210) hX dL_arePages_207 (by decide) rfl (fun _ => ?_) (fun q => absurd q (by decide))
  refine ro_aload_n (i := 0) (q := 216) hX dL_arePages_215 rfl rfl rfl ?_
  refine ro_iconst (v := nI 0) (q := 217) hX dL_arePages_216 rfl rfl ?_
  refine ro_callVi (q9 := 220) hX (x_tr (by omega)) mw_X2_transfer kl_L_51 (by decide) (fun cy => cell2 (by decide +kernel)) rfl rfl rfl (Nat.le_of_ble_eq_true rfl) ⟨Nat.le_of_ble_eq_true rfl, Nat.le_of_ble_eq_true rfl⟩ dL_arePages_217 ⟨Nat.le_of_ble_eq_true rfl, Nat.le_of_ble_eq_true rfl⟩ rfl ?_
  refine vv_top (y := (nI q)) (et) ?_
  refine ro_if_ge (tgt := 234) (q := 223) hX dL_arePages_220 (by decide) rfl (fun _ => ?_) (fun q => absurd (by rw [← nI_0]; exact ni_le (by omega) (by omega)) q)
  refine ro_iconst (v := nI 1) (q := 235) hX dL_arePages_234 rfl rfl ?_
  refine ro_goto (tgt := 239) hX dL_arePages_235 (by decide) ?_
  refine ro_istore_n (i := 2) (q := 240) hX dL_arePages_239 rfl (Nat.le_of_ble_eq_true rfl) rfl ?_
  refine ro_drop [4, 5, 6, 7, 8, 9] hX rfl ?_
  refine ro_iinc (i := 3) (v := nI (p + 1)) (q := 243) hX dL_arePages_240 rfl (ni_inc _) (Nat.le_of_ble_eq_true rfl) rfl ?_
  refine ro_goto (tgt := 6) hX dL_arePages_243 (by decide) ?_
  exact kk
set_option maxRecDepth 20000 in
set_option maxHeartbeats 2000000 in
theorem ap_he {VV : VT} (hX : Ctx VV sz RL cL_arePages (roomOf I_L_arePages 0 0) 10) {p al : Nat} (hp : p < 30) (e : stS f p = nI 1) (eb : onM (cpS f p) = nI 1) (kk : VV 0 0 51 [(0, .ref (sz + 0)), (1, .int (nI al)), (2, .int (nI 1)), (3, .int (nI p)), (4, .int (nI 1)), (5, .int (nI 1)), (6, .int (nI 1)), (7, .int (nI 0)), (8, .int (nI 0)), (9, .int (nI 0))] [] (patch G 1 7 f, T)) : VV 0 0 12 [(0, .ref (sz + 0)), (1, .int (nI al)), (2, .int (nI 1)), (3, .int (nI p))] [] (patch G 1 7 f, T) := by
  refine ro_aload_n (i := 0) (q := 13) hX dL_arePages_12 rfl rfl rfl ?_
  refine ro_iload_n (i := 3) (q := 14) hX dL_arePages_13 rfl rfl rfl ?_
  refine ro_callVi (q9 := 17) hX (x_status (by omega)) mw_X2_status kl_L_36 (by decide) (fun cy => cell2 (by decide +kernel)) rfl rfl rfl (Nat.le_of_ble_eq_true rfl) ⟨Nat.le_of_ble_eq_true rfl, Nat.le_of_ble_eq_true rfl⟩ dL_arePages_14 ⟨Nat.le_of_ble_eq_true rfl, Nat.le_of_ble_eq_true rfl⟩ rfl ?_
  refine vv_top (y := (nI 1)) (e) ?_
  refine ro_istore (i := 4) (q := 19) hX dL_arePages_17 (Nat.le_of_ble_eq_true rfl) rfl ?_
  refine ro_aload_n (i := 0) (q := 20) hX dL_arePages_19 rfl rfl rfl ?_
  refine ro_iload_n (i := 3) (q := 21) hX dL_arePages_20 rfl rfl rfl ?_
  refine ro_callVi (q9 := 24) hX (x_copies (by omega)) mw_X2_copies kl_L_39 (by decide) (fun cy => cell2 (by decide +kernel)) rfl rfl rfl (Nat.le_of_ble_eq_true rfl) ⟨Nat.le_of_ble_eq_true rfl, Nat.le_of_ble_eq_true rfl⟩ dL_arePages_21 ⟨Nat.le_of_ble_eq_true rfl, Nat.le_of_ble_eq_true rfl⟩ rfl ?_
  refine ro_callSi (q9 := 27) hX (l_bits) mw_L_bits kl_L_95 rfl rfl (Nat.le_of_ble_eq_true rfl) ⟨Nat.le_of_ble_eq_true rfl, Nat.le_of_ble_eq_true rfl⟩ dL_arePages_24 ⟨Nat.le_of_ble_eq_true rfl, Nat.le_of_ble_eq_true rfl⟩ rfl ?_
  refine vv_top (y := (nI 1)) (eb) ?_
  refine ro_istore (i := 5) (q := 29) hX dL_arePages_27 (Nat.le_of_ble_eq_true rfl) rfl ?_
  refine ro_iload (i := 4) (q := 31) hX dL_arePages_29 rfl rfl ?_
  refine ro_iconst (v := (-1)) (q := 32) hX dL_arePages_31 rfl rfl ?_
  refine ro_icmp_eq (tgt := 39) (q := 35) hX dL_arePages_32 (by decide) rfl (fun q => absurd q (by decide)) (fun _ => ?_)
  refine ro_iconst (v := nI 1) (q := 36) hX dL_arePages_35 rfl rfl ?_
  refine ro_goto (tgt := 40) hX dL_arePages_36 (by decide) ?_
  refine ro_istore (i := 6) (q := 42) hX dL_arePages_40 (Nat.le_of_ble_eq_true rfl) rfl ?_
  refine ro_iconst (v := nI 0) (q := 43) hX dL_arePages_42 rfl rfl ?_
  refine ro_istore (i := 7) (q := 45) hX dL_arePages_43 (Nat.le_of_ble_eq_true rfl) rfl ?_
  refine ro_iconst (v := nI 0) (q := 46) hX dL_arePages_45 rfl rfl ?_
  refine ro_istore (i := 8) (q := 48) hX dL_arePages_46 (Nat.le_of_ble_eq_true rfl) rfl ?_
  refine ro_iconst (v := nI 0) (q := 49) hX dL_arePages_48 rfl rfl ?_
  refine ro_istore (i := 9) (q := 51) hX dL_arePages_49 (Nat.le_of_ble_eq_true rfl) rfl ?_
  exact kk
set_option maxRecDepth 20000 in
set_option maxHeartbeats 2000000 in
theorem ap_ten {VV : VT} (hX : Ctx VV sz RL cL_arePages (roomOf I_L_arePages 0 0) 10) {p : Nat} (hp : p < 30) (e : stS f p = nI 1) (ef : fhB f p 6 = true) (et : trV f 0 = -1) (hr : hrB f p 6 = false) (kk : VV 0 0 6 [(0, .ref (sz + 0)), (1, .int (nI (alN f (p + 1)))), (2, .int (nI 1)), (3, .int (nI (p + 1)))] [] (patch G 1 7 f, T)) : VV 0 0 118 [(0, .ref (sz + 0)), (1, .int (nI (alN f p))), (2, .int (nI 1)), (3, .int (nI p)), (4, .int (nI 1)), (5, .int (nI 1)), (6, .int (nI 1)), (7, .int (bi (fhB f p 6))), (8, .int (bi (hrB f p 6))), (9, .int (nI 6))] [] (patch G 1 7 f, T) := by
  refine ro_iload_n (i := 1) (q := 119) hX dL_arePages_118 rfl rfl rfl ?_
  refine ro_iload (i := 6) (q := 121) hX dL_arePages_119 rfl rfl ?_
  refine ro_if_eq (tgt := 128) (q := 124) hX dL_arePages_121 (by decide) rfl (fun q => absurd q (by decide)) (fun _ => ?_)
  refine ro_iconst (v := nI 1) (q := 125) hX dL_arePages_124 rfl rfl ?_
  refine ro_goto (tgt := 129) hX dL_arePages_125 (by decide) ?_
  refine ro_iadd (q := 130) hX dL_arePages_129 rfl ?_
  refine vv_top (y := (nI (alN f (p + 1)))) (al_1 (by rw [e]; decide)) ?_
  refine ro_istore_n (i := 1) (q := 131) hX dL_arePages_130 rfl (Nat.le_of_ble_eq_true rfl) rfl ?_
  refine ro_iload_n (i := 2) (q := 132) hX dL_arePages_131 rfl rfl rfl ?_
  refine ro_if_eq (tgt := 238) (q := 135) hX dL_arePages_132 (by decide) rfl (fun q => absurd q (by decide)) (fun _ => ?_)
  refine ro_iload (i := 4) (q := 137) hX dL_arePages_135 rfl rfl ?_
  refine ro_iconst (v := nI 2) (q := 138) hX dL_arePages_137 rfl rfl ?_
  refine ro_icmp_ne (tgt := 145) (q := 141) hX dL_arePages_138 (by decide) rfl (fun _ => ?_) (fun q => absurd q (by decide))
  refine ro_iconst (v := nI 0) (q := 146) hX dL_arePages_145 rfl rfl ?_
  refine ro_iload (i := 5) (q := 148) hX dL_arePages_146 rfl rfl ?_
  refine ro_iconst (v := nI 1) (q := 149) hX dL_arePages_148 rfl rfl ?_
  refine ro_icmp_le (tgt := 156) (q := 152) hX dL_arePages_149 (by decide) rfl (fun _ => ?_) (fun q => absurd (by decide) q)
  refine ro_iconst (v := nI 0) (q := 157) hX dL_arePages_156 rfl rfl ?_
  refine ro_icmp_ne (tgt := 238) (q := 160) hX dL_arePages_157 (by decide) rfl (fun q => absurd (by decide) q) (fun _ => ?_)
  refine ro_iload (i := 4) (q := 162) hX dL_arePages_160 rfl rfl ?_
  refine ro_iconst (v := nI 1) (q := 163) hX dL_arePages_162 rfl rfl ?_
  refine ro_icmp_ne (tgt := 170) (q := 166) hX dL_arePages_163 (by decide) rfl (fun q => absurd (by decide) q) (fun _ => ?_)
  refine ro_iconst (v := nI 1) (q := 167) hX dL_arePages_166 rfl rfl ?_
  refine ro_goto (tgt := 171) hX dL_arePages_167 (by decide) ?_
  refine ro_iload (i := 5) (q := 173) hX dL_arePages_171 rfl rfl ?_
  refine ro_iconst (v := nI 1) (q := 174) hX dL_arePages_173 rfl rfl ?_
  refine ro_icmp_ne (tgt := 181) (q := 177) hX dL_arePages_174 (by decide) rfl (fun q => absurd (by decide) q) (fun _ => ?_)
  refine ro_iconst (v := nI 1) (q := 178) hX dL_arePages_177 rfl rfl ?_
  refine ro_goto (tgt := 182) hX dL_arePages_178 (by decide) ?_
  refine ro_icmp_ne (tgt := 238) (q := 185) hX dL_arePages_182 (by decide) rfl (fun q => absurd (by decide) q) (fun _ => ?_)
  refine ro_iload (i := 6) (q := 187) hX dL_arePages_185 rfl rfl ?_
  refine ro_if_eq (tgt := 205) (q := 190) hX dL_arePages_187 (by decide) rfl (fun q => absurd q (by decide)) (fun _ => ?_)
  refine ro_iload (i := 7) (q := 192) hX dL_arePages_190 rfl rfl ?_
  refine vv_top (y := (nI 1)) (by rw [ef]; rfl) ?_
  refine ro_iload (i := 4) (q := 194) hX dL_arePages_192 rfl rfl ?_
  refine ro_if_lt (tgt := 201) (q := 197) hX dL_arePages_194 (by decide) rfl (fun q => absurd q (by decide)) (fun _ => ?_)
  refine ro_iconst (v := nI 1) (q := 198) hX dL_arePages_197 rfl rfl ?_
  refine ro_goto (tgt := 202) hX dL_arePages_198 (by decide) ?_
  refine ro_icmp_ne (tgt := 238) (q := 205) hX dL_arePages_202 (by decide) rfl (fun q => absurd (by decide) q) (fun _ => ?_)
  refine ro_iload (i := 6) (q := 207) hX dL_arePages_205 rfl rfl ?_
  refine ro_if_ne (tgt := 215) (q := 210) hX dL_arePages_207 (by decide) rfl (fun _ => ?_) (fun q => absurd q (by decide))
  refine ro_aload_n (i := 0) (q := 216) hX dL_arePages_215 rfl rfl rfl ?_
  refine ro_iconst (v := nI 0) (q := 217) hX dL_arePages_216 rfl rfl ?_
  refine ro_callVi (q9 := 220) hX (x_tr (by omega)) mw_X2_transfer kl_L_51 (by decide) (fun cy => cell2 (by decide +kernel)) rfl rfl rfl (Nat.le_of_ble_eq_true rfl) ⟨Nat.le_of_ble_eq_true rfl, Nat.le_of_ble_eq_true rfl⟩ dL_arePages_217 ⟨Nat.le_of_ble_eq_true rfl, Nat.le_of_ble_eq_true rfl⟩ rfl ?_
  refine vv_top (y := (-1)) (et) ?_
  refine ro_if_ge (tgt := 234) (q := 223) hX dL_arePages_220 (by decide) rfl (fun q => absurd q (by decide)) (fun _ => ?_)
  refine ro_iload (i := 4) (q := 225) hX dL_arePages_223 rfl rfl ?_
  refine ro_iconst (v := nI 1) (q := 226) hX dL_arePages_225 rfl rfl ?_
  refine ro_icmp_ne (tgt := 234) (q := 229) hX dL_arePages_226 (by decide) rfl (fun q => absurd (by decide) q) (fun _ => ?_)
  refine ro_iload (i := 8) (q := 231) hX dL_arePages_229 rfl rfl ?_
  refine ro_ifb_ne (tgt := 238) (q := 234) hX dL_arePages_231 (by decide) rfl (fun q => absurd ((hr).symm.trans q) (by decide)) (fun _ => ?_)
  refine ro_iconst (v := nI 1) (q := 235) hX dL_arePages_234 rfl rfl ?_
  refine ro_goto (tgt := 239) hX dL_arePages_235 (by decide) ?_
  refine ro_istore_n (i := 2) (q := 240) hX dL_arePages_239 rfl (Nat.le_of_ble_eq_true rfl) rfl ?_
  refine ro_drop [4, 5, 6, 7, 8, 9] hX rfl ?_
  refine ro_iinc (i := 3) (v := nI (p + 1)) (q := 243) hX dL_arePages_240 rfl (ni_inc _) (Nat.le_of_ble_eq_true rfl) rfl ?_
  refine ro_goto (tgt := 6) hX dL_arePages_243 (by decide) ?_
  exact kk
set_option maxRecDepth 20000 in
set_option maxHeartbeats 2000000 in
theorem ap_tes {VV : VT} (hX : Ctx VV sz RL cL_arePages (roomOf I_L_arePages 0 0) 10) {p q : Nat} (hp : p < 30) (e : stS f p = nI 1) (ef : fhB f p 6 = true) (et : trV f 0 = nI q) (hq : q < 30) (kk : VV 0 0 6 [(0, .ref (sz + 0)), (1, .int (nI (alN f (p + 1)))), (2, .int (nI 1)), (3, .int (nI (p + 1)))] [] (patch G 1 7 f, T)) : VV 0 0 118 [(0, .ref (sz + 0)), (1, .int (nI (alN f p))), (2, .int (nI 1)), (3, .int (nI p)), (4, .int (nI 1)), (5, .int (nI 1)), (6, .int (nI 1)), (7, .int (bi (fhB f p 6))), (8, .int (bi (hrB f p 6))), (9, .int (nI 6))] [] (patch G 1 7 f, T) := by
  refine ro_iload_n (i := 1) (q := 119) hX dL_arePages_118 rfl rfl rfl ?_
  refine ro_iload (i := 6) (q := 121) hX dL_arePages_119 rfl rfl ?_
  refine ro_if_eq (tgt := 128) (q := 124) hX dL_arePages_121 (by decide) rfl (fun q => absurd q (by decide)) (fun _ => ?_)
  refine ro_iconst (v := nI 1) (q := 125) hX dL_arePages_124 rfl rfl ?_
  refine ro_goto (tgt := 129) hX dL_arePages_125 (by decide) ?_
  refine ro_iadd (q := 130) hX dL_arePages_129 rfl ?_
  refine vv_top (y := (nI (alN f (p + 1)))) (al_1 (by rw [e]; decide)) ?_
  refine ro_istore_n (i := 1) (q := 131) hX dL_arePages_130 rfl (Nat.le_of_ble_eq_true rfl) rfl ?_
  refine ro_iload_n (i := 2) (q := 132) hX dL_arePages_131 rfl rfl rfl ?_
  refine ro_if_eq (tgt := 238) (q := 135) hX dL_arePages_132 (by decide) rfl (fun q => absurd q (by decide)) (fun _ => ?_)
  refine ro_iload (i := 4) (q := 137) hX dL_arePages_135 rfl rfl ?_
  refine ro_iconst (v := nI 2) (q := 138) hX dL_arePages_137 rfl rfl ?_
  refine ro_icmp_ne (tgt := 145) (q := 141) hX dL_arePages_138 (by decide) rfl (fun _ => ?_) (fun q => absurd q (by decide))
  refine ro_iconst (v := nI 0) (q := 146) hX dL_arePages_145 rfl rfl ?_
  refine ro_iload (i := 5) (q := 148) hX dL_arePages_146 rfl rfl ?_
  refine ro_iconst (v := nI 1) (q := 149) hX dL_arePages_148 rfl rfl ?_
  refine ro_icmp_le (tgt := 156) (q := 152) hX dL_arePages_149 (by decide) rfl (fun _ => ?_) (fun q => absurd (by decide) q)
  refine ro_iconst (v := nI 0) (q := 157) hX dL_arePages_156 rfl rfl ?_
  refine ro_icmp_ne (tgt := 238) (q := 160) hX dL_arePages_157 (by decide) rfl (fun q => absurd (by decide) q) (fun _ => ?_)
  refine ro_iload (i := 4) (q := 162) hX dL_arePages_160 rfl rfl ?_
  refine ro_iconst (v := nI 1) (q := 163) hX dL_arePages_162 rfl rfl ?_
  refine ro_icmp_ne (tgt := 170) (q := 166) hX dL_arePages_163 (by decide) rfl (fun q => absurd (by decide) q) (fun _ => ?_)
  refine ro_iconst (v := nI 1) (q := 167) hX dL_arePages_166 rfl rfl ?_
  refine ro_goto (tgt := 171) hX dL_arePages_167 (by decide) ?_
  refine ro_iload (i := 5) (q := 173) hX dL_arePages_171 rfl rfl ?_
  refine ro_iconst (v := nI 1) (q := 174) hX dL_arePages_173 rfl rfl ?_
  refine ro_icmp_ne (tgt := 181) (q := 177) hX dL_arePages_174 (by decide) rfl (fun q => absurd (by decide) q) (fun _ => ?_)
  refine ro_iconst (v := nI 1) (q := 178) hX dL_arePages_177 rfl rfl ?_
  refine ro_goto (tgt := 182) hX dL_arePages_178 (by decide) ?_
  refine ro_icmp_ne (tgt := 238) (q := 185) hX dL_arePages_182 (by decide) rfl (fun q => absurd (by decide) q) (fun _ => ?_)
  refine ro_iload (i := 6) (q := 187) hX dL_arePages_185 rfl rfl ?_
  refine ro_if_eq (tgt := 205) (q := 190) hX dL_arePages_187 (by decide) rfl (fun q => absurd q (by decide)) (fun _ => ?_)
  refine ro_iload (i := 7) (q := 192) hX dL_arePages_190 rfl rfl ?_
  refine vv_top (y := (nI 1)) (by rw [ef]; rfl) ?_
  refine ro_iload (i := 4) (q := 194) hX dL_arePages_192 rfl rfl ?_
  refine ro_if_lt (tgt := 201) (q := 197) hX dL_arePages_194 (by decide) rfl (fun q => absurd q (by decide)) (fun _ => ?_)
  refine ro_iconst (v := nI 1) (q := 198) hX dL_arePages_197 rfl rfl ?_
  refine ro_goto (tgt := 202) hX dL_arePages_198 (by decide) ?_
  refine ro_icmp_ne (tgt := 238) (q := 205) hX dL_arePages_202 (by decide) rfl (fun q => absurd (by decide) q) (fun _ => ?_)
  refine ro_iload (i := 6) (q := 207) hX dL_arePages_205 rfl rfl ?_
  refine ro_if_ne (tgt := 215) (q := 210) hX dL_arePages_207 (by decide) rfl (fun _ => ?_) (fun q => absurd q (by decide))
  refine ro_aload_n (i := 0) (q := 216) hX dL_arePages_215 rfl rfl rfl ?_
  refine ro_iconst (v := nI 0) (q := 217) hX dL_arePages_216 rfl rfl ?_
  refine ro_callVi (q9 := 220) hX (x_tr (by omega)) mw_X2_transfer kl_L_51 (by decide) (fun cy => cell2 (by decide +kernel)) rfl rfl rfl (Nat.le_of_ble_eq_true rfl) ⟨Nat.le_of_ble_eq_true rfl, Nat.le_of_ble_eq_true rfl⟩ dL_arePages_217 ⟨Nat.le_of_ble_eq_true rfl, Nat.le_of_ble_eq_true rfl⟩ rfl ?_
  refine vv_top (y := (nI q)) (et) ?_
  refine ro_if_ge (tgt := 234) (q := 223) hX dL_arePages_220 (by decide) rfl (fun _ => ?_) (fun q => absurd (by rw [← nI_0]; exact ni_le (by omega) (by omega)) q)
  refine ro_iconst (v := nI 1) (q := 235) hX dL_arePages_234 rfl rfl ?_
  refine ro_goto (tgt := 239) hX dL_arePages_235 (by decide) ?_
  refine ro_istore_n (i := 2) (q := 240) hX dL_arePages_239 rfl (Nat.le_of_ble_eq_true rfl) rfl ?_
  refine ro_drop [4, 5, 6, 7, 8, 9] hX rfl ?_
  refine ro_iinc (i := 3) (v := nI (p + 1)) (q := 243) hX dL_arePages_240 rfl (ni_inc _) (Nat.le_of_ble_eq_true rfl) rfl ?_
  refine ro_goto (tgt := 6) hX dL_arePages_243 (by decide) ?_
  exact kk
set_option maxRecDepth 20000 in
set_option maxHeartbeats 2000000 in
theorem ap_hu {VV : VT} (hX : Ctx VV sz RL cL_arePages (roomOf I_L_arePages 0 0) 10) {p al : Nat} (hp : p < 30) (e : stS f p = nI 0) (eb : onM (cpS f p) = nI 0) (kk : VV 0 0 51 [(0, .ref (sz + 0)), (1, .int (nI al)), (2, .int (nI 1)), (3, .int (nI p)), (4, .int (nI 0)), (5, .int (nI 0)), (6, .int (nI 1)), (7, .int (nI 0)), (8, .int (nI 0)), (9, .int (nI 0))] [] (patch G 1 7 f, T)) : VV 0 0 12 [(0, .ref (sz + 0)), (1, .int (nI al)), (2, .int (nI 1)), (3, .int (nI p))] [] (patch G 1 7 f, T) := by
  refine ro_aload_n (i := 0) (q := 13) hX dL_arePages_12 rfl rfl rfl ?_
  refine ro_iload_n (i := 3) (q := 14) hX dL_arePages_13 rfl rfl rfl ?_
  refine ro_callVi (q9 := 17) hX (x_status (by omega)) mw_X2_status kl_L_36 (by decide) (fun cy => cell2 (by decide +kernel)) rfl rfl rfl (Nat.le_of_ble_eq_true rfl) ⟨Nat.le_of_ble_eq_true rfl, Nat.le_of_ble_eq_true rfl⟩ dL_arePages_14 ⟨Nat.le_of_ble_eq_true rfl, Nat.le_of_ble_eq_true rfl⟩ rfl ?_
  refine vv_top (y := (nI 0)) (e) ?_
  refine ro_istore (i := 4) (q := 19) hX dL_arePages_17 (Nat.le_of_ble_eq_true rfl) rfl ?_
  refine ro_aload_n (i := 0) (q := 20) hX dL_arePages_19 rfl rfl rfl ?_
  refine ro_iload_n (i := 3) (q := 21) hX dL_arePages_20 rfl rfl rfl ?_
  refine ro_callVi (q9 := 24) hX (x_copies (by omega)) mw_X2_copies kl_L_39 (by decide) (fun cy => cell2 (by decide +kernel)) rfl rfl rfl (Nat.le_of_ble_eq_true rfl) ⟨Nat.le_of_ble_eq_true rfl, Nat.le_of_ble_eq_true rfl⟩ dL_arePages_21 ⟨Nat.le_of_ble_eq_true rfl, Nat.le_of_ble_eq_true rfl⟩ rfl ?_
  refine ro_callSi (q9 := 27) hX (l_bits) mw_L_bits kl_L_95 rfl rfl (Nat.le_of_ble_eq_true rfl) ⟨Nat.le_of_ble_eq_true rfl, Nat.le_of_ble_eq_true rfl⟩ dL_arePages_24 ⟨Nat.le_of_ble_eq_true rfl, Nat.le_of_ble_eq_true rfl⟩ rfl ?_
  refine vv_top (y := (nI 0)) (eb) ?_
  refine ro_istore (i := 5) (q := 29) hX dL_arePages_27 (Nat.le_of_ble_eq_true rfl) rfl ?_
  refine ro_iload (i := 4) (q := 31) hX dL_arePages_29 rfl rfl ?_
  refine ro_iconst (v := (-1)) (q := 32) hX dL_arePages_31 rfl rfl ?_
  refine ro_icmp_eq (tgt := 39) (q := 35) hX dL_arePages_32 (by decide) rfl (fun q => absurd q (by decide)) (fun _ => ?_)
  refine ro_iconst (v := nI 1) (q := 36) hX dL_arePages_35 rfl rfl ?_
  refine ro_goto (tgt := 40) hX dL_arePages_36 (by decide) ?_
  refine ro_istore (i := 6) (q := 42) hX dL_arePages_40 (Nat.le_of_ble_eq_true rfl) rfl ?_
  refine ro_iconst (v := nI 0) (q := 43) hX dL_arePages_42 rfl rfl ?_
  refine ro_istore (i := 7) (q := 45) hX dL_arePages_43 (Nat.le_of_ble_eq_true rfl) rfl ?_
  refine ro_iconst (v := nI 0) (q := 46) hX dL_arePages_45 rfl rfl ?_
  refine ro_istore (i := 8) (q := 48) hX dL_arePages_46 (Nat.le_of_ble_eq_true rfl) rfl ?_
  refine ro_iconst (v := nI 0) (q := 49) hX dL_arePages_48 rfl rfl ?_
  refine ro_istore (i := 9) (q := 51) hX dL_arePages_49 (Nat.le_of_ble_eq_true rfl) rfl ?_
  exact kk
set_option maxRecDepth 20000 in
set_option maxHeartbeats 2000000 in
theorem ap_tun {VV : VT} (hX : Ctx VV sz RL cL_arePages (roomOf I_L_arePages 0 0) 10) {p : Nat} (hp : p < 30) (e : stS f p = nI 0) (ef : fhB f p 6 = true) (et : trV f 0 = -1) (kk : VV 0 0 6 [(0, .ref (sz + 0)), (1, .int (nI (alN f (p + 1)))), (2, .int (nI 1)), (3, .int (nI (p + 1)))] [] (patch G 1 7 f, T)) : VV 0 0 118 [(0, .ref (sz + 0)), (1, .int (nI (alN f p))), (2, .int (nI 1)), (3, .int (nI p)), (4, .int (nI 0)), (5, .int (nI 0)), (6, .int (nI 1)), (7, .int (bi (fhB f p 6))), (8, .int (bi (hrB f p 6))), (9, .int (nI 6))] [] (patch G 1 7 f, T) := by
  refine ro_iload_n (i := 1) (q := 119) hX dL_arePages_118 rfl rfl rfl ?_
  refine ro_iload (i := 6) (q := 121) hX dL_arePages_119 rfl rfl ?_
  refine ro_if_eq (tgt := 128) (q := 124) hX dL_arePages_121 (by decide) rfl (fun q => absurd q (by decide)) (fun _ => ?_)
  refine ro_iconst (v := nI 1) (q := 125) hX dL_arePages_124 rfl rfl ?_
  refine ro_goto (tgt := 129) hX dL_arePages_125 (by decide) ?_
  refine ro_iadd (q := 130) hX dL_arePages_129 rfl ?_
  refine vv_top (y := (nI (alN f (p + 1)))) (al_1 (by rw [e]; decide)) ?_
  refine ro_istore_n (i := 1) (q := 131) hX dL_arePages_130 rfl (Nat.le_of_ble_eq_true rfl) rfl ?_
  refine ro_iload_n (i := 2) (q := 132) hX dL_arePages_131 rfl rfl rfl ?_
  refine ro_if_eq (tgt := 238) (q := 135) hX dL_arePages_132 (by decide) rfl (fun q => absurd q (by decide)) (fun _ => ?_)
  refine ro_iload (i := 4) (q := 137) hX dL_arePages_135 rfl rfl ?_
  refine ro_iconst (v := nI 2) (q := 138) hX dL_arePages_137 rfl rfl ?_
  refine ro_icmp_ne (tgt := 145) (q := 141) hX dL_arePages_138 (by decide) rfl (fun _ => ?_) (fun q => absurd q (by decide))
  refine ro_iconst (v := nI 0) (q := 146) hX dL_arePages_145 rfl rfl ?_
  refine ro_iload (i := 5) (q := 148) hX dL_arePages_146 rfl rfl ?_
  refine ro_iconst (v := nI 1) (q := 149) hX dL_arePages_148 rfl rfl ?_
  refine ro_icmp_le (tgt := 156) (q := 152) hX dL_arePages_149 (by decide) rfl (fun _ => ?_) (fun q => absurd (by decide) q)
  refine ro_iconst (v := nI 0) (q := 157) hX dL_arePages_156 rfl rfl ?_
  refine ro_icmp_ne (tgt := 238) (q := 160) hX dL_arePages_157 (by decide) rfl (fun q => absurd (by decide) q) (fun _ => ?_)
  refine ro_iload (i := 4) (q := 162) hX dL_arePages_160 rfl rfl ?_
  refine ro_iconst (v := nI 1) (q := 163) hX dL_arePages_162 rfl rfl ?_
  refine ro_icmp_ne (tgt := 170) (q := 166) hX dL_arePages_163 (by decide) rfl (fun _ => ?_) (fun q => absurd q (by decide))
  refine ro_iconst (v := nI 0) (q := 171) hX dL_arePages_170 rfl rfl ?_
  refine ro_iload (i := 5) (q := 173) hX dL_arePages_171 rfl rfl ?_
  refine ro_iconst (v := nI 1) (q := 174) hX dL_arePages_173 rfl rfl ?_
  refine ro_icmp_ne (tgt := 181) (q := 177) hX dL_arePages_174 (by decide) rfl (fun _ => ?_) (fun q => absurd q (by decide))
  refine ro_iconst (v := nI 0) (q := 182) hX dL_arePages_181 rfl rfl ?_
  refine ro_icmp_ne (tgt := 238) (q := 185) hX dL_arePages_182 (by decide) rfl (fun q => absurd (by decide) q) (fun _ => ?_)
  refine ro_iload (i := 6) (q := 187) hX dL_arePages_185 rfl rfl ?_
  refine ro_if_eq (tgt := 205) (q := 190) hX dL_arePages_187 (by decide) rfl (fun q => absurd q (by decide)) (fun _ => ?_)
  refine ro_iload (i := 7) (q := 192) hX dL_arePages_190 rfl rfl ?_
  refine vv_top (y := (nI 1)) (by rw [ef]; rfl) ?_
  refine ro_iload (i := 4) (q := 194) hX dL_arePages_192 rfl rfl ?_
  refine ro_if_lt (tgt := 201) (q := 197) hX dL_arePages_194 (by decide) rfl (fun q => absurd q (by decide)) (fun _ => ?_)
  refine ro_iconst (v := nI 1) (q := 198) hX dL_arePages_197 rfl rfl ?_
  refine ro_goto (tgt := 202) hX dL_arePages_198 (by decide) ?_
  refine ro_icmp_ne (tgt := 238) (q := 205) hX dL_arePages_202 (by decide) rfl (fun q => absurd (by decide) q) (fun _ => ?_)
  refine ro_iload (i := 6) (q := 207) hX dL_arePages_205 rfl rfl ?_
  refine ro_if_ne (tgt := 215) (q := 210) hX dL_arePages_207 (by decide) rfl (fun _ => ?_) (fun q => absurd q (by decide))
  refine ro_aload_n (i := 0) (q := 216) hX dL_arePages_215 rfl rfl rfl ?_
  refine ro_iconst (v := nI 0) (q := 217) hX dL_arePages_216 rfl rfl ?_
  refine ro_callVi (q9 := 220) hX (x_tr (by omega)) mw_X2_transfer kl_L_51 (by decide) (fun cy => cell2 (by decide +kernel)) rfl rfl rfl (Nat.le_of_ble_eq_true rfl) ⟨Nat.le_of_ble_eq_true rfl, Nat.le_of_ble_eq_true rfl⟩ dL_arePages_217 ⟨Nat.le_of_ble_eq_true rfl, Nat.le_of_ble_eq_true rfl⟩ rfl ?_
  refine vv_top (y := (-1)) (et) ?_
  refine ro_if_ge (tgt := 234) (q := 223) hX dL_arePages_220 (by decide) rfl (fun q => absurd q (by decide)) (fun _ => ?_)
  refine ro_iload (i := 4) (q := 225) hX dL_arePages_223 rfl rfl ?_
  refine ro_iconst (v := nI 1) (q := 226) hX dL_arePages_225 rfl rfl ?_
  refine ro_icmp_ne (tgt := 234) (q := 229) hX dL_arePages_226 (by decide) rfl (fun _ => ?_) (fun q => absurd q (by decide))
  refine ro_iconst (v := nI 1) (q := 235) hX dL_arePages_234 rfl rfl ?_
  refine ro_goto (tgt := 239) hX dL_arePages_235 (by decide) ?_
  refine ro_istore_n (i := 2) (q := 240) hX dL_arePages_239 rfl (Nat.le_of_ble_eq_true rfl) rfl ?_
  refine ro_drop [4, 5, 6, 7, 8, 9] hX rfl ?_
  refine ro_iinc (i := 3) (v := nI (p + 1)) (q := 243) hX dL_arePages_240 rfl (ni_inc _) (Nat.le_of_ble_eq_true rfl) rfl ?_
  refine ro_goto (tgt := 6) hX dL_arePages_243 (by decide) ?_
  exact kk
set_option maxRecDepth 20000 in
set_option maxHeartbeats 2000000 in
theorem ap_tus {VV : VT} (hX : Ctx VV sz RL cL_arePages (roomOf I_L_arePages 0 0) 10) {p q : Nat} (hp : p < 30) (e : stS f p = nI 0) (ef : fhB f p 6 = true) (et : trV f 0 = nI q) (hq : q < 30) (kk : VV 0 0 6 [(0, .ref (sz + 0)), (1, .int (nI (alN f (p + 1)))), (2, .int (nI 1)), (3, .int (nI (p + 1)))] [] (patch G 1 7 f, T)) : VV 0 0 118 [(0, .ref (sz + 0)), (1, .int (nI (alN f p))), (2, .int (nI 1)), (3, .int (nI p)), (4, .int (nI 0)), (5, .int (nI 0)), (6, .int (nI 1)), (7, .int (bi (fhB f p 6))), (8, .int (bi (hrB f p 6))), (9, .int (nI 6))] [] (patch G 1 7 f, T) := by
  refine ro_iload_n (i := 1) (q := 119) hX dL_arePages_118 rfl rfl rfl ?_
  refine ro_iload (i := 6) (q := 121) hX dL_arePages_119 rfl rfl ?_
  refine ro_if_eq (tgt := 128) (q := 124) hX dL_arePages_121 (by decide) rfl (fun q => absurd q (by decide)) (fun _ => ?_)
  refine ro_iconst (v := nI 1) (q := 125) hX dL_arePages_124 rfl rfl ?_
  refine ro_goto (tgt := 129) hX dL_arePages_125 (by decide) ?_
  refine ro_iadd (q := 130) hX dL_arePages_129 rfl ?_
  refine vv_top (y := (nI (alN f (p + 1)))) (al_1 (by rw [e]; decide)) ?_
  refine ro_istore_n (i := 1) (q := 131) hX dL_arePages_130 rfl (Nat.le_of_ble_eq_true rfl) rfl ?_
  refine ro_iload_n (i := 2) (q := 132) hX dL_arePages_131 rfl rfl rfl ?_
  refine ro_if_eq (tgt := 238) (q := 135) hX dL_arePages_132 (by decide) rfl (fun q => absurd q (by decide)) (fun _ => ?_)
  refine ro_iload (i := 4) (q := 137) hX dL_arePages_135 rfl rfl ?_
  refine ro_iconst (v := nI 2) (q := 138) hX dL_arePages_137 rfl rfl ?_
  refine ro_icmp_ne (tgt := 145) (q := 141) hX dL_arePages_138 (by decide) rfl (fun _ => ?_) (fun q => absurd q (by decide))
  refine ro_iconst (v := nI 0) (q := 146) hX dL_arePages_145 rfl rfl ?_
  refine ro_iload (i := 5) (q := 148) hX dL_arePages_146 rfl rfl ?_
  refine ro_iconst (v := nI 1) (q := 149) hX dL_arePages_148 rfl rfl ?_
  refine ro_icmp_le (tgt := 156) (q := 152) hX dL_arePages_149 (by decide) rfl (fun _ => ?_) (fun q => absurd (by decide) q)
  refine ro_iconst (v := nI 0) (q := 157) hX dL_arePages_156 rfl rfl ?_
  refine ro_icmp_ne (tgt := 238) (q := 160) hX dL_arePages_157 (by decide) rfl (fun q => absurd (by decide) q) (fun _ => ?_)
  refine ro_iload (i := 4) (q := 162) hX dL_arePages_160 rfl rfl ?_
  refine ro_iconst (v := nI 1) (q := 163) hX dL_arePages_162 rfl rfl ?_
  refine ro_icmp_ne (tgt := 170) (q := 166) hX dL_arePages_163 (by decide) rfl (fun _ => ?_) (fun q => absurd q (by decide))
  refine ro_iconst (v := nI 0) (q := 171) hX dL_arePages_170 rfl rfl ?_
  refine ro_iload (i := 5) (q := 173) hX dL_arePages_171 rfl rfl ?_
  refine ro_iconst (v := nI 1) (q := 174) hX dL_arePages_173 rfl rfl ?_
  refine ro_icmp_ne (tgt := 181) (q := 177) hX dL_arePages_174 (by decide) rfl (fun _ => ?_) (fun q => absurd q (by decide))
  refine ro_iconst (v := nI 0) (q := 182) hX dL_arePages_181 rfl rfl ?_
  refine ro_icmp_ne (tgt := 238) (q := 185) hX dL_arePages_182 (by decide) rfl (fun q => absurd (by decide) q) (fun _ => ?_)
  refine ro_iload (i := 6) (q := 187) hX dL_arePages_185 rfl rfl ?_
  refine ro_if_eq (tgt := 205) (q := 190) hX dL_arePages_187 (by decide) rfl (fun q => absurd q (by decide)) (fun _ => ?_)
  refine ro_iload (i := 7) (q := 192) hX dL_arePages_190 rfl rfl ?_
  refine vv_top (y := (nI 1)) (by rw [ef]; rfl) ?_
  refine ro_iload (i := 4) (q := 194) hX dL_arePages_192 rfl rfl ?_
  refine ro_if_lt (tgt := 201) (q := 197) hX dL_arePages_194 (by decide) rfl (fun q => absurd q (by decide)) (fun _ => ?_)
  refine ro_iconst (v := nI 1) (q := 198) hX dL_arePages_197 rfl rfl ?_
  refine ro_goto (tgt := 202) hX dL_arePages_198 (by decide) ?_
  refine ro_icmp_ne (tgt := 238) (q := 205) hX dL_arePages_202 (by decide) rfl (fun q => absurd (by decide) q) (fun _ => ?_)
  refine ro_iload (i := 6) (q := 207) hX dL_arePages_205 rfl rfl ?_
  refine ro_if_ne (tgt := 215) (q := 210) hX dL_arePages_207 (by decide) rfl (fun _ => ?_) (fun q => absurd q (by decide))
  refine ro_aload_n (i := 0) (q := 216) hX dL_arePages_215 rfl rfl rfl ?_
  refine ro_iconst (v := nI 0) (q := 217) hX dL_arePages_216 rfl rfl ?_
  refine ro_callVi (q9 := 220) hX (x_tr (by omega)) mw_X2_transfer kl_L_51 (by decide) (fun cy => cell2 (by decide +kernel)) rfl rfl rfl (Nat.le_of_ble_eq_true rfl) ⟨Nat.le_of_ble_eq_true rfl, Nat.le_of_ble_eq_true rfl⟩ dL_arePages_217 ⟨Nat.le_of_ble_eq_true rfl, Nat.le_of_ble_eq_true rfl⟩ rfl ?_
  refine vv_top (y := (nI q)) (et) ?_
  refine ro_if_ge (tgt := 234) (q := 223) hX dL_arePages_220 (by decide) rfl (fun _ => ?_) (fun q => absurd (by rw [← nI_0]; exact ni_le (by omega) (by omega)) q)
  refine ro_iconst (v := nI 1) (q := 235) hX dL_arePages_234 rfl rfl ?_
  refine ro_goto (tgt := 239) hX dL_arePages_235 (by decide) ?_
  refine ro_istore_n (i := 2) (q := 240) hX dL_arePages_239 rfl (Nat.le_of_ble_eq_true rfl) rfl ?_
  refine ro_drop [4, 5, 6, 7, 8, 9] hX rfl ?_
  refine ro_iinc (i := 3) (v := nI (p + 1)) (q := 243) hX dL_arePages_240 rfl (ni_inc _) (Nat.le_of_ble_eq_true rfl) rfl ?_
  refine ro_goto (tgt := 6) hX dL_arePages_243 (by decide) ?_
  exact kk
set_option maxRecDepth 20000 in
set_option maxHeartbeats 2000000 in
theorem ap_hl {VV : VT} (hX : Ctx VV sz RL cL_arePages (roomOf I_L_arePages 0 0) 10) {p al : Nat} (hp : p < 30) (e : stS f p = (-2)) (eb : onM (cpS f p) = nI 0) (kk : VV 0 0 51 [(0, .ref (sz + 0)), (1, .int (nI al)), (2, .int (nI 1)), (3, .int (nI p)), (4, .int (-2)), (5, .int (nI 0)), (6, .int (nI 1)), (7, .int (nI 0)), (8, .int (nI 0)), (9, .int (nI 0))] [] (patch G 1 7 f, T)) : VV 0 0 12 [(0, .ref (sz + 0)), (1, .int (nI al)), (2, .int (nI 1)), (3, .int (nI p))] [] (patch G 1 7 f, T) := by
  refine ro_aload_n (i := 0) (q := 13) hX dL_arePages_12 rfl rfl rfl ?_
  refine ro_iload_n (i := 3) (q := 14) hX dL_arePages_13 rfl rfl rfl ?_
  refine ro_callVi (q9 := 17) hX (x_status (by omega)) mw_X2_status kl_L_36 (by decide) (fun cy => cell2 (by decide +kernel)) rfl rfl rfl (Nat.le_of_ble_eq_true rfl) ⟨Nat.le_of_ble_eq_true rfl, Nat.le_of_ble_eq_true rfl⟩ dL_arePages_14 ⟨Nat.le_of_ble_eq_true rfl, Nat.le_of_ble_eq_true rfl⟩ rfl ?_
  refine vv_top (y := (-2)) (e) ?_
  refine ro_istore (i := 4) (q := 19) hX dL_arePages_17 (Nat.le_of_ble_eq_true rfl) rfl ?_
  refine ro_aload_n (i := 0) (q := 20) hX dL_arePages_19 rfl rfl rfl ?_
  refine ro_iload_n (i := 3) (q := 21) hX dL_arePages_20 rfl rfl rfl ?_
  refine ro_callVi (q9 := 24) hX (x_copies (by omega)) mw_X2_copies kl_L_39 (by decide) (fun cy => cell2 (by decide +kernel)) rfl rfl rfl (Nat.le_of_ble_eq_true rfl) ⟨Nat.le_of_ble_eq_true rfl, Nat.le_of_ble_eq_true rfl⟩ dL_arePages_21 ⟨Nat.le_of_ble_eq_true rfl, Nat.le_of_ble_eq_true rfl⟩ rfl ?_
  refine ro_callSi (q9 := 27) hX (l_bits) mw_L_bits kl_L_95 rfl rfl (Nat.le_of_ble_eq_true rfl) ⟨Nat.le_of_ble_eq_true rfl, Nat.le_of_ble_eq_true rfl⟩ dL_arePages_24 ⟨Nat.le_of_ble_eq_true rfl, Nat.le_of_ble_eq_true rfl⟩ rfl ?_
  refine vv_top (y := (nI 0)) (eb) ?_
  refine ro_istore (i := 5) (q := 29) hX dL_arePages_27 (Nat.le_of_ble_eq_true rfl) rfl ?_
  refine ro_iload (i := 4) (q := 31) hX dL_arePages_29 rfl rfl ?_
  refine ro_iconst (v := (-1)) (q := 32) hX dL_arePages_31 rfl rfl ?_
  refine ro_icmp_eq (tgt := 39) (q := 35) hX dL_arePages_32 (by decide) rfl (fun q => absurd q (by decide)) (fun _ => ?_)
  refine ro_iconst (v := nI 1) (q := 36) hX dL_arePages_35 rfl rfl ?_
  refine ro_goto (tgt := 40) hX dL_arePages_36 (by decide) ?_
  refine ro_istore (i := 6) (q := 42) hX dL_arePages_40 (Nat.le_of_ble_eq_true rfl) rfl ?_
  refine ro_iconst (v := nI 0) (q := 43) hX dL_arePages_42 rfl rfl ?_
  refine ro_istore (i := 7) (q := 45) hX dL_arePages_43 (Nat.le_of_ble_eq_true rfl) rfl ?_
  refine ro_iconst (v := nI 0) (q := 46) hX dL_arePages_45 rfl rfl ?_
  refine ro_istore (i := 8) (q := 48) hX dL_arePages_46 (Nat.le_of_ble_eq_true rfl) rfl ?_
  refine ro_iconst (v := nI 0) (q := 49) hX dL_arePages_48 rfl rfl ?_
  refine ro_istore (i := 9) (q := 51) hX dL_arePages_49 (Nat.le_of_ble_eq_true rfl) rfl ?_
  exact kk
set_option maxRecDepth 20000 in
set_option maxHeartbeats 2000000 in
theorem ap_tln {VV : VT} (hX : Ctx VV sz RL cL_arePages (roomOf I_L_arePages 0 0) 10) {p : Nat} (hp : p < 30) (e : stS f p = (-2)) (ef : fhB f p 6 = false) (et : trV f 0 = -1) (kk : VV 0 0 6 [(0, .ref (sz + 0)), (1, .int (nI (alN f (p + 1)))), (2, .int (nI 1)), (3, .int (nI (p + 1)))] [] (patch G 1 7 f, T)) : VV 0 0 118 [(0, .ref (sz + 0)), (1, .int (nI (alN f p))), (2, .int (nI 1)), (3, .int (nI p)), (4, .int (-2)), (5, .int (nI 0)), (6, .int (nI 1)), (7, .int (bi (fhB f p 6))), (8, .int (bi (hrB f p 6))), (9, .int (nI 6))] [] (patch G 1 7 f, T) := by
  refine ro_iload_n (i := 1) (q := 119) hX dL_arePages_118 rfl rfl rfl ?_
  refine ro_iload (i := 6) (q := 121) hX dL_arePages_119 rfl rfl ?_
  refine ro_if_eq (tgt := 128) (q := 124) hX dL_arePages_121 (by decide) rfl (fun q => absurd q (by decide)) (fun _ => ?_)
  refine ro_iconst (v := nI 1) (q := 125) hX dL_arePages_124 rfl rfl ?_
  refine ro_goto (tgt := 129) hX dL_arePages_125 (by decide) ?_
  refine ro_iadd (q := 130) hX dL_arePages_129 rfl ?_
  refine vv_top (y := (nI (alN f (p + 1)))) (al_1 (by rw [e]; decide)) ?_
  refine ro_istore_n (i := 1) (q := 131) hX dL_arePages_130 rfl (Nat.le_of_ble_eq_true rfl) rfl ?_
  refine ro_iload_n (i := 2) (q := 132) hX dL_arePages_131 rfl rfl rfl ?_
  refine ro_if_eq (tgt := 238) (q := 135) hX dL_arePages_132 (by decide) rfl (fun q => absurd q (by decide)) (fun _ => ?_)
  refine ro_iload (i := 4) (q := 137) hX dL_arePages_135 rfl rfl ?_
  refine ro_iconst (v := nI 2) (q := 138) hX dL_arePages_137 rfl rfl ?_
  refine ro_icmp_ne (tgt := 145) (q := 141) hX dL_arePages_138 (by decide) rfl (fun _ => ?_) (fun q => absurd q (by decide))
  refine ro_iconst (v := nI 0) (q := 146) hX dL_arePages_145 rfl rfl ?_
  refine ro_iload (i := 5) (q := 148) hX dL_arePages_146 rfl rfl ?_
  refine ro_iconst (v := nI 1) (q := 149) hX dL_arePages_148 rfl rfl ?_
  refine ro_icmp_le (tgt := 156) (q := 152) hX dL_arePages_149 (by decide) rfl (fun _ => ?_) (fun q => absurd (by decide) q)
  refine ro_iconst (v := nI 0) (q := 157) hX dL_arePages_156 rfl rfl ?_
  refine ro_icmp_ne (tgt := 238) (q := 160) hX dL_arePages_157 (by decide) rfl (fun q => absurd (by decide) q) (fun _ => ?_)
  refine ro_iload (i := 4) (q := 162) hX dL_arePages_160 rfl rfl ?_
  refine ro_iconst (v := nI 1) (q := 163) hX dL_arePages_162 rfl rfl ?_
  refine ro_icmp_ne (tgt := 170) (q := 166) hX dL_arePages_163 (by decide) rfl (fun _ => ?_) (fun q => absurd q (by decide))
  refine ro_iconst (v := nI 0) (q := 171) hX dL_arePages_170 rfl rfl ?_
  refine ro_iload (i := 5) (q := 173) hX dL_arePages_171 rfl rfl ?_
  refine ro_iconst (v := nI 1) (q := 174) hX dL_arePages_173 rfl rfl ?_
  refine ro_icmp_ne (tgt := 181) (q := 177) hX dL_arePages_174 (by decide) rfl (fun _ => ?_) (fun q => absurd q (by decide))
  refine ro_iconst (v := nI 0) (q := 182) hX dL_arePages_181 rfl rfl ?_
  refine ro_icmp_ne (tgt := 238) (q := 185) hX dL_arePages_182 (by decide) rfl (fun q => absurd (by decide) q) (fun _ => ?_)
  refine ro_iload (i := 6) (q := 187) hX dL_arePages_185 rfl rfl ?_
  refine ro_if_eq (tgt := 205) (q := 190) hX dL_arePages_187 (by decide) rfl (fun q => absurd q (by decide)) (fun _ => ?_)
  refine ro_iload (i := 7) (q := 192) hX dL_arePages_190 rfl rfl ?_
  refine vv_top (y := (nI 0)) (by rw [ef]; rfl) ?_
  refine ro_iload (i := 4) (q := 194) hX dL_arePages_192 rfl rfl ?_
  refine ro_if_lt (tgt := 201) (q := 197) hX dL_arePages_194 (by decide) rfl (fun _ => ?_) (fun q => absurd (by decide) q)
  refine ro_iconst (v := nI 0) (q := 202) hX dL_arePages_201 rfl rfl ?_
  refine ro_icmp_ne (tgt := 238) (q := 205) hX dL_arePages_202 (by decide) rfl (fun q => absurd (by decide) q) (fun _ => ?_)
  refine ro_iload (i := 6) (q := 207) hX dL_arePages_205 rfl rfl ?_
  refine ro_if_ne (tgt := 215) (q := 210) hX dL_arePages_207 (by decide) rfl (fun _ => ?_) (fun q => absurd q (by decide))
  refine ro_aload_n (i := 0) (q := 216) hX dL_arePages_215 rfl rfl rfl ?_
  refine ro_iconst (v := nI 0) (q := 217) hX dL_arePages_216 rfl rfl ?_
  refine ro_callVi (q9 := 220) hX (x_tr (by omega)) mw_X2_transfer kl_L_51 (by decide) (fun cy => cell2 (by decide +kernel)) rfl rfl rfl (Nat.le_of_ble_eq_true rfl) ⟨Nat.le_of_ble_eq_true rfl, Nat.le_of_ble_eq_true rfl⟩ dL_arePages_217 ⟨Nat.le_of_ble_eq_true rfl, Nat.le_of_ble_eq_true rfl⟩ rfl ?_
  refine vv_top (y := (-1)) (et) ?_
  refine ro_if_ge (tgt := 234) (q := 223) hX dL_arePages_220 (by decide) rfl (fun q => absurd q (by decide)) (fun _ => ?_)
  refine ro_iload (i := 4) (q := 225) hX dL_arePages_223 rfl rfl ?_
  refine ro_iconst (v := nI 1) (q := 226) hX dL_arePages_225 rfl rfl ?_
  refine ro_icmp_ne (tgt := 234) (q := 229) hX dL_arePages_226 (by decide) rfl (fun _ => ?_) (fun q => absurd q (by decide))
  refine ro_iconst (v := nI 1) (q := 235) hX dL_arePages_234 rfl rfl ?_
  refine ro_goto (tgt := 239) hX dL_arePages_235 (by decide) ?_
  refine ro_istore_n (i := 2) (q := 240) hX dL_arePages_239 rfl (Nat.le_of_ble_eq_true rfl) rfl ?_
  refine ro_drop [4, 5, 6, 7, 8, 9] hX rfl ?_
  refine ro_iinc (i := 3) (v := nI (p + 1)) (q := 243) hX dL_arePages_240 rfl (ni_inc _) (Nat.le_of_ble_eq_true rfl) rfl ?_
  refine ro_goto (tgt := 6) hX dL_arePages_243 (by decide) ?_
  exact kk
set_option maxRecDepth 20000 in
set_option maxHeartbeats 2000000 in
theorem ap_tls {VV : VT} (hX : Ctx VV sz RL cL_arePages (roomOf I_L_arePages 0 0) 10) {p q : Nat} (hp : p < 30) (e : stS f p = (-2)) (ef : fhB f p 6 = false) (et : trV f 0 = nI q) (hq : q < 30) (kk : VV 0 0 6 [(0, .ref (sz + 0)), (1, .int (nI (alN f (p + 1)))), (2, .int (nI 1)), (3, .int (nI (p + 1)))] [] (patch G 1 7 f, T)) : VV 0 0 118 [(0, .ref (sz + 0)), (1, .int (nI (alN f p))), (2, .int (nI 1)), (3, .int (nI p)), (4, .int (-2)), (5, .int (nI 0)), (6, .int (nI 1)), (7, .int (bi (fhB f p 6))), (8, .int (bi (hrB f p 6))), (9, .int (nI 6))] [] (patch G 1 7 f, T) := by
  refine ro_iload_n (i := 1) (q := 119) hX dL_arePages_118 rfl rfl rfl ?_
  refine ro_iload (i := 6) (q := 121) hX dL_arePages_119 rfl rfl ?_
  refine ro_if_eq (tgt := 128) (q := 124) hX dL_arePages_121 (by decide) rfl (fun q => absurd q (by decide)) (fun _ => ?_)
  refine ro_iconst (v := nI 1) (q := 125) hX dL_arePages_124 rfl rfl ?_
  refine ro_goto (tgt := 129) hX dL_arePages_125 (by decide) ?_
  refine ro_iadd (q := 130) hX dL_arePages_129 rfl ?_
  refine vv_top (y := (nI (alN f (p + 1)))) (al_1 (by rw [e]; decide)) ?_
  refine ro_istore_n (i := 1) (q := 131) hX dL_arePages_130 rfl (Nat.le_of_ble_eq_true rfl) rfl ?_
  refine ro_iload_n (i := 2) (q := 132) hX dL_arePages_131 rfl rfl rfl ?_
  refine ro_if_eq (tgt := 238) (q := 135) hX dL_arePages_132 (by decide) rfl (fun q => absurd q (by decide)) (fun _ => ?_)
  refine ro_iload (i := 4) (q := 137) hX dL_arePages_135 rfl rfl ?_
  refine ro_iconst (v := nI 2) (q := 138) hX dL_arePages_137 rfl rfl ?_
  refine ro_icmp_ne (tgt := 145) (q := 141) hX dL_arePages_138 (by decide) rfl (fun _ => ?_) (fun q => absurd q (by decide))
  refine ro_iconst (v := nI 0) (q := 146) hX dL_arePages_145 rfl rfl ?_
  refine ro_iload (i := 5) (q := 148) hX dL_arePages_146 rfl rfl ?_
  refine ro_iconst (v := nI 1) (q := 149) hX dL_arePages_148 rfl rfl ?_
  refine ro_icmp_le (tgt := 156) (q := 152) hX dL_arePages_149 (by decide) rfl (fun _ => ?_) (fun q => absurd (by decide) q)
  refine ro_iconst (v := nI 0) (q := 157) hX dL_arePages_156 rfl rfl ?_
  refine ro_icmp_ne (tgt := 238) (q := 160) hX dL_arePages_157 (by decide) rfl (fun q => absurd (by decide) q) (fun _ => ?_)
  refine ro_iload (i := 4) (q := 162) hX dL_arePages_160 rfl rfl ?_
  refine ro_iconst (v := nI 1) (q := 163) hX dL_arePages_162 rfl rfl ?_
  refine ro_icmp_ne (tgt := 170) (q := 166) hX dL_arePages_163 (by decide) rfl (fun _ => ?_) (fun q => absurd q (by decide))
  refine ro_iconst (v := nI 0) (q := 171) hX dL_arePages_170 rfl rfl ?_
  refine ro_iload (i := 5) (q := 173) hX dL_arePages_171 rfl rfl ?_
  refine ro_iconst (v := nI 1) (q := 174) hX dL_arePages_173 rfl rfl ?_
  refine ro_icmp_ne (tgt := 181) (q := 177) hX dL_arePages_174 (by decide) rfl (fun _ => ?_) (fun q => absurd q (by decide))
  refine ro_iconst (v := nI 0) (q := 182) hX dL_arePages_181 rfl rfl ?_
  refine ro_icmp_ne (tgt := 238) (q := 185) hX dL_arePages_182 (by decide) rfl (fun q => absurd (by decide) q) (fun _ => ?_)
  refine ro_iload (i := 6) (q := 187) hX dL_arePages_185 rfl rfl ?_
  refine ro_if_eq (tgt := 205) (q := 190) hX dL_arePages_187 (by decide) rfl (fun q => absurd q (by decide)) (fun _ => ?_)
  refine ro_iload (i := 7) (q := 192) hX dL_arePages_190 rfl rfl ?_
  refine vv_top (y := (nI 0)) (by rw [ef]; rfl) ?_
  refine ro_iload (i := 4) (q := 194) hX dL_arePages_192 rfl rfl ?_
  refine ro_if_lt (tgt := 201) (q := 197) hX dL_arePages_194 (by decide) rfl (fun _ => ?_) (fun q => absurd (by decide) q)
  refine ro_iconst (v := nI 0) (q := 202) hX dL_arePages_201 rfl rfl ?_
  refine ro_icmp_ne (tgt := 238) (q := 205) hX dL_arePages_202 (by decide) rfl (fun q => absurd (by decide) q) (fun _ => ?_)
  refine ro_iload (i := 6) (q := 207) hX dL_arePages_205 rfl rfl ?_
  refine ro_if_ne (tgt := 215) (q := 210) hX dL_arePages_207 (by decide) rfl (fun _ => ?_) (fun q => absurd q (by decide))
  refine ro_aload_n (i := 0) (q := 216) hX dL_arePages_215 rfl rfl rfl ?_
  refine ro_iconst (v := nI 0) (q := 217) hX dL_arePages_216 rfl rfl ?_
  refine ro_callVi (q9 := 220) hX (x_tr (by omega)) mw_X2_transfer kl_L_51 (by decide) (fun cy => cell2 (by decide +kernel)) rfl rfl rfl (Nat.le_of_ble_eq_true rfl) ⟨Nat.le_of_ble_eq_true rfl, Nat.le_of_ble_eq_true rfl⟩ dL_arePages_217 ⟨Nat.le_of_ble_eq_true rfl, Nat.le_of_ble_eq_true rfl⟩ rfl ?_
  refine vv_top (y := (nI q)) (et) ?_
  refine ro_if_ge (tgt := 234) (q := 223) hX dL_arePages_220 (by decide) rfl (fun _ => ?_) (fun q => absurd (by rw [← nI_0]; exact ni_le (by omega) (by omega)) q)
  refine ro_iconst (v := nI 1) (q := 235) hX dL_arePages_234 rfl rfl ?_
  refine ro_goto (tgt := 239) hX dL_arePages_235 (by decide) ?_
  refine ro_istore_n (i := 2) (q := 240) hX dL_arePages_239 rfl (Nat.le_of_ble_eq_true rfl) rfl ?_
  refine ro_drop [4, 5, 6, 7, 8, 9] hX rfl ?_
  refine ro_iinc (i := 3) (v := nI (p + 1)) (q := 243) hX dL_arePages_240 rfl (ni_inc _) (Nat.le_of_ble_eq_true rfl) rfl ?_
  refine ro_goto (tgt := 6) hX dL_arePages_243 (by decide) ?_
  exact kk
set_option maxRecDepth 20000 in
set_option maxHeartbeats 2000000 in
theorem ap_en {VV : VT} (hF : CtxF VV sz RL cL_arePages (some .boolean) (roomOf I_L_arePages 0 0) 10 (.inl (some (nI 1))) (patch G 1 7 f, T) 0 0) (hf : GoodS f B M) : VV 0 0 246 [(0, .ref (sz + 0)), (1, .int (nI (alN f 30))), (2, .int (nI 1)), (3, .int (nI 30))] [] (patch G 1 7 f, T) := by
  have hX := hF.c
  refine ro_iload_n (i := 2) (q := 247) hX dL_arePages_246 rfl rfl rfl ?_
  refine ro_if_eq (tgt := 282) (q := 250) hX dL_arePages_247 (by decide) rfl (fun q => absurd q (by decide)) (fun _ => ?_)
  refine ro_aload_n (i := 0) (q := 251) hX dL_arePages_250 rfl rfl rfl ?_
  refine ro_iconst (v := nI 2) (q := 252) hX dL_arePages_251 rfl rfl ?_
  refine ro_callVi (q9 := 255) hX (x_countStatus (by decide) (by decide)) mw_X2_countStatus kl_L_98 (by decide) (fun cy => cell2 (by decide +kernel)) rfl rfl rfl (Nat.le_of_ble_eq_true rfl) ⟨Nat.le_of_ble_eq_true rfl, Nat.le_of_ble_eq_true rfl⟩ dL_arePages_252 ⟨Nat.le_of_ble_eq_true rfl, Nat.le_of_ble_eq_true rfl⟩ rfl ?_
  refine ro_aload_n (i := 0) (q := 256) hX dL_arePages_255 rfl rfl rfl ?_
  refine ro_iconst (v := nI 1) (q := 257) hX dL_arePages_256 rfl rfl ?_
  refine ro_callVi (q9 := 260) hX (x_countStatus (by decide) (by decide)) mw_X2_countStatus kl_L_98 (by decide) (fun cy => cell2 (by decide +kernel)) rfl rfl rfl (Nat.le_of_ble_eq_true rfl) ⟨Nat.le_of_ble_eq_true rfl, Nat.le_of_ble_eq_true rfl⟩ dL_arePages_257 ⟨Nat.le_of_ble_eq_true rfl, Nat.le_of_ble_eq_true rfl⟩ rfl ?_
  refine ro_iadd (q := 261) hX dL_arePages_260 rfl ?_
  refine ro_aload_n (i := 0) (q := 262) hX dL_arePages_261 rfl rfl rfl ?_
  refine ro_iconst (v := nI 0) (q := 263) hX dL_arePages_262 rfl rfl ?_
  refine ro_callVi (q9 := 266) hX (x_countStatus (by decide) (by decide)) mw_X2_countStatus kl_L_98 (by decide) (fun cy => cell2 (by decide +kernel)) rfl rfl rfl (Nat.le_of_ble_eq_true rfl) ⟨Nat.le_of_ble_eq_true rfl, Nat.le_of_ble_eq_true rfl⟩ dL_arePages_263 ⟨Nat.le_of_ble_eq_true rfl, Nat.le_of_ble_eq_true rfl⟩ rfl ?_
  refine ro_iadd (q := 267) hX dL_arePages_266 rfl ?_
  refine ro_aload_n (i := 0) (q := 268) hX dL_arePages_267 rfl rfl rfl ?_
  refine ro_bipush (v := (-2)) (q := 270) hX dL_arePages_268 rfl rfl ?_
  refine ro_callVi (q9 := 273) hX (x_countStatus_b rfl) mw_X2_countStatus kl_L_98 (by decide) (fun cy => cell2 (by decide +kernel)) rfl rfl rfl (Nat.le_of_ble_eq_true rfl) ⟨Nat.le_of_ble_eq_true rfl, Nat.le_of_ble_eq_true rfl⟩ dL_arePages_270 ⟨Nat.le_of_ble_eq_true rfl, Nat.le_of_ble_eq_true rfl⟩ rfl ?_
  refine ro_iadd (q := 274) hX dL_arePages_273 rfl ?_
  refine ro_iload_n (i := 1) (q := 275) hX dL_arePages_274 rfl rfl rfl ?_
  refine ro_icmp_ne (tgt := 282) (q := 278) hX dL_arePages_275 (by decide) rfl (fun q => absurd (cnt_nI hf) q) (fun _ => ?_)
  refine ro_iconst (v := nI 1) (q := 279) hX dL_arePages_278 rfl rfl ?_
  refine ro_goto (tgt := 283) hX dL_arePages_279 (by decide) ?_
  exact fin_z hF (Nat.le_of_ble_eq_true rfl) (Nat.le_of_ble_eq_true rfl) dL_arePages_283 rfl rfl rfl
theorem l_arePages (hf : GoodS f B M) : Does sz I_L_arePages [.ref (sz + 0)] (patch G 1 7 f, T) 0 0 (.inl (some (nI 1))) (patch G 1 7 f, T) := by
  refine Does.of (L := [(0, .ref (sz + 0))]) (by decide +kernel) (Nat.le_of_ble_eq_true rfl) rfl ⟨rfl, (by simp), trivial⟩ (fun VV hF => ?_)
  have hX := hF.c
  have htr : trV f 0 = -1 ∨ ∃ q, q < 30 ∧ trV f 0 = nI q := by
    by_cases hn : f 0 11 = -1
    · exact Or.inl (tr_none hn)
    · obtain ⟨p, S, U, d, a1, a2, a3, a4, a5, -⟩ := good_tr hf hn
      exact Or.inr ⟨p, a1, a5⟩
  have hno : trV f 0 = -1 → f 0 11 = -1 := fun e => Classical.byContradiction fun hn => by
    obtain ⟨p, S, U, d, a1, a2, a3, a4, a5, -⟩ := good_tr hf hn
    exact ni_m1 (by omega) (a5.symm.trans e)
  refine ro_iconst (v := nI 0) (q := 1) hX dL_arePages_0 rfl rfl ?_
  refine ro_istore_n (i := 1) (q := 2) hX dL_arePages_1 rfl (Nat.le_of_ble_eq_true rfl) rfl ?_
  refine ro_iconst (v := nI 1) (q := 3) hX dL_arePages_2 rfl rfl ?_
  refine ro_istore_n (i := 2) (q := 4) hX dL_arePages_3 rfl (Nat.le_of_ble_eq_true rfl) rfl ?_
  refine ro_iconst (v := nI 0) (q := 5) hX dL_arePages_4 rfl rfl ?_
  refine ro_istore_n (i := 3) (q := 6) hX dL_arePages_5 rfl (Nat.le_of_ble_eq_true rfl) rfl ?_
  refine vv_LM (L' := [(0, .ref (sz + 0)), (1, .int (nI (alN f 0))), (2, .int (nI 1)), (3, .int (nI 0))]) (M' := (patch G 1 7 f, T)) (by rfl) rfl ?_
  refine down_ind (P := fun k => VV 0 0 6 [(0, .ref (sz + 0)), (1, .int (nI (alN f k))), (2, .int (nI 1)), (3, .int (nI k))] [] (patch G 1 7 f, T)) 30 (fun k hk ih => ?_) ?_
  · refine ro_iload_n (i := 3) (q := 7) hX dL_arePages_6 rfl rfl rfl ?_
    refine ro_bipush (v := nI 30) (q := 9) hX dL_arePages_7 rfl rfl ?_
    refine ro_icmp_ge (tgt := 246) (q := 12) hX dL_arePages_9 (by decide) rfl (fun q => absurd q (ni_nle (by omega) (by omega))) (fun _ => ?_)
    rcases st_cases hf hk with ⟨e, eb⟩ | ⟨e, ⟨c, hc, hc6, eb⟩, ef⟩ | ⟨e, eb, ef⟩ | ⟨e, eb, ef⟩ | ⟨e, eb, ef⟩
    · skip
      rcases htr with et | ⟨q, hq, et⟩
      · exact ap_hn hX hk e eb (ap_in hX hk (ap_tnn hX hk e et ih))
      · exact ap_hn hX hk e eb (ap_in hX hk (ap_tns hX hk e et hq ih))
    · skip
      rcases htr with et | ⟨q, hq, et⟩
      · exact ap_hs hX hk e eb (ap_in hX hk (ap_tsn hX hk e hc hc6 ef et ih))
      · exact ap_hs hX hk e eb (ap_in hX hk (ap_tss hX hk e hc hc6 ef et hq ih))
    · skip
      rcases htr with et | ⟨q, hq, et⟩
      · exact ap_he hX hk e eb (ap_in hX hk (ap_ten hX hk e ef et (good_rest hf hk (hno et) eb) ih))
      · exact ap_he hX hk e eb (ap_in hX hk (ap_tes hX hk e ef et hq ih))
    · skip
      rcases htr with et | ⟨q, hq, et⟩
      · exact ap_hu hX hk e eb (ap_in hX hk (ap_tun hX hk e ef et ih))
      · exact ap_hu hX hk e eb (ap_in hX hk (ap_tus hX hk e ef et hq ih))
    · skip
      rcases htr with et | ⟨q, hq, et⟩
      · exact ap_hl hX hk e eb (ap_in hX hk (ap_tln hX hk e ef et ih))
      · exact ap_hl hX hk e eb (ap_in hX hk (ap_tls hX hk e ef et hq ih))
  · refine ro_iload_n (i := 3) (q := 7) hX dL_arePages_6 rfl rfl rfl ?_
    refine ro_bipush (v := nI 30) (q := 9) hX dL_arePages_7 rfl rfl ?_
    exact ro_icmp_ge (tgt := 246) (q := 12) hX dL_arePages_9 (by decide) rfl (fun _ => ap_en hF hf) (fun q => absurd (ni_le (by omega) (by omega)) q)
end
