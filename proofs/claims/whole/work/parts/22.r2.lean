section
variable {sz r : Nat} {G : Nat → Nat → Int32} {T : (Nat → Nat) × Int64} {f : SV}
set_option maxRecDepth 20000 in
set_option maxHeartbeats 2000000 in
theorem s_accept {c : Nat} (hc : c < 128) : Does sz I_X0_accept [.ref (sz + 18), .int (nI c)] (patch G 18 1 f, T) 0 0 (.inl (some (bi (rAccB f c)))) (patch G 18 1 (rAccP f c), T) := by
  refine Does.of (L := [(0, .ref (sz + 18)), (1, .int (nI c))]) (by decide +kernel) (Nat.le_of_ble_eq_true rfl) rfl ⟨rfl, (by simp), ⟨rfl, (by simp), trivial⟩⟩ (fun VV hF => ?_)
  have hX := hF.c
  refine ro_aload_n (i := 0) (q := 1) hX dX0_accept_0 rfl rfl rfl ?_
  refine ro_Rgi (j := 0) (q9 := 4) (by decide) hX kf_X0_11 dX0_accept_1 rfl ?_
  refine ro_if_ne (tgt := 13) (q := 7) hX dX0_accept_4 (by decide) rfl (fun q1 => ?_) (fun q1 => ?_)
  · skip
    refine ro_iload_n (i := 1) (q := 14) hX dX0_accept_13 rfl rfl rfl ?_
    refine ro_bipush (v := nI 48) (q := 16) hX dX0_accept_14 rfl rfl ?_
    refine ro_icmp_lt (tgt := 34) (q := 19) hX dX0_accept_16 (by decide) rfl (fun q2 => ?_) (fun q2 => ?_)
    · rw [nI_ltI (by omega) (by omega)] at q2
      refine ro_iload_n (i := 1) (q := 35) hX dX0_accept_34 rfl rfl rfl ?_
      refine ro_bipush (v := nI 44) (q := 37) hX dX0_accept_35 rfl rfl ?_
      refine ro_icmp_ne (tgt := 69) (q := 40) hX dX0_accept_37 (by decide) rfl (fun q3 => ?_) (fun q3 => ?_)
      · rw [nI_eq (by omega) (by omega)] at q3
        refine ro_iload_n (i := 1) (q := 70) hX dX0_accept_69 rfl rfl rfl ?_
        refine ro_bipush (v := nI 59) (q := 72) hX dX0_accept_70 rfl rfl ?_
        refine ro_icmp_ne (tgt := 88) (q := 75) hX dX0_accept_72 (by decide) rfl (fun q4 => ?_) (fun q4 => ?_)
        · rw [nI_eq (by omega) (by omega)] at q4
          refine ro_iconst (v := nI 0) (q := 89) hX dX0_accept_88 rfl rfl ?_
          exact fin_z hF (Nat.le_of_ble_eq_true rfl) (Nat.le_of_ble_eq_true rfl) dX0_accept_89 rfl (by first | with_reducible rfl | (simp [rAccB, rAccP, rRes, bi, setL_s, setL_t, setL_0, dropL_0, dropL_c, *]; done) | (simp only [rAccB, rAccP, rRes, bi, setL_s, setL_t, setL_0, dropL_0, dropL_c]; (repeat' split) <;> first | with_reducible rfl | contradiction | (exfalso; omega) | (simp_all; done)) | rfl) (by first | with_reducible rfl | (simp [rAccB, rAccP, bi, setL_s, setL_t, setL_0, dropL_0, dropL_c, *]; done) | (simp only [rAccB, rAccP, bi, setL_s, setL_t, setL_0, dropL_0, dropL_c]; (repeat' split) <;> first | with_reducible rfl | contradiction | (exfalso; omega) | (simp_all; done)) | rfl)
        · rw [nI_eq (by omega) (by omega)] at q4
          refine ro_aload_n (i := 0) (q := 76) hX dX0_accept_75 rfl rfl rfl ?_
          refine ro_callVi (q9 := 79) hX (s_isComplete) mw_X0_isComplete kl_X0_38 (by decide) (fun cy => cell0 (by decide +kernel)) rfl rfl rfl (Nat.le_of_ble_eq_true rfl) ⟨Nat.le_of_ble_eq_true rfl, Nat.le_of_ble_eq_true rfl⟩ dX0_accept_76 ⟨Nat.le_of_ble_eq_true rfl, Nat.le_of_ble_eq_true rfl⟩ rfl ?_
          refine ro_ifb_eq (tgt := 88) (q := 82) hX dX0_accept_79 (by decide) rfl (fun q5 => ?_) (fun q5 => ?_)
          · skip
            refine ro_iconst (v := nI 0) (q := 89) hX dX0_accept_88 rfl rfl ?_
            exact fin_z hF (Nat.le_of_ble_eq_true rfl) (Nat.le_of_ble_eq_true rfl) dX0_accept_89 rfl (by first | with_reducible rfl | (simp [rAccB, rAccP, rRes, bi, setL_s, setL_t, setL_0, dropL_0, dropL_c, *]; done) | (simp only [rAccB, rAccP, rRes, bi, setL_s, setL_t, setL_0, dropL_0, dropL_c]; (repeat' split) <;> first | with_reducible rfl | contradiction | (exfalso; omega) | (simp_all; done)) | rfl) (by first | with_reducible rfl | (simp [rAccB, rAccP, bi, setL_s, setL_t, setL_0, dropL_0, dropL_c, *]; done) | (simp only [rAccB, rAccP, bi, setL_s, setL_t, setL_0, dropL_0, dropL_c]; (repeat' split) <;> first | with_reducible rfl | contradiction | (exfalso; omega) | (simp_all; done)) | rfl)
          · skip
            refine ro_aload_n (i := 0) (q := 83) hX dX0_accept_82 rfl rfl rfl ?_
            refine ro_callVv (q9 := 86) hX (s_restart) mw_X0_restart kl_X0_41 (by decide) (fun cy => cell0 (by decide +kernel)) rfl rfl rfl (Nat.le_of_ble_eq_true rfl) ⟨Nat.le_of_ble_eq_true rfl, Nat.le_of_ble_eq_true rfl⟩ dX0_accept_83 ⟨Nat.le_of_ble_eq_true rfl, Nat.le_of_ble_eq_true rfl⟩ rfl ?_
            refine ro_iconst (v := nI 1) (q := 87) hX dX0_accept_86 rfl rfl ?_
            exact fin_z hF (Nat.le_of_ble_eq_true rfl) (Nat.le_of_ble_eq_true rfl) dX0_accept_87 rfl (by first | with_reducible rfl | (simp [rAccB, rAccP, rRes, bi, setL_s, setL_t, setL_0, dropL_0, dropL_c, *]; done) | (simp only [rAccB, rAccP, rRes, bi, setL_s, setL_t, setL_0, dropL_0, dropL_c]; (repeat' split) <;> first | with_reducible rfl | contradiction | (exfalso; omega) | (simp_all; done)) | rfl) (by first | with_reducible rfl | (simp [rAccB, rAccP, bi, setL_s, setL_t, setL_0, dropL_0, dropL_c, *]; done) | (simp only [rAccB, rAccP, bi, setL_s, setL_t, setL_0, dropL_0, dropL_c]; (repeat' split) <;> first | with_reducible rfl | contradiction | (exfalso; omega) | (simp_all; done)) | rfl)
      · rw [nI_eq (by omega) (by omega)] at q3
        refine ro_aload_n (i := 0) (q := 41) hX dX0_accept_40 rfl rfl rfl ?_
        refine ro_callVi (q9 := 44) hX (s_takesTwo) mw_X0_takesTwo kl_X0_26 (by decide) (fun cy => cell0 (by decide +kernel)) rfl rfl rfl (Nat.le_of_ble_eq_true rfl) ⟨Nat.le_of_ble_eq_true rfl, Nat.le_of_ble_eq_true rfl⟩ dX0_accept_41 ⟨Nat.le_of_ble_eq_true rfl, Nat.le_of_ble_eq_true rfl⟩ rfl ?_
        refine ro_ifb_eq (tgt := 69) (q := 47) hX dX0_accept_44 (by decide) rfl (fun q6 => ?_) (fun q6 => ?_)
        · skip
          refine ro_iload_n (i := 1) (q := 70) hX dX0_accept_69 rfl rfl rfl ?_
          refine ro_bipush (v := nI 59) (q := 72) hX dX0_accept_70 rfl rfl ?_
          refine ro_icmp_ne (tgt := 88) (q := 75) hX dX0_accept_72 (by decide) rfl (fun q7 => ?_) (fun q7 => ?_)
          · rw [nI_eq (by omega) (by omega)] at q7
            refine ro_iconst (v := nI 0) (q := 89) hX dX0_accept_88 rfl rfl ?_
            exact fin_z hF (Nat.le_of_ble_eq_true rfl) (Nat.le_of_ble_eq_true rfl) dX0_accept_89 rfl (by first | with_reducible rfl | (simp [rAccB, rAccP, rRes, bi, setL_s, setL_t, setL_0, dropL_0, dropL_c, *]; done) | (simp only [rAccB, rAccP, rRes, bi, setL_s, setL_t, setL_0, dropL_0, dropL_c]; (repeat' split) <;> first | with_reducible rfl | contradiction | (exfalso; omega) | (simp_all; done)) | rfl) (by first | with_reducible rfl | (simp [rAccB, rAccP, bi, setL_s, setL_t, setL_0, dropL_0, dropL_c, *]; done) | (simp only [rAccB, rAccP, bi, setL_s, setL_t, setL_0, dropL_0, dropL_c]; (repeat' split) <;> first | with_reducible rfl | contradiction | (exfalso; omega) | (simp_all; done)) | rfl)
          · rw [nI_eq (by omega) (by omega)] at q7
            refine ro_aload_n (i := 0) (q := 76) hX dX0_accept_75 rfl rfl rfl ?_
            refine ro_callVi (q9 := 79) hX (s_isComplete) mw_X0_isComplete kl_X0_38 (by decide) (fun cy => cell0 (by decide +kernel)) rfl rfl rfl (Nat.le_of_ble_eq_true rfl) ⟨Nat.le_of_ble_eq_true rfl, Nat.le_of_ble_eq_true rfl⟩ dX0_accept_76 ⟨Nat.le_of_ble_eq_true rfl, Nat.le_of_ble_eq_true rfl⟩ rfl ?_
            refine ro_ifb_eq (tgt := 88) (q := 82) hX dX0_accept_79 (by decide) rfl (fun q8 => ?_) (fun q8 => ?_)
            · skip
              refine ro_iconst (v := nI 0) (q := 89) hX dX0_accept_88 rfl rfl ?_
              exact fin_z hF (Nat.le_of_ble_eq_true rfl) (Nat.le_of_ble_eq_true rfl) dX0_accept_89 rfl (by first | with_reducible rfl | (simp [rAccB, rAccP, rRes, bi, setL_s, setL_t, setL_0, dropL_0, dropL_c, *]; done) | (simp only [rAccB, rAccP, rRes, bi, setL_s, setL_t, setL_0, dropL_0, dropL_c]; (repeat' split) <;> first | with_reducible rfl | contradiction | (exfalso; omega) | (simp_all; done)) | rfl) (by first | with_reducible rfl | (simp [rAccB, rAccP, bi, setL_s, setL_t, setL_0, dropL_0, dropL_c, *]; done) | (simp only [rAccB, rAccP, bi, setL_s, setL_t, setL_0, dropL_0, dropL_c]; (repeat' split) <;> first | with_reducible rfl | contradiction | (exfalso; omega) | (simp_all; done)) | rfl)
            · skip
              refine ro_aload_n (i := 0) (q := 83) hX dX0_accept_82 rfl rfl rfl ?_
              refine ro_callVv (q9 := 86) hX (s_restart) mw_X0_restart kl_X0_41 (by decide) (fun cy => cell0 (by decide +kernel)) rfl rfl rfl (Nat.le_of_ble_eq_true rfl) ⟨Nat.le_of_ble_eq_true rfl, Nat.le_of_ble_eq_true rfl⟩ dX0_accept_83 ⟨Nat.le_of_ble_eq_true rfl, Nat.le_of_ble_eq_true rfl⟩ rfl ?_
              refine ro_iconst (v := nI 1) (q := 87) hX dX0_accept_86 rfl rfl ?_
              exact fin_z hF (Nat.le_of_ble_eq_true rfl) (Nat.le_of_ble_eq_true rfl) dX0_accept_87 rfl (by first | with_reducible rfl | (simp [rAccB, rAccP, rRes, bi, setL_s, setL_t, setL_0, dropL_0, dropL_c, *]; done) | (simp only [rAccB, rAccP, rRes, bi, setL_s, setL_t, setL_0, dropL_0, dropL_c]; (repeat' split) <;> first | with_reducible rfl | contradiction | (exfalso; omega) | (simp_all; done)) | rfl) (by first | with_reducible rfl | (simp [rAccB, rAccP, bi, setL_s, setL_t, setL_0, dropL_0, dropL_c, *]; done) | (simp only [rAccB, rAccP, bi, setL_s, setL_t, setL_0, dropL_0, dropL_c]; (repeat' split) <;> first | with_reducible rfl | contradiction | (exfalso; omega) | (simp_all; done)) | rfl)
        · skip
          refine ro_aload_n (i := 0) (q := 48) hX dX0_accept_47 rfl rfl rfl ?_
          refine ro_Rgi (j := 1) (q9 := 51) (by decide) hX kf_X0_15 dX0_accept_48 rfl ?_
          refine ro_iconst (v := (-1)) (q := 52) hX dX0_accept_51 rfl rfl ?_
          refine ro_icmp_eq (tgt := 69) (q := 55) hX dX0_accept_52 (by decide) rfl (fun q9 => ?_) (fun q9 => ?_)
          · skip
            refine ro_iload_n (i := 1) (q := 70) hX dX0_accept_69 rfl rfl rfl ?_
            refine ro_bipush (v := nI 59) (q := 72) hX dX0_accept_70 rfl rfl ?_
            refine ro_icmp_ne (tgt := 88) (q := 75) hX dX0_accept_72 (by decide) rfl (fun q10 => ?_) (fun q10 => ?_)
            · rw [nI_eq (by omega) (by omega)] at q10
              refine ro_iconst (v := nI 0) (q := 89) hX dX0_accept_88 rfl rfl ?_
              exact fin_z hF (Nat.le_of_ble_eq_true rfl) (Nat.le_of_ble_eq_true rfl) dX0_accept_89 rfl (by first | with_reducible rfl | (simp [rAccB, rAccP, rRes, bi, setL_s, setL_t, setL_0, dropL_0, dropL_c, *]; done) | (simp only [rAccB, rAccP, rRes, bi, setL_s, setL_t, setL_0, dropL_0, dropL_c]; (repeat' split) <;> first | with_reducible rfl | contradiction | (exfalso; omega) | (simp_all; done)) | rfl) (by first | with_reducible rfl | (simp [rAccB, rAccP, bi, setL_s, setL_t, setL_0, dropL_0, dropL_c, *]; done) | (simp only [rAccB, rAccP, bi, setL_s, setL_t, setL_0, dropL_0, dropL_c]; (repeat' split) <;> first | with_reducible rfl | contradiction | (exfalso; omega) | (simp_all; done)) | rfl)
            · rw [nI_eq (by omega) (by omega)] at q10
              refine ro_aload_n (i := 0) (q := 76) hX dX0_accept_75 rfl rfl rfl ?_
              refine ro_callVi (q9 := 79) hX (s_isComplete) mw_X0_isComplete kl_X0_38 (by decide) (fun cy => cell0 (by decide +kernel)) rfl rfl rfl (Nat.le_of_ble_eq_true rfl) ⟨Nat.le_of_ble_eq_true rfl, Nat.le_of_ble_eq_true rfl⟩ dX0_accept_76 ⟨Nat.le_of_ble_eq_true rfl, Nat.le_of_ble_eq_true rfl⟩ rfl ?_
              refine ro_ifb_eq (tgt := 88) (q := 82) hX dX0_accept_79 (by decide) rfl (fun q11 => ?_) (fun q11 => ?_)
              · skip
                refine ro_iconst (v := nI 0) (q := 89) hX dX0_accept_88 rfl rfl ?_
                exact fin_z hF (Nat.le_of_ble_eq_true rfl) (Nat.le_of_ble_eq_true rfl) dX0_accept_89 rfl (by first | with_reducible rfl | (simp [rAccB, rAccP, rRes, bi, setL_s, setL_t, setL_0, dropL_0, dropL_c, *]; done) | (simp only [rAccB, rAccP, rRes, bi, setL_s, setL_t, setL_0, dropL_0, dropL_c]; (repeat' split) <;> first | with_reducible rfl | contradiction | (exfalso; omega) | (simp_all; done)) | rfl) (by first | with_reducible rfl | (simp [rAccB, rAccP, bi, setL_s, setL_t, setL_0, dropL_0, dropL_c, *]; done) | (simp only [rAccB, rAccP, bi, setL_s, setL_t, setL_0, dropL_0, dropL_c]; (repeat' split) <;> first | with_reducible rfl | contradiction | (exfalso; omega) | (simp_all; done)) | rfl)
              · skip
                refine ro_aload_n (i := 0) (q := 83) hX dX0_accept_82 rfl rfl rfl ?_
                refine ro_callVv (q9 := 86) hX (s_restart) mw_X0_restart kl_X0_41 (by decide) (fun cy => cell0 (by decide +kernel)) rfl rfl rfl (Nat.le_of_ble_eq_true rfl) ⟨Nat.le_of_ble_eq_true rfl, Nat.le_of_ble_eq_true rfl⟩ dX0_accept_83 ⟨Nat.le_of_ble_eq_true rfl, Nat.le_of_ble_eq_true rfl⟩ rfl ?_
                refine ro_iconst (v := nI 1) (q := 87) hX dX0_accept_86 rfl rfl ?_
                exact fin_z hF (Nat.le_of_ble_eq_true rfl) (Nat.le_of_ble_eq_true rfl) dX0_accept_87 rfl (by first | with_reducible rfl | (simp [rAccB, rAccP, rRes, bi, setL_s, setL_t, setL_0, dropL_0, dropL_c, *]; done) | (simp only [rAccB, rAccP, rRes, bi, setL_s, setL_t, setL_0, dropL_0, dropL_c]; (repeat' split) <;> first | with_reducible rfl | contradiction | (exfalso; omega) | (simp_all; done)) | rfl) (by first | with_reducible rfl | (simp [rAccB, rAccP, bi, setL_s, setL_t, setL_0, dropL_0, dropL_c, *]; done) | (simp only [rAccB, rAccP, bi, setL_s, setL_t, setL_0, dropL_0, dropL_c]; (repeat' split) <;> first | with_reducible rfl | contradiction | (exfalso; omega) | (simp_all; done)) | rfl)
          · skip
            refine ro_aload_n (i := 0) (q := 56) hX dX0_accept_55 rfl rfl rfl ?_
            refine ro_Rgi (j := 3) (q9 := 59) (by decide) hX kf_X0_22 dX0_accept_56 rfl ?_
            refine ro_if_ne (tgt := 69) (q := 62) hX dX0_accept_59 (by decide) rfl (fun q12 => ?_) (fun q12 => ?_)
            · skip
              refine ro_iload_n (i := 1) (q := 70) hX dX0_accept_69 rfl rfl rfl ?_
              refine ro_bipush (v := nI 59) (q := 72) hX dX0_accept_70 rfl rfl ?_
              refine ro_icmp_ne (tgt := 88) (q := 75) hX dX0_accept_72 (by decide) rfl (fun q13 => ?_) (fun q13 => ?_)
              · rw [nI_eq (by omega) (by omega)] at q13
                refine ro_iconst (v := nI 0) (q := 89) hX dX0_accept_88 rfl rfl ?_
                exact fin_z hF (Nat.le_of_ble_eq_true rfl) (Nat.le_of_ble_eq_true rfl) dX0_accept_89 rfl (by first | with_reducible rfl | (simp [rAccB, rAccP, rRes, bi, setL_s, setL_t, setL_0, dropL_0, dropL_c, *]; done) | (simp only [rAccB, rAccP, rRes, bi, setL_s, setL_t, setL_0, dropL_0, dropL_c]; (repeat' split) <;> first | with_reducible rfl | contradiction | (exfalso; omega) | (simp_all; done)) | rfl) (by first | with_reducible rfl | (simp [rAccB, rAccP, bi, setL_s, setL_t, setL_0, dropL_0, dropL_c, *]; done) | (simp only [rAccB, rAccP, bi, setL_s, setL_t, setL_0, dropL_0, dropL_c]; (repeat' split) <;> first | with_reducible rfl | contradiction | (exfalso; omega) | (simp_all; done)) | rfl)
              · rw [nI_eq (by omega) (by omega)] at q13
                refine ro_aload_n (i := 0) (q := 76) hX dX0_accept_75 rfl rfl rfl ?_
                refine ro_callVi (q9 := 79) hX (s_isComplete) mw_X0_isComplete kl_X0_38 (by decide) (fun cy => cell0 (by decide +kernel)) rfl rfl rfl (Nat.le_of_ble_eq_true rfl) ⟨Nat.le_of_ble_eq_true rfl, Nat.le_of_ble_eq_true rfl⟩ dX0_accept_76 ⟨Nat.le_of_ble_eq_true rfl, Nat.le_of_ble_eq_true rfl⟩ rfl ?_
                refine ro_ifb_eq (tgt := 88) (q := 82) hX dX0_accept_79 (by decide) rfl (fun q14 => ?_) (fun q14 => ?_)
                · skip
                  refine ro_iconst (v := nI 0) (q := 89) hX dX0_accept_88 rfl rfl ?_
                  exact fin_z hF (Nat.le_of_ble_eq_true rfl) (Nat.le_of_ble_eq_true rfl) dX0_accept_89 rfl (by first | with_reducible rfl | (simp [rAccB, rAccP, rRes, bi, setL_s, setL_t, setL_0, dropL_0, dropL_c, *]; done) | (simp only [rAccB, rAccP, rRes, bi, setL_s, setL_t, setL_0, dropL_0, dropL_c]; (repeat' split) <;> first | with_reducible rfl | contradiction | (exfalso; omega) | (simp_all; done)) | rfl) (by first | with_reducible rfl | (simp [rAccB, rAccP, bi, setL_s, setL_t, setL_0, dropL_0, dropL_c, *]; done) | (simp only [rAccB, rAccP, bi, setL_s, setL_t, setL_0, dropL_0, dropL_c]; (repeat' split) <;> first | with_reducible rfl | contradiction | (exfalso; omega) | (simp_all; done)) | rfl)
                · skip
                  refine ro_aload_n (i := 0) (q := 83) hX dX0_accept_82 rfl rfl rfl ?_
                  refine ro_callVv (q9 := 86) hX (s_restart) mw_X0_restart kl_X0_41 (by decide) (fun cy => cell0 (by decide +kernel)) rfl rfl rfl (Nat.le_of_ble_eq_true rfl) ⟨Nat.le_of_ble_eq_true rfl, Nat.le_of_ble_eq_true rfl⟩ dX0_accept_83 ⟨Nat.le_of_ble_eq_true rfl, Nat.le_of_ble_eq_true rfl⟩ rfl ?_
                  refine ro_iconst (v := nI 1) (q := 87) hX dX0_accept_86 rfl rfl ?_
                  exact fin_z hF (Nat.le_of_ble_eq_true rfl) (Nat.le_of_ble_eq_true rfl) dX0_accept_87 rfl (by first | with_reducible rfl | (simp [rAccB, rAccP, rRes, bi, setL_s, setL_t, setL_0, dropL_0, dropL_c, *]; done) | (simp only [rAccB, rAccP, rRes, bi, setL_s, setL_t, setL_0, dropL_0, dropL_c]; (repeat' split) <;> first | with_reducible rfl | contradiction | (exfalso; omega) | (simp_all; done)) | rfl) (by first | with_reducible rfl | (simp [rAccB, rAccP, bi, setL_s, setL_t, setL_0, dropL_0, dropL_c, *]; done) | (simp only [rAccB, rAccP, bi, setL_s, setL_t, setL_0, dropL_0, dropL_c]; (repeat' split) <;> first | with_reducible rfl | contradiction | (exfalso; omega) | (simp_all; done)) | rfl)
            · skip
              refine ro_aload_n (i := 0) (q := 63) hX dX0_accept_62 rfl rfl rfl ?_
              refine ro_iconst (v := nI 1) (q := 64) hX dX0_accept_63 rfl rfl ?_
              refine ro_Rpi (j := 3) (q9 := 67) (ty := .boolean) (by decide) hX rfl rfl rfl kf_X0_22 dX0_accept_64 rfl ?_
              refine ro_iconst (v := nI 1) (q := 68) hX dX0_accept_67 rfl rfl ?_
              exact fin_z hF (Nat.le_of_ble_eq_true rfl) (Nat.le_of_ble_eq_true rfl) dX0_accept_68 rfl (by first | with_reducible rfl | (simp [rAccB, rAccP, rRes, bi, setL_s, setL_t, setL_0, dropL_0, dropL_c, *]; done) | (simp only [rAccB, rAccP, rRes, bi, setL_s, setL_t, setL_0, dropL_0, dropL_c]; (repeat' split) <;> first | with_reducible rfl | contradiction | (exfalso; omega) | (simp_all; done)) | rfl) (by first | with_reducible rfl | (simp [rAccB, rAccP, bi, setL_s, setL_t, setL_0, dropL_0, dropL_c, *]; done) | (simp only [rAccB, rAccP, bi, setL_s, setL_t, setL_0, dropL_0, dropL_c]; (repeat' split) <;> first | with_reducible rfl | contradiction | (exfalso; omega) | (simp_all; done)) | rfl)
    · rw [nI_ltI (by omega) (by omega)] at q2
      refine ro_iload_n (i := 1) (q := 20) hX dX0_accept_19 rfl rfl rfl ?_
      refine ro_bipush (v := nI 57) (q := 22) hX dX0_accept_20 rfl rfl ?_
      refine ro_icmp_gt (tgt := 34) (q := 25) hX dX0_accept_22 (by decide) rfl (fun q15 => ?_) (fun q15 => ?_)
      · rw [nI_ltI (by omega) (by omega)] at q15
        refine ro_iload_n (i := 1) (q := 35) hX dX0_accept_34 rfl rfl rfl ?_
        refine ro_bipush (v := nI 44) (q := 37) hX dX0_accept_35 rfl rfl ?_
        refine ro_icmp_ne (tgt := 69) (q := 40) hX dX0_accept_37 (by decide) rfl (fun q16 => ?_) (fun q16 => ?_)
        · rw [nI_eq (by omega) (by omega)] at q16
          refine ro_iload_n (i := 1) (q := 70) hX dX0_accept_69 rfl rfl rfl ?_
          refine ro_bipush (v := nI 59) (q := 72) hX dX0_accept_70 rfl rfl ?_
          refine ro_icmp_ne (tgt := 88) (q := 75) hX dX0_accept_72 (by decide) rfl (fun q17 => ?_) (fun q17 => ?_)
          · rw [nI_eq (by omega) (by omega)] at q17
            refine ro_iconst (v := nI 0) (q := 89) hX dX0_accept_88 rfl rfl ?_
            exact fin_z hF (Nat.le_of_ble_eq_true rfl) (Nat.le_of_ble_eq_true rfl) dX0_accept_89 rfl (by first | with_reducible rfl | (simp [rAccB, rAccP, rRes, bi, setL_s, setL_t, setL_0, dropL_0, dropL_c, *]; done) | (simp only [rAccB, rAccP, rRes, bi, setL_s, setL_t, setL_0, dropL_0, dropL_c]; (repeat' split) <;> first | with_reducible rfl | contradiction | (exfalso; omega) | (simp_all; done)) | rfl) (by first | with_reducible rfl | (simp [rAccB, rAccP, bi, setL_s, setL_t, setL_0, dropL_0, dropL_c, *]; done) | (simp only [rAccB, rAccP, bi, setL_s, setL_t, setL_0, dropL_0, dropL_c]; (repeat' split) <;> first | with_reducible rfl | contradiction | (exfalso; omega) | (simp_all; done)) | rfl)
          · rw [nI_eq (by omega) (by omega)] at q17
            refine ro_aload_n (i := 0) (q := 76) hX dX0_accept_75 rfl rfl rfl ?_
            refine ro_callVi (q9 := 79) hX (s_isComplete) mw_X0_isComplete kl_X0_38 (by decide) (fun cy => cell0 (by decide +kernel)) rfl rfl rfl (Nat.le_of_ble_eq_true rfl) ⟨Nat.le_of_ble_eq_true rfl, Nat.le_of_ble_eq_true rfl⟩ dX0_accept_76 ⟨Nat.le_of_ble_eq_true rfl, Nat.le_of_ble_eq_true rfl⟩ rfl ?_
            refine ro_ifb_eq (tgt := 88) (q := 82) hX dX0_accept_79 (by decide) rfl (fun q18 => ?_) (fun q18 => ?_)
            · skip
              refine ro_iconst (v := nI 0) (q := 89) hX dX0_accept_88 rfl rfl ?_
              exact fin_z hF (Nat.le_of_ble_eq_true rfl) (Nat.le_of_ble_eq_true rfl) dX0_accept_89 rfl (by first | with_reducible rfl | (simp [rAccB, rAccP, rRes, bi, setL_s, setL_t, setL_0, dropL_0, dropL_c, *]; done) | (simp only [rAccB, rAccP, rRes, bi, setL_s, setL_t, setL_0, dropL_0, dropL_c]; (repeat' split) <;> first | with_reducible rfl | contradiction | (exfalso; omega) | (simp_all; done)) | rfl) (by first | with_reducible rfl | (simp [rAccB, rAccP, bi, setL_s, setL_t, setL_0, dropL_0, dropL_c, *]; done) | (simp only [rAccB, rAccP, bi, setL_s, setL_t, setL_0, dropL_0, dropL_c]; (repeat' split) <;> first | with_reducible rfl | contradiction | (exfalso; omega) | (simp_all; done)) | rfl)
            · skip
              refine ro_aload_n (i := 0) (q := 83) hX dX0_accept_82 rfl rfl rfl ?_
              refine ro_callVv (q9 := 86) hX (s_restart) mw_X0_restart kl_X0_41 (by decide) (fun cy => cell0 (by decide +kernel)) rfl rfl rfl (Nat.le_of_ble_eq_true rfl) ⟨Nat.le_of_ble_eq_true rfl, Nat.le_of_ble_eq_true rfl⟩ dX0_accept_83 ⟨Nat.le_of_ble_eq_true rfl, Nat.le_of_ble_eq_true rfl⟩ rfl ?_
              refine ro_iconst (v := nI 1) (q := 87) hX dX0_accept_86 rfl rfl ?_
              exact fin_z hF (Nat.le_of_ble_eq_true rfl) (Nat.le_of_ble_eq_true rfl) dX0_accept_87 rfl (by first | with_reducible rfl | (simp [rAccB, rAccP, rRes, bi, setL_s, setL_t, setL_0, dropL_0, dropL_c, *]; done) | (simp only [rAccB, rAccP, rRes, bi, setL_s, setL_t, setL_0, dropL_0, dropL_c]; (repeat' split) <;> first | with_reducible rfl | contradiction | (exfalso; omega) | (simp_all; done)) | rfl) (by first | with_reducible rfl | (simp [rAccB, rAccP, bi, setL_s, setL_t, setL_0, dropL_0, dropL_c, *]; done) | (simp only [rAccB, rAccP, bi, setL_s, setL_t, setL_0, dropL_0, dropL_c]; (repeat' split) <;> first | with_reducible rfl | contradiction | (exfalso; omega) | (simp_all; done)) | rfl)
        · rw [nI_eq (by omega) (by omega)] at q16
          refine ro_aload_n (i := 0) (q := 41) hX dX0_accept_40 rfl rfl rfl ?_
          refine ro_callVi (q9 := 44) hX (s_takesTwo) mw_X0_takesTwo kl_X0_26 (by decide) (fun cy => cell0 (by decide +kernel)) rfl rfl rfl (Nat.le_of_ble_eq_true rfl) ⟨Nat.le_of_ble_eq_true rfl, Nat.le_of_ble_eq_true rfl⟩ dX0_accept_41 ⟨Nat.le_of_ble_eq_true rfl, Nat.le_of_ble_eq_true rfl⟩ rfl ?_
          refine ro_ifb_eq (tgt := 69) (q := 47) hX dX0_accept_44 (by decide) rfl (fun q19 => ?_) (fun q19 => ?_)
          · skip
            refine ro_iload_n (i := 1) (q := 70) hX dX0_accept_69 rfl rfl rfl ?_
            refine ro_bipush (v := nI 59) (q := 72) hX dX0_accept_70 rfl rfl ?_
            refine ro_icmp_ne (tgt := 88) (q := 75) hX dX0_accept_72 (by decide) rfl (fun q20 => ?_) (fun q20 => ?_)
            · rw [nI_eq (by omega) (by omega)] at q20
              refine ro_iconst (v := nI 0) (q := 89) hX dX0_accept_88 rfl rfl ?_
              exact fin_z hF (Nat.le_of_ble_eq_true rfl) (Nat.le_of_ble_eq_true rfl) dX0_accept_89 rfl (by first | with_reducible rfl | (simp [rAccB, rAccP, rRes, bi, setL_s, setL_t, setL_0, dropL_0, dropL_c, *]; done) | (simp only [rAccB, rAccP, rRes, bi, setL_s, setL_t, setL_0, dropL_0, dropL_c]; (repeat' split) <;> first | with_reducible rfl | contradiction | (exfalso; omega) | (simp_all; done)) | rfl) (by first | with_reducible rfl | (simp [rAccB, rAccP, bi, setL_s, setL_t, setL_0, dropL_0, dropL_c, *]; done) | (simp only [rAccB, rAccP, bi, setL_s, setL_t, setL_0, dropL_0, dropL_c]; (repeat' split) <;> first | with_reducible rfl | contradiction | (exfalso; omega) | (simp_all; done)) | rfl)
            · rw [nI_eq (by omega) (by omega)] at q20
              refine ro_aload_n (i := 0) (q := 76) hX dX0_accept_75 rfl rfl rfl ?_
              refine ro_callVi (q9 := 79) hX (s_isComplete) mw_X0_isComplete kl_X0_38 (by decide) (fun cy => cell0 (by decide +kernel)) rfl rfl rfl (Nat.le_of_ble_eq_true rfl) ⟨Nat.le_of_ble_eq_true rfl, Nat.le_of_ble_eq_true rfl⟩ dX0_accept_76 ⟨Nat.le_of_ble_eq_true rfl, Nat.le_of_ble_eq_true rfl⟩ rfl ?_
              refine ro_ifb_eq (tgt := 88) (q := 82) hX dX0_accept_79 (by decide) rfl (fun q21 => ?_) (fun q21 => ?_)
              · skip
                refine ro_iconst (v := nI 0) (q := 89) hX dX0_accept_88 rfl rfl ?_
                exact fin_z hF (Nat.le_of_ble_eq_true rfl) (Nat.le_of_ble_eq_true rfl) dX0_accept_89 rfl (by first | with_reducible rfl | (simp [rAccB, rAccP, rRes, bi, setL_s, setL_t, setL_0, dropL_0, dropL_c, *]; done) | (simp only [rAccB, rAccP, rRes, bi, setL_s, setL_t, setL_0, dropL_0, dropL_c]; (repeat' split) <;> first | with_reducible rfl | contradiction | (exfalso; omega) | (simp_all; done)) | rfl) (by first | with_reducible rfl | (simp [rAccB, rAccP, bi, setL_s, setL_t, setL_0, dropL_0, dropL_c, *]; done) | (simp only [rAccB, rAccP, bi, setL_s, setL_t, setL_0, dropL_0, dropL_c]; (repeat' split) <;> first | with_reducible rfl | contradiction | (exfalso; omega) | (simp_all; done)) | rfl)
              · skip
                refine ro_aload_n (i := 0) (q := 83) hX dX0_accept_82 rfl rfl rfl ?_
                refine ro_callVv (q9 := 86) hX (s_restart) mw_X0_restart kl_X0_41 (by decide) (fun cy => cell0 (by decide +kernel)) rfl rfl rfl (Nat.le_of_ble_eq_true rfl) ⟨Nat.le_of_ble_eq_true rfl, Nat.le_of_ble_eq_true rfl⟩ dX0_accept_83 ⟨Nat.le_of_ble_eq_true rfl, Nat.le_of_ble_eq_true rfl⟩ rfl ?_
                refine ro_iconst (v := nI 1) (q := 87) hX dX0_accept_86 rfl rfl ?_
                exact fin_z hF (Nat.le_of_ble_eq_true rfl) (Nat.le_of_ble_eq_true rfl) dX0_accept_87 rfl (by first | with_reducible rfl | (simp [rAccB, rAccP, rRes, bi, setL_s, setL_t, setL_0, dropL_0, dropL_c, *]; done) | (simp only [rAccB, rAccP, rRes, bi, setL_s, setL_t, setL_0, dropL_0, dropL_c]; (repeat' split) <;> first | with_reducible rfl | contradiction | (exfalso; omega) | (simp_all; done)) | rfl) (by first | with_reducible rfl | (simp [rAccB, rAccP, bi, setL_s, setL_t, setL_0, dropL_0, dropL_c, *]; done) | (simp only [rAccB, rAccP, bi, setL_s, setL_t, setL_0, dropL_0, dropL_c]; (repeat' split) <;> first | with_reducible rfl | contradiction | (exfalso; omega) | (simp_all; done)) | rfl)
          · skip
            refine ro_aload_n (i := 0) (q := 48) hX dX0_accept_47 rfl rfl rfl ?_
            refine ro_Rgi (j := 1) (q9 := 51) (by decide) hX kf_X0_15 dX0_accept_48 rfl ?_
            refine ro_iconst (v := (-1)) (q := 52) hX dX0_accept_51 rfl rfl ?_
            refine ro_icmp_eq (tgt := 69) (q := 55) hX dX0_accept_52 (by decide) rfl (fun q22 => ?_) (fun q22 => ?_)
            · skip
              refine ro_iload_n (i := 1) (q := 70) hX dX0_accept_69 rfl rfl rfl ?_
              refine ro_bipush (v := nI 59) (q := 72) hX dX0_accept_70 rfl rfl ?_
              refine ro_icmp_ne (tgt := 88) (q := 75) hX dX0_accept_72 (by decide) rfl (fun q23 => ?_) (fun q23 => ?_)
              · rw [nI_eq (by omega) (by omega)] at q23
                refine ro_iconst (v := nI 0) (q := 89) hX dX0_accept_88 rfl rfl ?_
                exact fin_z hF (Nat.le_of_ble_eq_true rfl) (Nat.le_of_ble_eq_true rfl) dX0_accept_89 rfl (by first | with_reducible rfl | (simp [rAccB, rAccP, rRes, bi, setL_s, setL_t, setL_0, dropL_0, dropL_c, *]; done) | (simp only [rAccB, rAccP, rRes, bi, setL_s, setL_t, setL_0, dropL_0, dropL_c]; (repeat' split) <;> first | with_reducible rfl | contradiction | (exfalso; omega) | (simp_all; done)) | rfl) (by first | with_reducible rfl | (simp [rAccB, rAccP, bi, setL_s, setL_t, setL_0, dropL_0, dropL_c, *]; done) | (simp only [rAccB, rAccP, bi, setL_s, setL_t, setL_0, dropL_0, dropL_c]; (repeat' split) <;> first | with_reducible rfl | contradiction | (exfalso; omega) | (simp_all; done)) | rfl)
              · rw [nI_eq (by omega) (by omega)] at q23
                refine ro_aload_n (i := 0) (q := 76) hX dX0_accept_75 rfl rfl rfl ?_
                refine ro_callVi (q9 := 79) hX (s_isComplete) mw_X0_isComplete kl_X0_38 (by decide) (fun cy => cell0 (by decide +kernel)) rfl rfl rfl (Nat.le_of_ble_eq_true rfl) ⟨Nat.le_of_ble_eq_true rfl, Nat.le_of_ble_eq_true rfl⟩ dX0_accept_76 ⟨Nat.le_of_ble_eq_true rfl, Nat.le_of_ble_eq_true rfl⟩ rfl ?_
                refine ro_ifb_eq (tgt := 88) (q := 82) hX dX0_accept_79 (by decide) rfl (fun q24 => ?_) (fun q24 => ?_)
                · skip
                  refine ro_iconst (v := nI 0) (q := 89) hX dX0_accept_88 rfl rfl ?_
                  exact fin_z hF (Nat.le_of_ble_eq_true rfl) (Nat.le_of_ble_eq_true rfl) dX0_accept_89 rfl (by first | with_reducible rfl | (simp [rAccB, rAccP, rRes, bi, setL_s, setL_t, setL_0, dropL_0, dropL_c, *]; done) | (simp only [rAccB, rAccP, rRes, bi, setL_s, setL_t, setL_0, dropL_0, dropL_c]; (repeat' split) <;> first | with_reducible rfl | contradiction | (exfalso; omega) | (simp_all; done)) | rfl) (by first | with_reducible rfl | (simp [rAccB, rAccP, bi, setL_s, setL_t, setL_0, dropL_0, dropL_c, *]; done) | (simp only [rAccB, rAccP, bi, setL_s, setL_t, setL_0, dropL_0, dropL_c]; (repeat' split) <;> first | with_reducible rfl | contradiction | (exfalso; omega) | (simp_all; done)) | rfl)
                · skip
                  refine ro_aload_n (i := 0) (q := 83) hX dX0_accept_82 rfl rfl rfl ?_
                  refine ro_callVv (q9 := 86) hX (s_restart) mw_X0_restart kl_X0_41 (by decide) (fun cy => cell0 (by decide +kernel)) rfl rfl rfl (Nat.le_of_ble_eq_true rfl) ⟨Nat.le_of_ble_eq_true rfl, Nat.le_of_ble_eq_true rfl⟩ dX0_accept_83 ⟨Nat.le_of_ble_eq_true rfl, Nat.le_of_ble_eq_true rfl⟩ rfl ?_
                  refine ro_iconst (v := nI 1) (q := 87) hX dX0_accept_86 rfl rfl ?_
                  exact fin_z hF (Nat.le_of_ble_eq_true rfl) (Nat.le_of_ble_eq_true rfl) dX0_accept_87 rfl (by first | with_reducible rfl | (simp [rAccB, rAccP, rRes, bi, setL_s, setL_t, setL_0, dropL_0, dropL_c, *]; done) | (simp only [rAccB, rAccP, rRes, bi, setL_s, setL_t, setL_0, dropL_0, dropL_c]; (repeat' split) <;> first | with_reducible rfl | contradiction | (exfalso; omega) | (simp_all; done)) | rfl) (by first | with_reducible rfl | (simp [rAccB, rAccP, bi, setL_s, setL_t, setL_0, dropL_0, dropL_c, *]; done) | (simp only [rAccB, rAccP, bi, setL_s, setL_t, setL_0, dropL_0, dropL_c]; (repeat' split) <;> first | with_reducible rfl | contradiction | (exfalso; omega) | (simp_all; done)) | rfl)
            · skip
              refine ro_aload_n (i := 0) (q := 56) hX dX0_accept_55 rfl rfl rfl ?_
              refine ro_Rgi (j := 3) (q9 := 59) (by decide) hX kf_X0_22 dX0_accept_56 rfl ?_
              refine ro_if_ne (tgt := 69) (q := 62) hX dX0_accept_59 (by decide) rfl (fun q25 => ?_) (fun q25 => ?_)
              · skip
                refine ro_iload_n (i := 1) (q := 70) hX dX0_accept_69 rfl rfl rfl ?_
                refine ro_bipush (v := nI 59) (q := 72) hX dX0_accept_70 rfl rfl ?_
                refine ro_icmp_ne (tgt := 88) (q := 75) hX dX0_accept_72 (by decide) rfl (fun q26 => ?_) (fun q26 => ?_)
                · rw [nI_eq (by omega) (by omega)] at q26
                  refine ro_iconst (v := nI 0) (q := 89) hX dX0_accept_88 rfl rfl ?_
                  exact fin_z hF (Nat.le_of_ble_eq_true rfl) (Nat.le_of_ble_eq_true rfl) dX0_accept_89 rfl (by first | with_reducible rfl | (simp [rAccB, rAccP, rRes, bi, setL_s, setL_t, setL_0, dropL_0, dropL_c, *]; done) | (simp only [rAccB, rAccP, rRes, bi, setL_s, setL_t, setL_0, dropL_0, dropL_c]; (repeat' split) <;> first | with_reducible rfl | contradiction | (exfalso; omega) | (simp_all; done)) | rfl) (by first | with_reducible rfl | (simp [rAccB, rAccP, bi, setL_s, setL_t, setL_0, dropL_0, dropL_c, *]; done) | (simp only [rAccB, rAccP, bi, setL_s, setL_t, setL_0, dropL_0, dropL_c]; (repeat' split) <;> first | with_reducible rfl | contradiction | (exfalso; omega) | (simp_all; done)) | rfl)
                · rw [nI_eq (by omega) (by omega)] at q26
                  refine ro_aload_n (i := 0) (q := 76) hX dX0_accept_75 rfl rfl rfl ?_
                  refine ro_callVi (q9 := 79) hX (s_isComplete) mw_X0_isComplete kl_X0_38 (by decide) (fun cy => cell0 (by decide +kernel)) rfl rfl rfl (Nat.le_of_ble_eq_true rfl) ⟨Nat.le_of_ble_eq_true rfl, Nat.le_of_ble_eq_true rfl⟩ dX0_accept_76 ⟨Nat.le_of_ble_eq_true rfl, Nat.le_of_ble_eq_true rfl⟩ rfl ?_
                  refine ro_ifb_eq (tgt := 88) (q := 82) hX dX0_accept_79 (by decide) rfl (fun q27 => ?_) (fun q27 => ?_)
                  · skip
                    refine ro_iconst (v := nI 0) (q := 89) hX dX0_accept_88 rfl rfl ?_
                    exact fin_z hF (Nat.le_of_ble_eq_true rfl) (Nat.le_of_ble_eq_true rfl) dX0_accept_89 rfl (by first | with_reducible rfl | (simp [rAccB, rAccP, rRes, bi, setL_s, setL_t, setL_0, dropL_0, dropL_c, *]; done) | (simp only [rAccB, rAccP, rRes, bi, setL_s, setL_t, setL_0, dropL_0, dropL_c]; (repeat' split) <;> first | with_reducible rfl | contradiction | (exfalso; omega) | (simp_all; done)) | rfl) (by first | with_reducible rfl | (simp [rAccB, rAccP, bi, setL_s, setL_t, setL_0, dropL_0, dropL_c, *]; done) | (simp only [rAccB, rAccP, bi, setL_s, setL_t, setL_0, dropL_0, dropL_c]; (repeat' split) <;> first | with_reducible rfl | contradiction | (exfalso; omega) | (simp_all; done)) | rfl)
                  · skip
                    refine ro_aload_n (i := 0) (q := 83) hX dX0_accept_82 rfl rfl rfl ?_
                    refine ro_callVv (q9 := 86) hX (s_restart) mw_X0_restart kl_X0_41 (by decide) (fun cy => cell0 (by decide +kernel)) rfl rfl rfl (Nat.le_of_ble_eq_true rfl) ⟨Nat.le_of_ble_eq_true rfl, Nat.le_of_ble_eq_true rfl⟩ dX0_accept_83 ⟨Nat.le_of_ble_eq_true rfl, Nat.le_of_ble_eq_true rfl⟩ rfl ?_
                    refine ro_iconst (v := nI 1) (q := 87) hX dX0_accept_86 rfl rfl ?_
                    exact fin_z hF (Nat.le_of_ble_eq_true rfl) (Nat.le_of_ble_eq_true rfl) dX0_accept_87 rfl (by first | with_reducible rfl | (simp [rAccB, rAccP, rRes, bi, setL_s, setL_t, setL_0, dropL_0, dropL_c, *]; done) | (simp only [rAccB, rAccP, rRes, bi, setL_s, setL_t, setL_0, dropL_0, dropL_c]; (repeat' split) <;> first | with_reducible rfl | contradiction | (exfalso; omega) | (simp_all; done)) | rfl) (by first | with_reducible rfl | (simp [rAccB, rAccP, bi, setL_s, setL_t, setL_0, dropL_0, dropL_c, *]; done) | (simp only [rAccB, rAccP, bi, setL_s, setL_t, setL_0, dropL_0, dropL_c]; (repeat' split) <;> first | with_reducible rfl | contradiction | (exfalso; omega) | (simp_all; done)) | rfl)
              · skip
                refine ro_aload_n (i := 0) (q := 63) hX dX0_accept_62 rfl rfl rfl ?_
                refine ro_iconst (v := nI 1) (q := 64) hX dX0_accept_63 rfl rfl ?_
                refine ro_Rpi (j := 3) (q9 := 67) (ty := .boolean) (by decide) hX rfl rfl rfl kf_X0_22 dX0_accept_64 rfl ?_
                refine ro_iconst (v := nI 1) (q := 68) hX dX0_accept_67 rfl rfl ?_
                exact fin_z hF (Nat.le_of_ble_eq_true rfl) (Nat.le_of_ble_eq_true rfl) dX0_accept_68 rfl (by first | with_reducible rfl | (simp [rAccB, rAccP, rRes, bi, setL_s, setL_t, setL_0, dropL_0, dropL_c, *]; done) | (simp only [rAccB, rAccP, rRes, bi, setL_s, setL_t, setL_0, dropL_0, dropL_c]; (repeat' split) <;> first | with_reducible rfl | contradiction | (exfalso; omega) | (simp_all; done)) | rfl) (by first | with_reducible rfl | (simp [rAccB, rAccP, bi, setL_s, setL_t, setL_0, dropL_0, dropL_c, *]; done) | (simp only [rAccB, rAccP, bi, setL_s, setL_t, setL_0, dropL_0, dropL_c]; (repeat' split) <;> first | with_reducible rfl | contradiction | (exfalso; omega) | (simp_all; done)) | rfl)
      · rw [nI_ltI (by omega) (by omega)] at q15
        refine ro_aload_n (i := 0) (q := 26) hX dX0_accept_25 rfl rfl rfl ?_
        refine ro_iload_n (i := 1) (q := 27) hX dX0_accept_26 rfl rfl rfl ?_
        refine ro_bipush (v := nI 48) (q := 29) hX dX0_accept_27 rfl rfl ?_
        refine ro_isub (q := 30) hX dX0_accept_29 rfl ?_
        refine ro_callVi (q9 := 33) hX (s_acceptDigit) mw_X0_acceptDigit kl_X0_34 (by decide) (fun cy => cell0 (by decide +kernel)) rfl rfl rfl (Nat.le_of_ble_eq_true rfl) ⟨Nat.le_of_ble_eq_true rfl, Nat.le_of_ble_eq_true rfl⟩ dX0_accept_30 ⟨Nat.le_of_ble_eq_true rfl, Nat.le_of_ble_eq_true rfl⟩ rfl ?_
        exact fin_z hF (Nat.le_of_ble_eq_true rfl) (Nat.le_of_ble_eq_true rfl) dX0_accept_33 (bi_nar _) (by first | with_reducible rfl | (simp [rAccB, rAccP, rRes, bi, setL_s, setL_t, setL_0, dropL_0, dropL_c, *]; done) | (simp only [rAccB, rAccP, rRes, bi, setL_s, setL_t, setL_0, dropL_0, dropL_c]; (repeat' split) <;> first | with_reducible rfl | contradiction | (exfalso; omega) | (simp_all; done)) | rfl) (by first | with_reducible rfl | (simp [rAccB, rAccP, bi, setL_s, setL_t, setL_0, dropL_0, dropL_c, *]; done) | (simp only [rAccB, rAccP, bi, setL_s, setL_t, setL_0, dropL_0, dropL_c]; (repeat' split) <;> first | with_reducible rfl | contradiction | (exfalso; omega) | (simp_all; done)) | rfl)
  · skip
    refine ro_aload_n (i := 0) (q := 8) hX dX0_accept_7 rfl rfl rfl ?_
    refine ro_iload_n (i := 1) (q := 9) hX dX0_accept_8 rfl rfl rfl ?_
    refine ro_callVi (q9 := 12) hX (s_acceptLetter hc) mw_X0_acceptLetter kl_X0_30 (by decide) (fun cy => cell0 (by decide +kernel)) rfl rfl rfl (Nat.le_of_ble_eq_true rfl) ⟨Nat.le_of_ble_eq_true rfl, Nat.le_of_ble_eq_true rfl⟩ dX0_accept_9 ⟨Nat.le_of_ble_eq_true rfl, Nat.le_of_ble_eq_true rfl⟩ rfl ?_
    exact fin_z hF (Nat.le_of_ble_eq_true rfl) (Nat.le_of_ble_eq_true rfl) dX0_accept_12 (bi_nar _) (by first | with_reducible rfl | (simp [rAccB, rAccP, rRes, bi, setL_s, setL_t, setL_0, dropL_0, dropL_c, *]; done) | (simp only [rAccB, rAccP, rRes, bi, setL_s, setL_t, setL_0, dropL_0, dropL_c]; (repeat' split) <;> first | with_reducible rfl | contradiction | (exfalso; omega) | (simp_all; done)) | rfl) (by first | with_reducible rfl | (simp [rAccB, rAccP, bi, setL_s, setL_t, setL_0, dropL_0, dropL_c, *]; done) | (simp only [rAccB, rAccP, bi, setL_s, setL_t, setL_0, dropL_0, dropL_c]; (repeat' split) <;> first | with_reducible rfl | contradiction | (exfalso; omega) | (simp_all; done)) | rfl)
end
