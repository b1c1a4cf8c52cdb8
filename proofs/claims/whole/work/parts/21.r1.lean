section
variable {sz r : Nat} {G : Nat → Nat → Int32} {T : (Nat → Nat) × Int64} {f : SV}
set_option maxRecDepth 20000 in
set_option maxHeartbeats 2000000 in
theorem s_restart : Does sz I_X0_restart [.ref (sz + 18)] (patch G 18 1 f, T) 0 0 (.inl none) (patch G 18 1 (rRes f), T) := by
  refine Does.of (L := [(0, .ref (sz + 18))]) (by decide +kernel) (Nat.le_of_ble_eq_true rfl) rfl ⟨rfl, (by simp), trivial⟩ (fun VV hF => ?_)
  have hX := hF.c
  refine ro_aload_n (i := 0) (q := 1) hX dX0_restart_0 rfl rfl rfl ?_
  refine ro_iconst (v := nI 0) (q := 2) hX dX0_restart_1 rfl rfl ?_
  refine ro_Rpi (j := 0) (q9 := 5) (ty := .char) (by decide) hX rfl rfl rfl kf_X0_11 dX0_restart_2 rfl ?_
  refine ro_aload_n (i := 0) (q := 6) hX dX0_restart_5 rfl rfl rfl ?_
  refine ro_iconst (v := (-1)) (q := 7) hX dX0_restart_6 rfl rfl ?_
  refine ro_Rpi (j := 1) (q9 := 10) (ty := .int) (by decide) hX rfl rfl rfl kf_X0_15 dX0_restart_7 rfl ?_
  refine ro_aload_n (i := 0) (q := 11) hX dX0_restart_10 rfl rfl rfl ?_
  refine ro_iconst (v := (-1)) (q := 12) hX dX0_restart_11 rfl rfl ?_
  refine ro_Rpi (j := 2) (q9 := 15) (ty := .int) (by decide) hX rfl rfl rfl kf_X0_19 dX0_restart_12 rfl ?_
  refine ro_aload_n (i := 0) (q := 16) hX dX0_restart_15 rfl rfl rfl ?_
  refine ro_iconst (v := nI 0) (q := 17) hX dX0_restart_16 rfl rfl ?_
  refine ro_Rpi (j := 3) (q9 := 20) (ty := .boolean) (by decide) hX rfl rfl rfl kf_X0_22 dX0_restart_17 rfl ?_
  exact fin_v hF (Nat.le_of_ble_eq_true rfl) (Nat.le_of_ble_eq_true rfl) dX0_restart_20 (by rfl)
set_option maxRecDepth 20000 in
set_option maxHeartbeats 2000000 in
theorem s_takesTwo : Does sz I_X0_takesTwo [.ref (sz + 18)] (patch G 18 1 f, T) 0 0 (.inl (some (bi (rTwo f)))) (patch G 18 1 f, T) := by
  refine Does.of (L := [(0, .ref (sz + 18))]) (by decide +kernel) (Nat.le_of_ble_eq_true rfl) rfl ⟨rfl, (by simp), trivial⟩ (fun VV hF => ?_)
  have hX := hF.c
  refine ro_aload_n (i := 0) (q := 1) hX dX0_takesTwo_0 rfl rfl rfl ?_
  refine ro_Rgi (j := 0) (q9 := 4) (by decide) hX kf_X0_11 dX0_takesTwo_1 rfl ?_
  refine ro_bipush (v := nI 115) (q := 6) hX dX0_takesTwo_4 rfl rfl ?_
  refine ro_icmp_eq (tgt := 36) (q := 9) hX dX0_takesTwo_6 (by decide) rfl (fun q1 => ?_) (fun q1 => ?_)
  · skip
    refine ro_iconst (v := nI 1) (q := 37) hX dX0_takesTwo_36 rfl rfl ?_
    refine ro_goto (tgt := 41) hX dX0_takesTwo_37 (by decide) ?_
    exact fin_z hF (Nat.le_of_ble_eq_true rfl) (Nat.le_of_ble_eq_true rfl) dX0_takesTwo_41 rfl (by first | with_reducible rfl | (simp [rTwo, bi, setL_s, setL_t, setL_0, dropL_0, dropL_c, *]; done) | (simp only [rTwo, bi, setL_s, setL_t, setL_0, dropL_0, dropL_c]; (repeat' split) <;> first | with_reducible rfl | contradiction | (exfalso; omega) | (simp_all; done)) | rfl) (by first | with_reducible rfl | (simp [rTwo, bi, setL_s, setL_t, setL_0, dropL_0, dropL_c, *]; done) | (simp only [rTwo, bi, setL_s, setL_t, setL_0, dropL_0, dropL_c]; (repeat' split) <;> first | with_reducible rfl | contradiction | (exfalso; omega) | (simp_all; done)) | rfl)
  · skip
    refine ro_aload_n (i := 0) (q := 10) hX dX0_takesTwo_9 rfl rfl rfl ?_
    refine ro_Rgi (j := 0) (q9 := 13) (by decide) hX kf_X0_11 dX0_takesTwo_10 rfl ?_
    refine ro_bipush (v := nI 119) (q := 15) hX dX0_takesTwo_13 rfl rfl ?_
    refine ro_icmp_eq (tgt := 36) (q := 18) hX dX0_takesTwo_15 (by decide) rfl (fun q2 => ?_) (fun q2 => ?_)
    · skip
      refine ro_iconst (v := nI 1) (q := 37) hX dX0_takesTwo_36 rfl rfl ?_
      refine ro_goto (tgt := 41) hX dX0_takesTwo_37 (by decide) ?_
      exact fin_z hF (Nat.le_of_ble_eq_true rfl) (Nat.le_of_ble_eq_true rfl) dX0_takesTwo_41 rfl (by first | with_reducible rfl | (simp [rTwo, bi, setL_s, setL_t, setL_0, dropL_0, dropL_c, *]; done) | (simp only [rTwo, bi, setL_s, setL_t, setL_0, dropL_0, dropL_c]; (repeat' split) <;> first | with_reducible rfl | contradiction | (exfalso; omega) | (simp_all; done)) | rfl) (by first | with_reducible rfl | (simp [rTwo, bi, setL_s, setL_t, setL_0, dropL_0, dropL_c, *]; done) | (simp only [rTwo, bi, setL_s, setL_t, setL_0, dropL_0, dropL_c]; (repeat' split) <;> first | with_reducible rfl | contradiction | (exfalso; omega) | (simp_all; done)) | rfl)
    · skip
      refine ro_aload_n (i := 0) (q := 19) hX dX0_takesTwo_18 rfl rfl rfl ?_
      refine ro_Rgi (j := 0) (q9 := 22) (by decide) hX kf_X0_11 dX0_takesTwo_19 rfl ?_
      refine ro_bipush (v := nI 108) (q := 24) hX dX0_takesTwo_22 rfl rfl ?_
      refine ro_icmp_eq (tgt := 36) (q := 27) hX dX0_takesTwo_24 (by decide) rfl (fun q3 => ?_) (fun q3 => ?_)
      · skip
        refine ro_iconst (v := nI 1) (q := 37) hX dX0_takesTwo_36 rfl rfl ?_
        refine ro_goto (tgt := 41) hX dX0_takesTwo_37 (by decide) ?_
        exact fin_z hF (Nat.le_of_ble_eq_true rfl) (Nat.le_of_ble_eq_true rfl) dX0_takesTwo_41 rfl (by first | with_reducible rfl | (simp [rTwo, bi, setL_s, setL_t, setL_0, dropL_0, dropL_c, *]; done) | (simp only [rTwo, bi, setL_s, setL_t, setL_0, dropL_0, dropL_c]; (repeat' split) <;> first | with_reducible rfl | contradiction | (exfalso; omega) | (simp_all; done)) | rfl) (by first | with_reducible rfl | (simp [rTwo, bi, setL_s, setL_t, setL_0, dropL_0, dropL_c, *]; done) | (simp only [rTwo, bi, setL_s, setL_t, setL_0, dropL_0, dropL_c]; (repeat' split) <;> first | with_reducible rfl | contradiction | (exfalso; omega) | (simp_all; done)) | rfl)
      · skip
        refine ro_aload_n (i := 0) (q := 28) hX dX0_takesTwo_27 rfl rfl rfl ?_
        refine ro_Rgi (j := 0) (q9 := 31) (by decide) hX kf_X0_11 dX0_takesTwo_28 rfl ?_
        refine ro_bipush (v := nI 114) (q := 33) hX dX0_takesTwo_31 rfl rfl ?_
        refine ro_icmp_ne (tgt := 40) (q := 36) hX dX0_takesTwo_33 (by decide) rfl (fun q4 => ?_) (fun q4 => ?_)
        · skip
          refine ro_iconst (v := nI 0) (q := 41) hX dX0_takesTwo_40 rfl rfl ?_
          exact fin_z hF (Nat.le_of_ble_eq_true rfl) (Nat.le_of_ble_eq_true rfl) dX0_takesTwo_41 rfl (by first | with_reducible rfl | (simp [rTwo, bi, setL_s, setL_t, setL_0, dropL_0, dropL_c, *]; done) | (simp only [rTwo, bi, setL_s, setL_t, setL_0, dropL_0, dropL_c]; (repeat' split) <;> first | with_reducible rfl | contradiction | (exfalso; omega) | (simp_all; done)) | rfl) (by first | with_reducible rfl | (simp [rTwo, bi, setL_s, setL_t, setL_0, dropL_0, dropL_c, *]; done) | (simp only [rTwo, bi, setL_s, setL_t, setL_0, dropL_0, dropL_c]; (repeat' split) <;> first | with_reducible rfl | contradiction | (exfalso; omega) | (simp_all; done)) | rfl)
        · skip
          refine ro_iconst (v := nI 1) (q := 37) hX dX0_takesTwo_36 rfl rfl ?_
          refine ro_goto (tgt := 41) hX dX0_takesTwo_37 (by decide) ?_
          exact fin_z hF (Nat.le_of_ble_eq_true rfl) (Nat.le_of_ble_eq_true rfl) dX0_takesTwo_41 rfl (by first | with_reducible rfl | (simp [rTwo, bi, setL_s, setL_t, setL_0, dropL_0, dropL_c, *]; done) | (simp only [rTwo, bi, setL_s, setL_t, setL_0, dropL_0, dropL_c]; (repeat' split) <;> first | with_reducible rfl | contradiction | (exfalso; omega) | (simp_all; done)) | rfl) (by first | with_reducible rfl | (simp [rTwo, bi, setL_s, setL_t, setL_0, dropL_0, dropL_c, *]; done) | (simp only [rTwo, bi, setL_s, setL_t, setL_0, dropL_0, dropL_c]; (repeat' split) <;> first | with_reducible rfl | contradiction | (exfalso; omega) | (simp_all; done)) | rfl)
set_option maxRecDepth 20000 in
set_option maxHeartbeats 2000000 in
theorem s_isPageLetter : Does sz I_X0_isPageLetter [.ref (sz + 18)] (patch G 18 1 f, T) 0 0 (.inl (some (bi (rPage f)))) (patch G 18 1 f, T) := by
  refine Does.of (L := [(0, .ref (sz + 18))]) (by decide +kernel) (Nat.le_of_ble_eq_true rfl) rfl ⟨rfl, (by simp), trivial⟩ (fun VV hF => ?_)
  have hX := hF.c
  refine ro_aload_n (i := 0) (q := 1) hX dX0_isPageLetter_0 rfl rfl rfl ?_
  refine ro_Rgi (j := 0) (q9 := 4) (by decide) hX kf_X0_11 dX0_isPageLetter_1 rfl ?_
  refine ro_bipush (v := nI 115) (q := 6) hX dX0_isPageLetter_4 rfl rfl ?_
  refine ro_icmp_eq (tgt := 27) (q := 9) hX dX0_isPageLetter_6 (by decide) rfl (fun q1 => ?_) (fun q1 => ?_)
  · skip
    refine ro_iconst (v := nI 1) (q := 28) hX dX0_isPageLetter_27 rfl rfl ?_
    refine ro_goto (tgt := 32) hX dX0_isPageLetter_28 (by decide) ?_
    exact fin_z hF (Nat.le_of_ble_eq_true rfl) (Nat.le_of_ble_eq_true rfl) dX0_isPageLetter_32 rfl (by first | with_reducible rfl | (simp [rPage, bi, setL_s, setL_t, setL_0, dropL_0, dropL_c, *]; done) | (simp only [rPage, bi, setL_s, setL_t, setL_0, dropL_0, dropL_c]; (repeat' split) <;> first | with_reducible rfl | contradiction | (exfalso; omega) | (simp_all; done)) | rfl) (by first | with_reducible rfl | (simp [rPage, bi, setL_s, setL_t, setL_0, dropL_0, dropL_c, *]; done) | (simp only [rPage, bi, setL_s, setL_t, setL_0, dropL_0, dropL_c]; (repeat' split) <;> first | with_reducible rfl | contradiction | (exfalso; omega) | (simp_all; done)) | rfl)
  · skip
    refine ro_aload_n (i := 0) (q := 10) hX dX0_isPageLetter_9 rfl rfl rfl ?_
    refine ro_Rgi (j := 0) (q9 := 13) (by decide) hX kf_X0_11 dX0_isPageLetter_10 rfl ?_
    refine ro_bipush (v := nI 119) (q := 15) hX dX0_isPageLetter_13 rfl rfl ?_
    refine ro_icmp_eq (tgt := 27) (q := 18) hX dX0_isPageLetter_15 (by decide) rfl (fun q2 => ?_) (fun q2 => ?_)
    · skip
      refine ro_iconst (v := nI 1) (q := 28) hX dX0_isPageLetter_27 rfl rfl ?_
      refine ro_goto (tgt := 32) hX dX0_isPageLetter_28 (by decide) ?_
      exact fin_z hF (Nat.le_of_ble_eq_true rfl) (Nat.le_of_ble_eq_true rfl) dX0_isPageLetter_32 rfl (by first | with_reducible rfl | (simp [rPage, bi, setL_s, setL_t, setL_0, dropL_0, dropL_c, *]; done) | (simp only [rPage, bi, setL_s, setL_t, setL_0, dropL_0, dropL_c]; (repeat' split) <;> first | with_reducible rfl | contradiction | (exfalso; omega) | (simp_all; done)) | rfl) (by first | with_reducible rfl | (simp [rPage, bi, setL_s, setL_t, setL_0, dropL_0, dropL_c, *]; done) | (simp only [rPage, bi, setL_s, setL_t, setL_0, dropL_0, dropL_c]; (repeat' split) <;> first | with_reducible rfl | contradiction | (exfalso; omega) | (simp_all; done)) | rfl)
    · skip
      refine ro_aload_n (i := 0) (q := 19) hX dX0_isPageLetter_18 rfl rfl rfl ?_
      refine ro_Rgi (j := 0) (q9 := 22) (by decide) hX kf_X0_11 dX0_isPageLetter_19 rfl ?_
      refine ro_bipush (v := nI 100) (q := 24) hX dX0_isPageLetter_22 rfl rfl ?_
      refine ro_icmp_ne (tgt := 31) (q := 27) hX dX0_isPageLetter_24 (by decide) rfl (fun q3 => ?_) (fun q3 => ?_)
      · skip
        refine ro_iconst (v := nI 0) (q := 32) hX dX0_isPageLetter_31 rfl rfl ?_
        exact fin_z hF (Nat.le_of_ble_eq_true rfl) (Nat.le_of_ble_eq_true rfl) dX0_isPageLetter_32 rfl (by first | with_reducible rfl | (simp [rPage, bi, setL_s, setL_t, setL_0, dropL_0, dropL_c, *]; done) | (simp only [rPage, bi, setL_s, setL_t, setL_0, dropL_0, dropL_c]; (repeat' split) <;> first | with_reducible rfl | contradiction | (exfalso; omega) | (simp_all; done)) | rfl) (by first | with_reducible rfl | (simp [rPage, bi, setL_s, setL_t, setL_0, dropL_0, dropL_c, *]; done) | (simp only [rPage, bi, setL_s, setL_t, setL_0, dropL_0, dropL_c]; (repeat' split) <;> first | with_reducible rfl | contradiction | (exfalso; omega) | (simp_all; done)) | rfl)
      · skip
        refine ro_iconst (v := nI 1) (q := 28) hX dX0_isPageLetter_27 rfl rfl ?_
        refine ro_goto (tgt := 32) hX dX0_isPageLetter_28 (by decide) ?_
        exact fin_z hF (Nat.le_of_ble_eq_true rfl) (Nat.le_of_ble_eq_true rfl) dX0_isPageLetter_32 rfl (by first | with_reducible rfl | (simp [rPage, bi, setL_s, setL_t, setL_0, dropL_0, dropL_c, *]; done) | (simp only [rPage, bi, setL_s, setL_t, setL_0, dropL_0, dropL_c]; (repeat' split) <;> first | with_reducible rfl | contradiction | (exfalso; omega) | (simp_all; done)) | rfl) (by first | with_reducible rfl | (simp [rPage, bi, setL_s, setL_t, setL_0, dropL_0, dropL_c, *]; done) | (simp only [rPage, bi, setL_s, setL_t, setL_0, dropL_0, dropL_c]; (repeat' split) <;> first | with_reducible rfl | contradiction | (exfalso; omega) | (simp_all; done)) | rfl)
set_option maxRecDepth 20000 in
set_option maxHeartbeats 2000000 in
theorem s_isComplete : Does sz I_X0_isComplete [.ref (sz + 18)] (patch G 18 1 f, T) 0 0 (.inl (some (bi (rCmp f)))) (patch G 18 1 f, T) := by
  refine Does.of (L := [(0, .ref (sz + 18))]) (by decide +kernel) (Nat.le_of_ble_eq_true rfl) rfl ⟨rfl, (by simp), trivial⟩ (fun VV hF => ?_)
  have hX := hF.c
  refine ro_aload_n (i := 0) (q := 1) hX dX0_isComplete_0 rfl rfl rfl ?_
  refine ro_callVi (q9 := 4) hX (s_takesTwo) mw_X0_takesTwo kl_X0_26 (by decide) (fun cy => cell0 (by decide +kernel)) rfl rfl rfl (Nat.le_of_ble_eq_true rfl) ⟨Nat.le_of_ble_eq_true rfl, Nat.le_of_ble_eq_true rfl⟩ dX0_isComplete_1 ⟨Nat.le_of_ble_eq_true rfl, Nat.le_of_ble_eq_true rfl⟩ rfl ?_
  refine ro_ifb_eq (tgt := 23) (q := 7) hX dX0_isComplete_4 (by decide) rfl (fun q1 => ?_) (fun q1 => ?_)
  · skip
    refine ro_aload_n (i := 0) (q := 24) hX dX0_isComplete_23 rfl rfl rfl ?_
    refine ro_Rgi (j := 1) (q9 := 27) (by decide) hX kf_X0_15 dX0_isComplete_24 rfl ?_
    refine ro_iconst (v := (-1)) (q := 28) hX dX0_isComplete_27 rfl rfl ?_
    refine ro_icmp_eq (tgt := 35) (q := 31) hX dX0_isComplete_28 (by decide) rfl (fun q2 => ?_) (fun q2 => ?_)
    · skip
      refine ro_iconst (v := nI 0) (q := 36) hX dX0_isComplete_35 rfl rfl ?_
      exact fin_z hF (Nat.le_of_ble_eq_true rfl) (Nat.le_of_ble_eq_true rfl) dX0_isComplete_36 rfl (by first | with_reducible rfl | (simp [rCmp, bi, setL_s, setL_t, setL_0, dropL_0, dropL_c, *]; done) | (simp only [rCmp, bi, setL_s, setL_t, setL_0, dropL_0, dropL_c]; (repeat' split) <;> first | with_reducible rfl | contradiction | (exfalso; omega) | (simp_all; done)) | rfl) (by first | with_reducible rfl | (simp [rCmp, bi, setL_s, setL_t, setL_0, dropL_0, dropL_c, *]; done) | (simp only [rCmp, bi, setL_s, setL_t, setL_0, dropL_0, dropL_c]; (repeat' split) <;> first | with_reducible rfl | contradiction | (exfalso; omega) | (simp_all; done)) | rfl)
    · skip
      refine ro_iconst (v := nI 1) (q := 32) hX dX0_isComplete_31 rfl rfl ?_
      refine ro_goto (tgt := 36) hX dX0_isComplete_32 (by decide) ?_
      exact fin_z hF (Nat.le_of_ble_eq_true rfl) (Nat.le_of_ble_eq_true rfl) dX0_isComplete_36 rfl (by first | with_reducible rfl | (simp [rCmp, bi, setL_s, setL_t, setL_0, dropL_0, dropL_c, *]; done) | (simp only [rCmp, bi, setL_s, setL_t, setL_0, dropL_0, dropL_c]; (repeat' split) <;> first | with_reducible rfl | contradiction | (exfalso; omega) | (simp_all; done)) | rfl) (by first | with_reducible rfl | (simp [rCmp, bi, setL_s, setL_t, setL_0, dropL_0, dropL_c, *]; done) | (simp only [rCmp, bi, setL_s, setL_t, setL_0, dropL_0, dropL_c]; (repeat' split) <;> first | with_reducible rfl | contradiction | (exfalso; omega) | (simp_all; done)) | rfl)
  · skip
    refine ro_aload_n (i := 0) (q := 8) hX dX0_isComplete_7 rfl rfl rfl ?_
    refine ro_Rgi (j := 2) (q9 := 11) (by decide) hX kf_X0_19 dX0_isComplete_8 rfl ?_
    refine ro_iconst (v := (-1)) (q := 12) hX dX0_isComplete_11 rfl rfl ?_
    refine ro_icmp_eq (tgt := 19) (q := 15) hX dX0_isComplete_12 (by decide) rfl (fun q3 => ?_) (fun q3 => ?_)
    · skip
      refine ro_iconst (v := nI 0) (q := 20) hX dX0_isComplete_19 rfl rfl ?_
      refine ro_goto (tgt := 36) hX dX0_isComplete_20 (by decide) ?_
      exact fin_z hF (Nat.le_of_ble_eq_true rfl) (Nat.le_of_ble_eq_true rfl) dX0_isComplete_36 rfl (by first | with_reducible rfl | (simp [rCmp, bi, setL_s, setL_t, setL_0, dropL_0, dropL_c, *]; done) | (simp only [rCmp, bi, setL_s, setL_t, setL_0, dropL_0, dropL_c]; (repeat' split) <;> first | with_reducible rfl | contradiction | (exfalso; omega) | (simp_all; done)) | rfl) (by first | with_reducible rfl | (simp [rCmp, bi, setL_s, setL_t, setL_0, dropL_0, dropL_c, *]; done) | (simp only [rCmp, bi, setL_s, setL_t, setL_0, dropL_0, dropL_c]; (repeat' split) <;> first | with_reducible rfl | contradiction | (exfalso; omega) | (simp_all; done)) | rfl)
    · skip
      refine ro_iconst (v := nI 1) (q := 16) hX dX0_isComplete_15 rfl rfl ?_
      refine ro_goto (tgt := 36) hX dX0_isComplete_16 (by decide) ?_
      exact fin_z hF (Nat.le_of_ble_eq_true rfl) (Nat.le_of_ble_eq_true rfl) dX0_isComplete_36 rfl (by first | with_reducible rfl | (simp [rCmp, bi, setL_s, setL_t, setL_0, dropL_0, dropL_c, *]; done) | (simp only [rCmp, bi, setL_s, setL_t, setL_0, dropL_0, dropL_c]; (repeat' split) <;> first | with_reducible rfl | contradiction | (exfalso; omega) | (simp_all; done)) | rfl) (by first | with_reducible rfl | (simp [rCmp, bi, setL_s, setL_t, setL_0, dropL_0, dropL_c, *]; done) | (simp only [rCmp, bi, setL_s, setL_t, setL_0, dropL_0, dropL_c]; (repeat' split) <;> first | with_reducible rfl | contradiction | (exfalso; omega) | (simp_all; done)) | rfl)
set_option maxRecDepth 20000 in
set_option maxHeartbeats 2000000 in
theorem s_least : Does sz I_X0_least [.ref (sz + 18)] (patch G 18 1 f, T) 0 0 (.inl (some (rLeast f))) (patch G 18 1 f, T) := by
  refine Does.of (L := [(0, .ref (sz + 18))]) (by decide +kernel) (Nat.le_of_ble_eq_true rfl) rfl ⟨rfl, (by simp), trivial⟩ (fun VV hF => ?_)
  have hX := hF.c
  refine ro_aload_n (i := 0) (q := 1) hX dX0_least_0 rfl rfl rfl ?_
  refine ro_Rgi (j := 0) (q9 := 4) (by decide) hX kf_X0_11 dX0_least_1 rfl ?_
  refine ro_bipush (v := nI 116) (q := 6) hX dX0_least_4 rfl rfl ?_
  refine ro_icmp_ne (tgt := 11) (q := 9) hX dX0_least_6 (by decide) rfl (fun q1 => ?_) (fun q1 => ?_)
  · skip
    refine ro_aload_n (i := 0) (q := 12) hX dX0_least_11 rfl rfl rfl ?_
    refine ro_Rgi (j := 3) (q9 := 15) (by decide) hX kf_X0_22 dX0_least_12 rfl ?_
    refine ro_if_eq (tgt := 29) (q := 18) hX dX0_least_15 (by decide) rfl (fun q2 => ?_) (fun q2 => ?_)
    · skip
      refine ro_iconst (v := nI 0) (q := 30) hX dX0_least_29 rfl rfl ?_
      exact fin_i hF (Nat.le_of_ble_eq_true rfl) (Nat.le_of_ble_eq_true rfl) dX0_least_30 (by first | with_reducible rfl | (simp [rLeast, setL_s, setL_t, setL_0, dropL_0, dropL_c, *]; done) | (simp only [rLeast, setL_s, setL_t, setL_0, dropL_0, dropL_c]; (repeat' split) <;> first | with_reducible rfl | contradiction | (exfalso; omega) | (simp_all; done)) | rfl) (by first | with_reducible rfl | (simp [rLeast, setL_s, setL_t, setL_0, dropL_0, dropL_c, *]; done) | (simp only [rLeast, setL_s, setL_t, setL_0, dropL_0, dropL_c]; (repeat' split) <;> first | with_reducible rfl | contradiction | (exfalso; omega) | (simp_all; done)) | rfl)
    · skip
      refine ro_aload_n (i := 0) (q := 19) hX dX0_least_18 rfl rfl rfl ?_
      refine ro_callVi (q9 := 22) hX (s_isPageLetter) mw_X0_isPageLetter kl_X0_51 (by decide) (fun cy => cell0 (by decide +kernel)) rfl rfl rfl (Nat.le_of_ble_eq_true rfl) ⟨Nat.le_of_ble_eq_true rfl, Nat.le_of_ble_eq_true rfl⟩ dX0_least_19 ⟨Nat.le_of_ble_eq_true rfl, Nat.le_of_ble_eq_true rfl⟩ rfl ?_
      refine ro_ifb_ne (tgt := 29) (q := 25) hX dX0_least_22 (by decide) rfl (fun q3 => ?_) (fun q3 => ?_)
      · skip
        refine ro_iconst (v := nI 0) (q := 30) hX dX0_least_29 rfl rfl ?_
        exact fin_i hF (Nat.le_of_ble_eq_true rfl) (Nat.le_of_ble_eq_true rfl) dX0_least_30 (by first | with_reducible rfl | (simp [rLeast, setL_s, setL_t, setL_0, dropL_0, dropL_c, *]; done) | (simp only [rLeast, setL_s, setL_t, setL_0, dropL_0, dropL_c]; (repeat' split) <;> first | with_reducible rfl | contradiction | (exfalso; omega) | (simp_all; done)) | rfl) (by first | with_reducible rfl | (simp [rLeast, setL_s, setL_t, setL_0, dropL_0, dropL_c, *]; done) | (simp only [rLeast, setL_s, setL_t, setL_0, dropL_0, dropL_c]; (repeat' split) <;> first | with_reducible rfl | contradiction | (exfalso; omega) | (simp_all; done)) | rfl)
      · skip
        refine ro_iconst (v := nI 1) (q := 26) hX dX0_least_25 rfl rfl ?_
        refine ro_goto (tgt := 30) hX dX0_least_26 (by decide) ?_
        exact fin_i hF (Nat.le_of_ble_eq_true rfl) (Nat.le_of_ble_eq_true rfl) dX0_least_30 (by first | with_reducible rfl | (simp [rLeast, setL_s, setL_t, setL_0, dropL_0, dropL_c, *]; done) | (simp only [rLeast, setL_s, setL_t, setL_0, dropL_0, dropL_c]; (repeat' split) <;> first | with_reducible rfl | contradiction | (exfalso; omega) | (simp_all; done)) | rfl) (by first | with_reducible rfl | (simp [rLeast, setL_s, setL_t, setL_0, dropL_0, dropL_c, *]; done) | (simp only [rLeast, setL_s, setL_t, setL_0, dropL_0, dropL_c]; (repeat' split) <;> first | with_reducible rfl | contradiction | (exfalso; omega) | (simp_all; done)) | rfl)
  · skip
    refine ro_iconst (v := nI 1) (q := 10) hX dX0_least_9 rfl rfl ?_
    exact fin_i hF (Nat.le_of_ble_eq_true rfl) (Nat.le_of_ble_eq_true rfl) dX0_least_10 (by first | with_reducible rfl | (simp [rLeast, setL_s, setL_t, setL_0, dropL_0, dropL_c, *]; done) | (simp only [rLeast, setL_s, setL_t, setL_0, dropL_0, dropL_c]; (repeat' split) <;> first | with_reducible rfl | contradiction | (exfalso; omega) | (simp_all; done)) | rfl) (by first | with_reducible rfl | (simp [rLeast, setL_s, setL_t, setL_0, dropL_0, dropL_c, *]; done) | (simp only [rLeast, setL_s, setL_t, setL_0, dropL_0, dropL_c]; (repeat' split) <;> first | with_reducible rfl | contradiction | (exfalso; omega) | (simp_all; done)) | rfl)
set_option maxRecDepth 20000 in
set_option maxHeartbeats 2000000 in
theorem s_most : Does sz I_X0_most [.ref (sz + 18)] (patch G 18 1 f, T) 0 0 (.inl (some (rMost f))) (patch G 18 1 f, T) := by
  refine Does.of (L := [(0, .ref (sz + 18))]) (by decide +kernel) (Nat.le_of_ble_eq_true rfl) rfl ⟨rfl, (by simp), trivial⟩ (fun VV hF => ?_)
  have hX := hF.c
  refine ro_aload_n (i := 0) (q := 1) hX dX0_most_0 rfl rfl rfl ?_
  refine ro_Rgi (j := 0) (q9 := 4) (by decide) hX kf_X0_11 dX0_most_1 rfl ?_
  refine ro_bipush (v := nI 116) (q := 6) hX dX0_most_4 rfl rfl ?_
  refine ro_icmp_eq (tgt := 25) (q := 9) hX dX0_most_6 (by decide) rfl (fun q1 => ?_) (fun q1 => ?_)
  · skip
    refine ro_sipush (v := nI 600) (q := 28) hX dX0_most_25 rfl rfl ?_
    exact fin_i hF (Nat.le_of_ble_eq_true rfl) (Nat.le_of_ble_eq_true rfl) dX0_most_28 (by first | with_reducible rfl | (simp [rMost, setL_s, setL_t, setL_0, dropL_0, dropL_c, *]; done) | (simp only [rMost, setL_s, setL_t, setL_0, dropL_0, dropL_c]; (repeat' split) <;> first | with_reducible rfl | contradiction | (exfalso; omega) | (simp_all; done)) | rfl) (by first | with_reducible rfl | (simp [rMost, setL_s, setL_t, setL_0, dropL_0, dropL_c, *]; done) | (simp only [rMost, setL_s, setL_t, setL_0, dropL_0, dropL_c]; (repeat' split) <;> first | with_reducible rfl | contradiction | (exfalso; omega) | (simp_all; done)) | rfl)
  · skip
    refine ro_aload_n (i := 0) (q := 10) hX dX0_most_9 rfl rfl rfl ?_
    refine ro_Rgi (j := 3) (q9 := 13) (by decide) hX kf_X0_22 dX0_most_10 rfl ?_
    refine ro_if_eq (tgt := 29) (q := 16) hX dX0_most_13 (by decide) rfl (fun q2 => ?_) (fun q2 => ?_)
    · skip
      refine ro_aload_n (i := 0) (q := 30) hX dX0_most_29 rfl rfl rfl ?_
      refine ro_Rgi (j := 3) (q9 := 33) (by decide) hX kf_X0_22 dX0_most_30 rfl ?_
      refine ro_if_eq (tgt := 52) (q := 36) hX dX0_most_33 (by decide) rfl (fun q3 => ?_) (fun q3 => ?_)
      · skip
        refine ro_aload_n (i := 0) (q := 53) hX dX0_most_52 rfl rfl rfl ?_
        refine ro_callVi (q9 := 56) hX (s_isPageLetter) mw_X0_isPageLetter kl_X0_51 (by decide) (fun cy => cell0 (by decide +kernel)) rfl rfl rfl (Nat.le_of_ble_eq_true rfl) ⟨Nat.le_of_ble_eq_true rfl, Nat.le_of_ble_eq_true rfl⟩ dX0_most_53 ⟨Nat.le_of_ble_eq_true rfl, Nat.le_of_ble_eq_true rfl⟩ rfl ?_
        refine ro_ifb_eq (tgt := 64) (q := 59) hX dX0_most_56 (by decide) rfl (fun q4 => ?_) (fun q4 => ?_)
        · skip
          refine ro_iconst (v := nI 5) (q := 65) hX dX0_most_64 rfl rfl ?_
          exact fin_i hF (Nat.le_of_ble_eq_true rfl) (Nat.le_of_ble_eq_true rfl) dX0_most_65 (by first | with_reducible rfl | (simp [rMost, setL_s, setL_t, setL_0, dropL_0, dropL_c, *]; done) | (simp only [rMost, setL_s, setL_t, setL_0, dropL_0, dropL_c]; (repeat' split) <;> first | with_reducible rfl | contradiction | (exfalso; omega) | (simp_all; done)) | rfl) (by first | with_reducible rfl | (simp [rMost, setL_s, setL_t, setL_0, dropL_0, dropL_c, *]; done) | (simp only [rMost, setL_s, setL_t, setL_0, dropL_0, dropL_c]; (repeat' split) <;> first | with_reducible rfl | contradiction | (exfalso; omega) | (simp_all; done)) | rfl)
        · skip
          refine ro_bipush (v := nI 29) (q := 61) hX dX0_most_59 rfl rfl ?_
          refine ro_goto (tgt := 65) hX dX0_most_61 (by decide) ?_
          exact fin_i hF (Nat.le_of_ble_eq_true rfl) (Nat.le_of_ble_eq_true rfl) dX0_most_65 (by first | with_reducible rfl | (simp [rMost, setL_s, setL_t, setL_0, dropL_0, dropL_c, *]; done) | (simp only [rMost, setL_s, setL_t, setL_0, dropL_0, dropL_c]; (repeat' split) <;> first | with_reducible rfl | contradiction | (exfalso; omega) | (simp_all; done)) | rfl) (by first | with_reducible rfl | (simp [rMost, setL_s, setL_t, setL_0, dropL_0, dropL_c, *]; done) | (simp only [rMost, setL_s, setL_t, setL_0, dropL_0, dropL_c]; (repeat' split) <;> first | with_reducible rfl | contradiction | (exfalso; omega) | (simp_all; done)) | rfl)
      · skip
        refine ro_aload_n (i := 0) (q := 37) hX dX0_most_36 rfl rfl rfl ?_
        refine ro_callVi (q9 := 40) hX (s_isPageLetter) mw_X0_isPageLetter kl_X0_51 (by decide) (fun cy => cell0 (by decide +kernel)) rfl rfl rfl (Nat.le_of_ble_eq_true rfl) ⟨Nat.le_of_ble_eq_true rfl, Nat.le_of_ble_eq_true rfl⟩ dX0_most_37 ⟨Nat.le_of_ble_eq_true rfl, Nat.le_of_ble_eq_true rfl⟩ rfl ?_
        refine ro_ifb_eq (tgt := 49) (q := 43) hX dX0_most_40 (by decide) rfl (fun q5 => ?_) (fun q5 => ?_)
        · skip
          refine ro_bipush (v := nI 20) (q := 51) hX dX0_most_49 rfl rfl ?_
          exact fin_i hF (Nat.le_of_ble_eq_true rfl) (Nat.le_of_ble_eq_true rfl) dX0_most_51 (by first | with_reducible rfl | (simp [rMost, setL_s, setL_t, setL_0, dropL_0, dropL_c, *]; done) | (simp only [rMost, setL_s, setL_t, setL_0, dropL_0, dropL_c]; (repeat' split) <;> first | with_reducible rfl | contradiction | (exfalso; omega) | (simp_all; done)) | rfl) (by first | with_reducible rfl | (simp [rMost, setL_s, setL_t, setL_0, dropL_0, dropL_c, *]; done) | (simp only [rMost, setL_s, setL_t, setL_0, dropL_0, dropL_c]; (repeat' split) <;> first | with_reducible rfl | contradiction | (exfalso; omega) | (simp_all; done)) | rfl)
        · skip
          refine ro_sipush (v := nI 9999) (q := 46) hX dX0_most_43 rfl rfl ?_
          refine ro_goto (tgt := 51) hX dX0_most_46 (by decide) ?_
          exact fin_i hF (Nat.le_of_ble_eq_true rfl) (Nat.le_of_ble_eq_true rfl) dX0_most_51 (by first | with_reducible rfl | (simp [rMost, setL_s, setL_t, setL_0, dropL_0, dropL_c, *]; done) | (simp only [rMost, setL_s, setL_t, setL_0, dropL_0, dropL_c]; (repeat' split) <;> first | with_reducible rfl | contradiction | (exfalso; omega) | (simp_all; done)) | rfl) (by first | with_reducible rfl | (simp [rMost, setL_s, setL_t, setL_0, dropL_0, dropL_c, *]; done) | (simp only [rMost, setL_s, setL_t, setL_0, dropL_0, dropL_c]; (repeat' split) <;> first | with_reducible rfl | contradiction | (exfalso; omega) | (simp_all; done)) | rfl)
    · skip
      refine ro_aload_n (i := 0) (q := 17) hX dX0_most_16 rfl rfl rfl ?_
      refine ro_Rgi (j := 0) (q9 := 20) (by decide) hX kf_X0_11 dX0_most_17 rfl ?_
      refine ro_bipush (v := nI 114) (q := 22) hX dX0_most_20 rfl rfl ?_
      refine ro_icmp_ne (tgt := 29) (q := 25) hX dX0_most_22 (by decide) rfl (fun q6 => ?_) (fun q6 => ?_)
      · skip
        refine ro_aload_n (i := 0) (q := 30) hX dX0_most_29 rfl rfl rfl ?_
        refine ro_Rgi (j := 3) (q9 := 33) (by decide) hX kf_X0_22 dX0_most_30 rfl ?_
        refine ro_if_eq (tgt := 52) (q := 36) hX dX0_most_33 (by decide) rfl (fun q7 => ?_) (fun q7 => ?_)
        · skip
          refine ro_aload_n (i := 0) (q := 53) hX dX0_most_52 rfl rfl rfl ?_
          refine ro_callVi (q9 := 56) hX (s_isPageLetter) mw_X0_isPageLetter kl_X0_51 (by decide) (fun cy => cell0 (by decide +kernel)) rfl rfl rfl (Nat.le_of_ble_eq_true rfl) ⟨Nat.le_of_ble_eq_true rfl, Nat.le_of_ble_eq_true rfl⟩ dX0_most_53 ⟨Nat.le_of_ble_eq_true rfl, Nat.le_of_ble_eq_true rfl⟩ rfl ?_
          refine ro_ifb_eq (tgt := 64) (q := 59) hX dX0_most_56 (by decide) rfl (fun q8 => ?_) (fun q8 => ?_)
          · skip
            refine ro_iconst (v := nI 5) (q := 65) hX dX0_most_64 rfl rfl ?_
            exact fin_i hF (Nat.le_of_ble_eq_true rfl) (Nat.le_of_ble_eq_true rfl) dX0_most_65 (by first | with_reducible rfl | (simp [rMost, setL_s, setL_t, setL_0, dropL_0, dropL_c, *]; done) | (simp only [rMost, setL_s, setL_t, setL_0, dropL_0, dropL_c]; (repeat' split) <;> first | with_reducible rfl | contradiction | (exfalso; omega) | (simp_all; done)) | rfl) (by first | with_reducible rfl | (simp [rMost, setL_s, setL_t, setL_0, dropL_0, dropL_c, *]; done) | (simp only [rMost, setL_s, setL_t, setL_0, dropL_0, dropL_c]; (repeat' split) <;> first | with_reducible rfl | contradiction | (exfalso; omega) | (simp_all; done)) | rfl)
          · skip
            refine ro_bipush (v := nI 29) (q := 61) hX dX0_most_59 rfl rfl ?_
            refine ro_goto (tgt := 65) hX dX0_most_61 (by decide) ?_
            exact fin_i hF (Nat.le_of_ble_eq_true rfl) (Nat.le_of_ble_eq_true rfl) dX0_most_65 (by first | with_reducible rfl | (simp [rMost, setL_s, setL_t, setL_0, dropL_0, dropL_c, *]; done) | (simp only [rMost, setL_s, setL_t, setL_0, dropL_0, dropL_c]; (repeat' split) <;> first | with_reducible rfl | contradiction | (exfalso; omega) | (simp_all; done)) | rfl) (by first | with_reducible rfl | (simp [rMost, setL_s, setL_t, setL_0, dropL_0, dropL_c, *]; done) | (simp only [rMost, setL_s, setL_t, setL_0, dropL_0, dropL_c]; (repeat' split) <;> first | with_reducible rfl | contradiction | (exfalso; omega) | (simp_all; done)) | rfl)
        · skip
          refine ro_aload_n (i := 0) (q := 37) hX dX0_most_36 rfl rfl rfl ?_
          refine ro_callVi (q9 := 40) hX (s_isPageLetter) mw_X0_isPageLetter kl_X0_51 (by decide) (fun cy => cell0 (by decide +kernel)) rfl rfl rfl (Nat.le_of_ble_eq_true rfl) ⟨Nat.le_of_ble_eq_true rfl, Nat.le_of_ble_eq_true rfl⟩ dX0_most_37 ⟨Nat.le_of_ble_eq_true rfl, Nat.le_of_ble_eq_true rfl⟩ rfl ?_
          refine ro_ifb_eq (tgt := 49) (q := 43) hX dX0_most_40 (by decide) rfl (fun q9 => ?_) (fun q9 => ?_)
          · skip
            refine ro_bipush (v := nI 20) (q := 51) hX dX0_most_49 rfl rfl ?_
            exact fin_i hF (Nat.le_of_ble_eq_true rfl) (Nat.le_of_ble_eq_true rfl) dX0_most_51 (by first | with_reducible rfl | (simp [rMost, setL_s, setL_t, setL_0, dropL_0, dropL_c, *]; done) | (simp only [rMost, setL_s, setL_t, setL_0, dropL_0, dropL_c]; (repeat' split) <;> first | with_reducible rfl | contradiction | (exfalso; omega) | (simp_all; done)) | rfl) (by first | with_reducible rfl | (simp [rMost, setL_s, setL_t, setL_0, dropL_0, dropL_c, *]; done) | (simp only [rMost, setL_s, setL_t, setL_0, dropL_0, dropL_c]; (repeat' split) <;> first | with_reducible rfl | contradiction | (exfalso; omega) | (simp_all; done)) | rfl)
          · skip
            refine ro_sipush (v := nI 9999) (q := 46) hX dX0_most_43 rfl rfl ?_
            refine ro_goto (tgt := 51) hX dX0_most_46 (by decide) ?_
            exact fin_i hF (Nat.le_of_ble_eq_true rfl) (Nat.le_of_ble_eq_true rfl) dX0_most_51 (by first | with_reducible rfl | (simp [rMost, setL_s, setL_t, setL_0, dropL_0, dropL_c, *]; done) | (simp only [rMost, setL_s, setL_t, setL_0, dropL_0, dropL_c]; (repeat' split) <;> first | with_reducible rfl | contradiction | (exfalso; omega) | (simp_all; done)) | rfl) (by first | with_reducible rfl | (simp [rMost, setL_s, setL_t, setL_0, dropL_0, dropL_c, *]; done) | (simp only [rMost, setL_s, setL_t, setL_0, dropL_0, dropL_c]; (repeat' split) <;> first | with_reducible rfl | contradiction | (exfalso; omega) | (simp_all; done)) | rfl)
      · skip
        refine ro_sipush (v := nI 600) (q := 28) hX dX0_most_25 rfl rfl ?_
        exact fin_i hF (Nat.le_of_ble_eq_true rfl) (Nat.le_of_ble_eq_true rfl) dX0_most_28 (by first | with_reducible rfl | (simp [rMost, setL_s, setL_t, setL_0, dropL_0, dropL_c, *]; done) | (simp only [rMost, setL_s, setL_t, setL_0, dropL_0, dropL_c]; (repeat' split) <;> first | with_reducible rfl | contradiction | (exfalso; omega) | (simp_all; done)) | rfl) (by first | with_reducible rfl | (simp [rMost, setL_s, setL_t, setL_0, dropL_0, dropL_c, *]; done) | (simp only [rMost, setL_s, setL_t, setL_0, dropL_0, dropL_c]; (repeat' split) <;> first | with_reducible rfl | contradiction | (exfalso; omega) | (simp_all; done)) | rfl)
set_option maxRecDepth 20000 in
set_option maxHeartbeats 2000000 in
theorem s_acceptDigit {x : Int32} : Does sz I_X0_acceptDigit [.ref (sz + 18), .int x] (patch G 18 1 f, T) 0 0 (.inl (some (bi (rDig f x)))) (patch G 18 1 (if rDig f x then rDigP f x else f), T) := by
  refine Does.of (L := [(0, .ref (sz + 18)), (1, .int x)]) (by decide +kernel) (Nat.le_of_ble_eq_true rfl) rfl ⟨rfl, (by simp), ⟨rfl, (by simp), trivial⟩⟩ (fun VV hF => ?_)
  have hX := hF.c
  refine ro_aload_n (i := 0) (q := 1) hX dX0_acceptDigit_0 rfl rfl rfl ?_
  refine ro_Rgi (j := 3) (q9 := 4) (by decide) hX kf_X0_22 dX0_acceptDigit_1 rfl ?_
  refine ro_if_eq (tgt := 14) (q := 7) hX dX0_acceptDigit_4 (by decide) rfl (fun q1 => ?_) (fun q1 => ?_)
  · skip
    refine ro_aload_n (i := 0) (q := 15) hX dX0_acceptDigit_14 rfl rfl rfl ?_
    refine ro_Rgi (j := 1) (q9 := 18) (by decide) hX kf_X0_15 dX0_acceptDigit_15 rfl ?_
    refine ro_istore_n (i := 2) (q := 19) hX dX0_acceptDigit_18 rfl (Nat.le_of_ble_eq_true rfl) rfl ?_
    refine ro_iload_n (i := 2) (q := 20) hX dX0_acceptDigit_19 rfl rfl rfl ?_
    refine ro_if_ne (tgt := 25) (q := 23) hX dX0_acceptDigit_20 (by decide) rfl (fun q2 => ?_) (fun q2 => ?_)
    · skip
      refine ro_iload_n (i := 2) (q := 26) hX dX0_acceptDigit_25 rfl rfl rfl ?_
      refine ro_iconst (v := (-1)) (q := 27) hX dX0_acceptDigit_26 rfl rfl ?_
      refine ro_icmp_ne (tgt := 34) (q := 30) hX dX0_acceptDigit_27 (by decide) rfl (fun q3 => ?_) (fun q3 => ?_)
      · skip
        refine ro_bipush (v := nI 10) (q := 36) hX dX0_acceptDigit_34 rfl rfl ?_
        refine ro_iload_n (i := 2) (q := 37) hX dX0_acceptDigit_36 rfl rfl rfl ?_
        refine ro_imul (q := 38) hX dX0_acceptDigit_37 rfl ?_
        refine ro_iload_n (i := 1) (q := 39) hX dX0_acceptDigit_38 rfl rfl rfl ?_
        refine ro_iadd (q := 40) hX dX0_acceptDigit_39 rfl ?_
        refine ro_istore_n (i := 3) (q := 41) hX dX0_acceptDigit_40 rfl (Nat.le_of_ble_eq_true rfl) rfl ?_
        refine ro_iload_n (i := 3) (q := 42) hX dX0_acceptDigit_41 rfl rfl rfl ?_
        refine ro_aload_n (i := 0) (q := 43) hX dX0_acceptDigit_42 rfl rfl rfl ?_
        refine ro_callVi (q9 := 46) hX (s_least) mw_X0_least kl_X0_44 (by decide) (fun cy => cell0 (by decide +kernel)) rfl rfl rfl (Nat.le_of_ble_eq_true rfl) ⟨Nat.le_of_ble_eq_true rfl, Nat.le_of_ble_eq_true rfl⟩ dX0_acceptDigit_43 ⟨Nat.le_of_ble_eq_true rfl, Nat.le_of_ble_eq_true rfl⟩ rfl ?_
        refine ro_icmp_lt (tgt := 57) (q := 49) hX dX0_acceptDigit_46 (by decide) rfl (fun q4 => ?_) (fun q4 => ?_)
        · skip
          refine ro_iconst (v := nI 0) (q := 58) hX dX0_acceptDigit_57 rfl rfl ?_
          exact fin_z hF (Nat.le_of_ble_eq_true rfl) (Nat.le_of_ble_eq_true rfl) dX0_acceptDigit_58 rfl (by first | with_reducible rfl | (simp [rDig, rDigP, rNum, rBef, bi, setL_s, setL_t, setL_0, dropL_0, dropL_c, *]; done) | (simp only [rDig, rDigP, rNum, rBef, bi, setL_s, setL_t, setL_0, dropL_0, dropL_c]; (repeat' split) <;> first | with_reducible rfl | contradiction | (exfalso; omega) | (simp_all; done)) | rfl) (by first | with_reducible rfl | (simp [rDig, rDigP, rNum, rBef, bi, setL_s, setL_t, setL_0, dropL_0, dropL_c, *]; done) | (simp only [rDig, rDigP, rNum, rBef, bi, setL_s, setL_t, setL_0, dropL_0, dropL_c]; (repeat' split) <;> first | with_reducible rfl | contradiction | (exfalso; omega) | (simp_all; done)) | rfl)
        · skip
          refine ro_iload_n (i := 3) (q := 50) hX dX0_acceptDigit_49 rfl rfl rfl ?_
          refine ro_aload_n (i := 0) (q := 51) hX dX0_acceptDigit_50 rfl rfl rfl ?_
          refine ro_callVi (q9 := 54) hX (s_most) mw_X0_most kl_X0_48 (by decide) (fun cy => cell0 (by decide +kernel)) rfl rfl rfl (Nat.le_of_ble_eq_true rfl) ⟨Nat.le_of_ble_eq_true rfl, Nat.le_of_ble_eq_true rfl⟩ dX0_acceptDigit_51 ⟨Nat.le_of_ble_eq_true rfl, Nat.le_of_ble_eq_true rfl⟩ rfl ?_
          refine ro_icmp_le (tgt := 59) (q := 57) hX dX0_acceptDigit_54 (by decide) rfl (fun q5 => ?_) (fun q5 => ?_)
          · skip
            refine ro_aload_n (i := 0) (q := 60) hX dX0_acceptDigit_59 rfl rfl rfl ?_
            refine ro_Rgi (j := 3) (q9 := 63) (by decide) hX kf_X0_22 dX0_acceptDigit_60 rfl ?_
            refine ro_if_eq (tgt := 74) (q := 66) hX dX0_acceptDigit_63 (by decide) rfl (fun q6 => ?_) (fun q6 => ?_)
            · skip
              refine ro_aload_n (i := 0) (q := 75) hX dX0_acceptDigit_74 rfl rfl rfl ?_
              refine ro_iload_n (i := 3) (q := 76) hX dX0_acceptDigit_75 rfl rfl rfl ?_
              refine ro_Rpi (j := 1) (q9 := 79) (ty := .int) (by decide) hX rfl rfl rfl kf_X0_15 dX0_acceptDigit_76 rfl ?_
              refine ro_iconst (v := nI 1) (q := 80) hX dX0_acceptDigit_79 rfl rfl ?_
              exact fin_z hF (Nat.le_of_ble_eq_true rfl) (Nat.le_of_ble_eq_true rfl) dX0_acceptDigit_80 rfl (by first | with_reducible rfl | (simp [rDig, rDigP, rNum, rBef, bi, setL_s, setL_t, setL_0, dropL_0, dropL_c, *]; done) | (simp only [rDig, rDigP, rNum, rBef, bi, setL_s, setL_t, setL_0, dropL_0, dropL_c]; (repeat' split) <;> first | with_reducible rfl | contradiction | (exfalso; omega) | (simp_all; done)) | rfl) (by first | with_reducible rfl | (simp [rDig, rDigP, rNum, rBef, bi, setL_s, setL_t, setL_0, dropL_0, dropL_c, *]; done) | (simp only [rDig, rDigP, rNum, rBef, bi, setL_s, setL_t, setL_0, dropL_0, dropL_c]; (repeat' split) <;> first | with_reducible rfl | contradiction | (exfalso; omega) | (simp_all; done)) | rfl)
            · skip
              refine ro_aload_n (i := 0) (q := 67) hX dX0_acceptDigit_66 rfl rfl rfl ?_
              refine ro_iload_n (i := 3) (q := 68) hX dX0_acceptDigit_67 rfl rfl rfl ?_
              refine ro_Rpi (j := 2) (q9 := 71) (ty := .int) (by decide) hX rfl rfl rfl kf_X0_19 dX0_acceptDigit_68 rfl ?_
              refine ro_goto (tgt := 79) hX dX0_acceptDigit_71 (by decide) ?_
              refine ro_iconst (v := nI 1) (q := 80) hX dX0_acceptDigit_79 rfl rfl ?_
              exact fin_z hF (Nat.le_of_ble_eq_true rfl) (Nat.le_of_ble_eq_true rfl) dX0_acceptDigit_80 rfl (by first | with_reducible rfl | (simp [rDig, rDigP, rNum, rBef, bi, setL_s, setL_t, setL_0, dropL_0, dropL_c, *]; done) | (simp only [rDig, rDigP, rNum, rBef, bi, setL_s, setL_t, setL_0, dropL_0, dropL_c]; (repeat' split) <;> first | with_reducible rfl | contradiction | (exfalso; omega) | (simp_all; done)) | rfl) (by first | with_reducible rfl | (simp [rDig, rDigP, rNum, rBef, bi, setL_s, setL_t, setL_0, dropL_0, dropL_c, *]; done) | (simp only [rDig, rDigP, rNum, rBef, bi, setL_s, setL_t, setL_0, dropL_0, dropL_c]; (repeat' split) <;> first | with_reducible rfl | contradiction | (exfalso; omega) | (simp_all; done)) | rfl)
          · skip
            refine ro_iconst (v := nI 0) (q := 58) hX dX0_acceptDigit_57 rfl rfl ?_
            exact fin_z hF (Nat.le_of_ble_eq_true rfl) (Nat.le_of_ble_eq_true rfl) dX0_acceptDigit_58 rfl (by first | with_reducible rfl | (simp [rDig, rDigP, rNum, rBef, bi, setL_s, setL_t, setL_0, dropL_0, dropL_c, *]; done) | (simp only [rDig, rDigP, rNum, rBef, bi, setL_s, setL_t, setL_0, dropL_0, dropL_c]; (repeat' split) <;> first | with_reducible rfl | contradiction | (exfalso; omega) | (simp_all; done)) | rfl) (by first | with_reducible rfl | (simp [rDig, rDigP, rNum, rBef, bi, setL_s, setL_t, setL_0, dropL_0, dropL_c, *]; done) | (simp only [rDig, rDigP, rNum, rBef, bi, setL_s, setL_t, setL_0, dropL_0, dropL_c]; (repeat' split) <;> first | with_reducible rfl | contradiction | (exfalso; omega) | (simp_all; done)) | rfl)
      · skip
        refine ro_iload_n (i := 1) (q := 31) hX dX0_acceptDigit_30 rfl rfl rfl ?_
        refine ro_goto (tgt := 40) hX dX0_acceptDigit_31 (by decide) ?_
        refine ro_istore_n (i := 3) (q := 41) hX dX0_acceptDigit_40 rfl (Nat.le_of_ble_eq_true rfl) rfl ?_
        refine ro_iload_n (i := 3) (q := 42) hX dX0_acceptDigit_41 rfl rfl rfl ?_
        refine ro_aload_n (i := 0) (q := 43) hX dX0_acceptDigit_42 rfl rfl rfl ?_
        refine ro_callVi (q9 := 46) hX (s_least) mw_X0_least kl_X0_44 (by decide) (fun cy => cell0 (by decide +kernel)) rfl rfl rfl (Nat.le_of_ble_eq_true rfl) ⟨Nat.le_of_ble_eq_true rfl, Nat.le_of_ble_eq_true rfl⟩ dX0_acceptDigit_43 ⟨Nat.le_of_ble_eq_true rfl, Nat.le_of_ble_eq_true rfl⟩ rfl ?_
        refine ro_icmp_lt (tgt := 57) (q := 49) hX dX0_acceptDigit_46 (by decide) rfl (fun q7 => ?_) (fun q7 => ?_)
        · skip
          refine ro_iconst (v := nI 0) (q := 58) hX dX0_acceptDigit_57 rfl rfl ?_
          exact fin_z hF (Nat.le_of_ble_eq_true rfl) (Nat.le_of_ble_eq_true rfl) dX0_acceptDigit_58 rfl (by first | with_reducible rfl | (simp [rDig, rDigP, rNum, rBef, bi, setL_s, setL_t, setL_0, dropL_0, dropL_c, *]; done) | (simp only [rDig, rDigP, rNum, rBef, bi, setL_s, setL_t, setL_0, dropL_0, dropL_c]; (repeat' split) <;> first | with_reducible rfl | contradiction | (exfalso; omega) | (simp_all; done)) | rfl) (by first | with_reducible rfl | (simp [rDig, rDigP, rNum, rBef, bi, setL_s, setL_t, setL_0, dropL_0, dropL_c, *]; done) | (simp only [rDig, rDigP, rNum, rBef, bi, setL_s, setL_t, setL_0, dropL_0, dropL_c]; (repeat' split) <;> first | with_reducible rfl | contradiction | (exfalso; omega) | (simp_all; done)) | rfl)
        · skip
          refine ro_iload_n (i := 3) (q := 50) hX dX0_acceptDigit_49 rfl rfl rfl ?_
          refine ro_aload_n (i := 0) (q := 51) hX dX0_acceptDigit_50 rfl rfl rfl ?_
          refine ro_callVi (q9 := 54) hX (s_most) mw_X0_most kl_X0_48 (by decide) (fun cy => cell0 (by decide +kernel)) rfl rfl rfl (Nat.le_of_ble_eq_true rfl) ⟨Nat.le_of_ble_eq_true rfl, Nat.le_of_ble_eq_true rfl⟩ dX0_acceptDigit_51 ⟨Nat.le_of_ble_eq_true rfl, Nat.le_of_ble_eq_true rfl⟩ rfl ?_
          refine ro_icmp_le (tgt := 59) (q := 57) hX dX0_acceptDigit_54 (by decide) rfl (fun q8 => ?_) (fun q8 => ?_)
          · skip
            refine ro_aload_n (i := 0) (q := 60) hX dX0_acceptDigit_59 rfl rfl rfl ?_
            refine ro_Rgi (j := 3) (q9 := 63) (by decide) hX kf_X0_22 dX0_acceptDigit_60 rfl ?_
            refine ro_if_eq (tgt := 74) (q := 66) hX dX0_acceptDigit_63 (by decide) rfl (fun q9 => ?_) (fun q9 => ?_)
            · skip
              refine ro_aload_n (i := 0) (q := 75) hX dX0_acceptDigit_74 rfl rfl rfl ?_
              refine ro_iload_n (i := 3) (q := 76) hX dX0_acceptDigit_75 rfl rfl rfl ?_
              refine ro_Rpi (j := 1) (q9 := 79) (ty := .int) (by decide) hX rfl rfl rfl kf_X0_15 dX0_acceptDigit_76 rfl ?_
              refine ro_iconst (v := nI 1) (q := 80) hX dX0_acceptDigit_79 rfl rfl ?_
              exact fin_z hF (Nat.le_of_ble_eq_true rfl) (Nat.le_of_ble_eq_true rfl) dX0_acceptDigit_80 rfl (by first | with_reducible rfl | (simp [rDig, rDigP, rNum, rBef, bi, setL_s, setL_t, setL_0, dropL_0, dropL_c, *]; done) | (simp only [rDig, rDigP, rNum, rBef, bi, setL_s, setL_t, setL_0, dropL_0, dropL_c]; (repeat' split) <;> first | with_reducible rfl | contradiction | (exfalso; omega) | (simp_all; done)) | rfl) (by first | with_reducible rfl | (simp [rDig, rDigP, rNum, rBef, bi, setL_s, setL_t, setL_0, dropL_0, dropL_c, *]; done) | (simp only [rDig, rDigP, rNum, rBef, bi, setL_s, setL_t, setL_0, dropL_0, dropL_c]; (repeat' split) <;> first | with_reducible rfl | contradiction | (exfalso; omega) | (simp_all; done)) | rfl)
            · skip
              refine ro_aload_n (i := 0) (q := 67) hX dX0_acceptDigit_66 rfl rfl rfl ?_
              refine ro_iload_n (i := 3) (q := 68) hX dX0_acceptDigit_67 rfl rfl rfl ?_
              refine ro_Rpi (j := 2) (q9 := 71) (ty := .int) (by decide) hX rfl rfl rfl kf_X0_19 dX0_acceptDigit_68 rfl ?_
              refine ro_goto (tgt := 79) hX dX0_acceptDigit_71 (by decide) ?_
              refine ro_iconst (v := nI 1) (q := 80) hX dX0_acceptDigit_79 rfl rfl ?_
              exact fin_z hF (Nat.le_of_ble_eq_true rfl) (Nat.le_of_ble_eq_true rfl) dX0_acceptDigit_80 rfl (by first | with_reducible rfl | (simp [rDig, rDigP, rNum, rBef, bi, setL_s, setL_t, setL_0, dropL_0, dropL_c, *]; done) | (simp only [rDig, rDigP, rNum, rBef, bi, setL_s, setL_t, setL_0, dropL_0, dropL_c]; (repeat' split) <;> first | with_reducible rfl | contradiction | (exfalso; omega) | (simp_all; done)) | rfl) (by first | with_reducible rfl | (simp [rDig, rDigP, rNum, rBef, bi, setL_s, setL_t, setL_0, dropL_0, dropL_c, *]; done) | (simp only [rDig, rDigP, rNum, rBef, bi, setL_s, setL_t, setL_0, dropL_0, dropL_c]; (repeat' split) <;> first | with_reducible rfl | contradiction | (exfalso; omega) | (simp_all; done)) | rfl)
          · skip
            refine ro_iconst (v := nI 0) (q := 58) hX dX0_acceptDigit_57 rfl rfl ?_
            exact fin_z hF (Nat.le_of_ble_eq_true rfl) (Nat.le_of_ble_eq_true rfl) dX0_acceptDigit_58 rfl (by first | with_reducible rfl | (simp [rDig, rDigP, rNum, rBef, bi, setL_s, setL_t, setL_0, dropL_0, dropL_c, *]; done) | (simp only [rDig, rDigP, rNum, rBef, bi, setL_s, setL_t, setL_0, dropL_0, dropL_c]; (repeat' split) <;> first | with_reducible rfl | contradiction | (exfalso; omega) | (simp_all; done)) | rfl) (by first | with_reducible rfl | (simp [rDig, rDigP, rNum, rBef, bi, setL_s, setL_t, setL_0, dropL_0, dropL_c, *]; done) | (simp only [rDig, rDigP, rNum, rBef, bi, setL_s, setL_t, setL_0, dropL_0, dropL_c]; (repeat' split) <;> first | with_reducible rfl | contradiction | (exfalso; omega) | (simp_all; done)) | rfl)
    · skip
      refine ro_iconst (v := nI 0) (q := 24) hX dX0_acceptDigit_23 rfl rfl ?_
      exact fin_z hF (Nat.le_of_ble_eq_true rfl) (Nat.le_of_ble_eq_true rfl) dX0_acceptDigit_24 rfl (by first | with_reducible rfl | (simp [rDig, rDigP, rNum, rBef, bi, setL_s, setL_t, setL_0, dropL_0, dropL_c, *]; done) | (simp only [rDig, rDigP, rNum, rBef, bi, setL_s, setL_t, setL_0, dropL_0, dropL_c]; (repeat' split) <;> first | with_reducible rfl | contradiction | (exfalso; omega) | (simp_all; done)) | rfl) (by first | with_reducible rfl | (simp [rDig, rDigP, rNum, rBef, bi, setL_s, setL_t, setL_0, dropL_0, dropL_c, *]; done) | (simp only [rDig, rDigP, rNum, rBef, bi, setL_s, setL_t, setL_0, dropL_0, dropL_c]; (repeat' split) <;> first | with_reducible rfl | contradiction | (exfalso; omega) | (simp_all; done)) | rfl)
  · skip
    refine ro_aload_n (i := 0) (q := 8) hX dX0_acceptDigit_7 rfl rfl rfl ?_
    refine ro_Rgi (j := 2) (q9 := 11) (by decide) hX kf_X0_19 dX0_acceptDigit_8 rfl ?_
    refine ro_goto (tgt := 18) hX dX0_acceptDigit_11 (by decide) ?_
    refine ro_istore_n (i := 2) (q := 19) hX dX0_acceptDigit_18 rfl (Nat.le_of_ble_eq_true rfl) rfl ?_
    refine ro_iload_n (i := 2) (q := 20) hX dX0_acceptDigit_19 rfl rfl rfl ?_
    refine ro_if_ne (tgt := 25) (q := 23) hX dX0_acceptDigit_20 (by decide) rfl (fun q10 => ?_) (fun q10 => ?_)
    · skip
      refine ro_iload_n (i := 2) (q := 26) hX dX0_acceptDigit_25 rfl rfl rfl ?_
      refine ro_iconst (v := (-1)) (q := 27) hX dX0_acceptDigit_26 rfl rfl ?_
      refine ro_icmp_ne (tgt := 34) (q := 30) hX dX0_acceptDigit_27 (by decide) rfl (fun q11 => ?_) (fun q11 => ?_)
      · skip
        refine ro_bipush (v := nI 10) (q := 36) hX dX0_acceptDigit_34 rfl rfl ?_
        refine ro_iload_n (i := 2) (q := 37) hX dX0_acceptDigit_36 rfl rfl rfl ?_
        refine ro_imul (q := 38) hX dX0_acceptDigit_37 rfl ?_
        refine ro_iload_n (i := 1) (q := 39) hX dX0_acceptDigit_38 rfl rfl rfl ?_
        refine ro_iadd (q := 40) hX dX0_acceptDigit_39 rfl ?_
        refine ro_istore_n (i := 3) (q := 41) hX dX0_acceptDigit_40 rfl (Nat.le_of_ble_eq_true rfl) rfl ?_
        refine ro_iload_n (i := 3) (q := 42) hX dX0_acceptDigit_41 rfl rfl rfl ?_
        refine ro_aload_n (i := 0) (q := 43) hX dX0_acceptDigit_42 rfl rfl rfl ?_
        refine ro_callVi (q9 := 46) hX (s_least) mw_X0_least kl_X0_44 (by decide) (fun cy => cell0 (by decide +kernel)) rfl rfl rfl (Nat.le_of_ble_eq_true rfl) ⟨Nat.le_of_ble_eq_true rfl, Nat.le_of_ble_eq_true rfl⟩ dX0_acceptDigit_43 ⟨Nat.le_of_ble_eq_true rfl, Nat.le_of_ble_eq_true rfl⟩ rfl ?_
        refine ro_icmp_lt (tgt := 57) (q := 49) hX dX0_acceptDigit_46 (by decide) rfl (fun q12 => ?_) (fun q12 => ?_)
        · skip
          refine ro_iconst (v := nI 0) (q := 58) hX dX0_acceptDigit_57 rfl rfl ?_
          exact fin_z hF (Nat.le_of_ble_eq_true rfl) (Nat.le_of_ble_eq_true rfl) dX0_acceptDigit_58 rfl (by first | with_reducible rfl | (simp [rDig, rDigP, rNum, rBef, bi, setL_s, setL_t, setL_0, dropL_0, dropL_c, *]; done) | (simp only [rDig, rDigP, rNum, rBef, bi, setL_s, setL_t, setL_0, dropL_0, dropL_c]; (repeat' split) <;> first | with_reducible rfl | contradiction | (exfalso; omega) | (simp_all; done)) | rfl) (by first | with_reducible rfl | (simp [rDig, rDigP, rNum, rBef, bi, setL_s, setL_t, setL_0, dropL_0, dropL_c, *]; done) | (simp only [rDig, rDigP, rNum, rBef, bi, setL_s, setL_t, setL_0, dropL_0, dropL_c]; (repeat' split) <;> first | with_reducible rfl | contradiction | (exfalso; omega) | (simp_all; done)) | rfl)
        · skip
          refine ro_iload_n (i := 3) (q := 50) hX dX0_acceptDigit_49 rfl rfl rfl ?_
          refine ro_aload_n (i := 0) (q := 51) hX dX0_acceptDigit_50 rfl rfl rfl ?_
          refine ro_callVi (q9 := 54) hX (s_most) mw_X0_most kl_X0_48 (by decide) (fun cy => cell0 (by decide +kernel)) rfl rfl rfl (Nat.le_of_ble_eq_true rfl) ⟨Nat.le_of_ble_eq_true rfl, Nat.le_of_ble_eq_true rfl⟩ dX0_acceptDigit_51 ⟨Nat.le_of_ble_eq_true rfl, Nat.le_of_ble_eq_true rfl⟩ rfl ?_
          refine ro_icmp_le (tgt := 59) (q := 57) hX dX0_acceptDigit_54 (by decide) rfl (fun q13 => ?_) (fun q13 => ?_)
          · skip
            refine ro_aload_n (i := 0) (q := 60) hX dX0_acceptDigit_59 rfl rfl rfl ?_
            refine ro_Rgi (j := 3) (q9 := 63) (by decide) hX kf_X0_22 dX0_acceptDigit_60 rfl ?_
            refine ro_if_eq (tgt := 74) (q := 66) hX dX0_acceptDigit_63 (by decide) rfl (fun q14 => ?_) (fun q14 => ?_)
            · skip
              refine ro_aload_n (i := 0) (q := 75) hX dX0_acceptDigit_74 rfl rfl rfl ?_
              refine ro_iload_n (i := 3) (q := 76) hX dX0_acceptDigit_75 rfl rfl rfl ?_
              refine ro_Rpi (j := 1) (q9 := 79) (ty := .int) (by decide) hX rfl rfl rfl kf_X0_15 dX0_acceptDigit_76 rfl ?_
              refine ro_iconst (v := nI 1) (q := 80) hX dX0_acceptDigit_79 rfl rfl ?_
              exact fin_z hF (Nat.le_of_ble_eq_true rfl) (Nat.le_of_ble_eq_true rfl) dX0_acceptDigit_80 rfl (by first | with_reducible rfl | (simp [rDig, rDigP, rNum, rBef, bi, setL_s, setL_t, setL_0, dropL_0, dropL_c, *]; done) | (simp only [rDig, rDigP, rNum, rBef, bi, setL_s, setL_t, setL_0, dropL_0, dropL_c]; (repeat' split) <;> first | with_reducible rfl | contradiction | (exfalso; omega) | (simp_all; done)) | rfl) (by first | with_reducible rfl | (simp [rDig, rDigP, rNum, rBef, bi, setL_s, setL_t, setL_0, dropL_0, dropL_c, *]; done) | (simp only [rDig, rDigP, rNum, rBef, bi, setL_s, setL_t, setL_0, dropL_0, dropL_c]; (repeat' split) <;> first | with_reducible rfl | contradiction | (exfalso; omega) | (simp_all; done)) | rfl)
            · skip
              refine ro_aload_n (i := 0) (q := 67) hX dX0_acceptDigit_66 rfl rfl rfl ?_
              refine ro_iload_n (i := 3) (q := 68) hX dX0_acceptDigit_67 rfl rfl rfl ?_
              refine ro_Rpi (j := 2) (q9 := 71) (ty := .int) (by decide) hX rfl rfl rfl kf_X0_19 dX0_acceptDigit_68 rfl ?_
              refine ro_goto (tgt := 79) hX dX0_acceptDigit_71 (by decide) ?_
              refine ro_iconst (v := nI 1) (q := 80) hX dX0_acceptDigit_79 rfl rfl ?_
              exact fin_z hF (Nat.le_of_ble_eq_true rfl) (Nat.le_of_ble_eq_true rfl) dX0_acceptDigit_80 rfl (by first | with_reducible rfl | (simp [rDig, rDigP, rNum, rBef, bi, setL_s, setL_t, setL_0, dropL_0, dropL_c, *]; done) | (simp only [rDig, rDigP, rNum, rBef, bi, setL_s, setL_t, setL_0, dropL_0, dropL_c]; (repeat' split) <;> first | with_reducible rfl | contradiction | (exfalso; omega) | (simp_all; done)) | rfl) (by first | with_reducible rfl | (simp [rDig, rDigP, rNum, rBef, bi, setL_s, setL_t, setL_0, dropL_0, dropL_c, *]; done) | (simp only [rDig, rDigP, rNum, rBef, bi, setL_s, setL_t, setL_0, dropL_0, dropL_c]; (repeat' split) <;> first | with_reducible rfl | contradiction | (exfalso; omega) | (simp_all; done)) | rfl)
          · skip
            refine ro_iconst (v := nI 0) (q := 58) hX dX0_acceptDigit_57 rfl rfl ?_
            exact fin_z hF (Nat.le_of_ble_eq_true rfl) (Nat.le_of_ble_eq_true rfl) dX0_acceptDigit_58 rfl (by first | with_reducible rfl | (simp [rDig, rDigP, rNum, rBef, bi, setL_s, setL_t, setL_0, dropL_0, dropL_c, *]; done) | (simp only [rDig, rDigP, rNum, rBef, bi, setL_s, setL_t, setL_0, dropL_0, dropL_c]; (repeat' split) <;> first | with_reducible rfl | contradiction | (exfalso; omega) | (simp_all; done)) | rfl) (by first | with_reducible rfl | (simp [rDig, rDigP, rNum, rBef, bi, setL_s, setL_t, setL_0, dropL_0, dropL_c, *]; done) | (simp only [rDig, rDigP, rNum, rBef, bi, setL_s, setL_t, setL_0, dropL_0, dropL_c]; (repeat' split) <;> first | with_reducible rfl | contradiction | (exfalso; omega) | (simp_all; done)) | rfl)
      · skip
        refine ro_iload_n (i := 1) (q := 31) hX dX0_acceptDigit_30 rfl rfl rfl ?_
        refine ro_goto (tgt := 40) hX dX0_acceptDigit_31 (by decide) ?_
        refine ro_istore_n (i := 3) (q := 41) hX dX0_acceptDigit_40 rfl (Nat.le_of_ble_eq_true rfl) rfl ?_
        refine ro_iload_n (i := 3) (q := 42) hX dX0_acceptDigit_41 rfl rfl rfl ?_
        refine ro_aload_n (i := 0) (q := 43) hX dX0_acceptDigit_42 rfl rfl rfl ?_
        refine ro_callVi (q9 := 46) hX (s_least) mw_X0_least kl_X0_44 (by decide) (fun cy => cell0 (by decide +kernel)) rfl rfl rfl (Nat.le_of_ble_eq_true rfl) ⟨Nat.le_of_ble_eq_true rfl, Nat.le_of_ble_eq_true rfl⟩ dX0_acceptDigit_43 ⟨Nat.le_of_ble_eq_true rfl, Nat.le_of_ble_eq_true rfl⟩ rfl ?_
        refine ro_icmp_lt (tgt := 57) (q := 49) hX dX0_acceptDigit_46 (by decide) rfl (fun q15 => ?_) (fun q15 => ?_)
        · skip
          refine ro_iconst (v := nI 0) (q := 58) hX dX0_acceptDigit_57 rfl rfl ?_
          exact fin_z hF (Nat.le_of_ble_eq_true rfl) (Nat.le_of_ble_eq_true rfl) dX0_acceptDigit_58 rfl (by first | with_reducible rfl | (simp [rDig, rDigP, rNum, rBef, bi, setL_s, setL_t, setL_0, dropL_0, dropL_c, *]; done) | (simp only [rDig, rDigP, rNum, rBef, bi, setL_s, setL_t, setL_0, dropL_0, dropL_c]; (repeat' split) <;> first | with_reducible rfl | contradiction | (exfalso; omega) | (simp_all; done)) | rfl) (by first | with_reducible rfl | (simp [rDig, rDigP, rNum, rBef, bi, setL_s, setL_t, setL_0, dropL_0, dropL_c, *]; done) | (simp only [rDig, rDigP, rNum, rBef, bi, setL_s, setL_t, setL_0, dropL_0, dropL_c]; (repeat' split) <;> first | with_reducible rfl | contradiction | (exfalso; omega) | (simp_all; done)) | rfl)
        · skip
          refine ro_iload_n (i := 3) (q := 50) hX dX0_acceptDigit_49 rfl rfl rfl ?_
          refine ro_aload_n (i := 0) (q := 51) hX dX0_acceptDigit_50 rfl rfl rfl ?_
          refine ro_callVi (q9 := 54) hX (s_most) mw_X0_most kl_X0_48 (by decide) (fun cy => cell0 (by decide +kernel)) rfl rfl rfl (Nat.le_of_ble_eq_true rfl) ⟨Nat.le_of_ble_eq_true rfl, Nat.le_of_ble_eq_true rfl⟩ dX0_acceptDigit_51 ⟨Nat.le_of_ble_eq_true rfl, Nat.le_of_ble_eq_true rfl⟩ rfl ?_
          refine ro_icmp_le (tgt := 59) (q := 57) hX dX0_acceptDigit_54 (by decide) rfl (fun q16 => ?_) (fun q16 => ?_)
          · skip
            refine ro_aload_n (i := 0) (q := 60) hX dX0_acceptDigit_59 rfl rfl rfl ?_
            refine ro_Rgi (j := 3) (q9 := 63) (by decide) hX kf_X0_22 dX0_acceptDigit_60 rfl ?_
            refine ro_if_eq (tgt := 74) (q := 66) hX dX0_acceptDigit_63 (by decide) rfl (fun q17 => ?_) (fun q17 => ?_)
            · skip
              refine ro_aload_n (i := 0) (q := 75) hX dX0_acceptDigit_74 rfl rfl rfl ?_
              refine ro_iload_n (i := 3) (q := 76) hX dX0_acceptDigit_75 rfl rfl rfl ?_
              refine ro_Rpi (j := 1) (q9 := 79) (ty := .int) (by decide) hX rfl rfl rfl kf_X0_15 dX0_acceptDigit_76 rfl ?_
              refine ro_iconst (v := nI 1) (q := 80) hX dX0_acceptDigit_79 rfl rfl ?_
              exact fin_z hF (Nat.le_of_ble_eq_true rfl) (Nat.le_of_ble_eq_true rfl) dX0_acceptDigit_80 rfl (by first | with_reducible rfl | (simp [rDig, rDigP, rNum, rBef, bi, setL_s, setL_t, setL_0, dropL_0, dropL_c, *]; done) | (simp only [rDig, rDigP, rNum, rBef, bi, setL_s, setL_t, setL_0, dropL_0, dropL_c]; (repeat' split) <;> first | with_reducible rfl | contradiction | (exfalso; omega) | (simp_all; done)) | rfl) (by first | with_reducible rfl | (simp [rDig, rDigP, rNum, rBef, bi, setL_s, setL_t, setL_0, dropL_0, dropL_c, *]; done) | (simp only [rDig, rDigP, rNum, rBef, bi, setL_s, setL_t, setL_0, dropL_0, dropL_c]; (repeat' split) <;> first | with_reducible rfl | contradiction | (exfalso; omega) | (simp_all; done)) | rfl)
            · skip
              refine ro_aload_n (i := 0) (q := 67) hX dX0_acceptDigit_66 rfl rfl rfl ?_
              refine ro_iload_n (i := 3) (q := 68) hX dX0_acceptDigit_67 rfl rfl rfl ?_
              refine ro_Rpi (j := 2) (q9 := 71) (ty := .int) (by decide) hX rfl rfl rfl kf_X0_19 dX0_acceptDigit_68 rfl ?_
              refine ro_goto (tgt := 79) hX dX0_acceptDigit_71 (by decide) ?_
              refine ro_iconst (v := nI 1) (q := 80) hX dX0_acceptDigit_79 rfl rfl ?_
              exact fin_z hF (Nat.le_of_ble_eq_true rfl) (Nat.le_of_ble_eq_true rfl) dX0_acceptDigit_80 rfl (by first | with_reducible rfl | (simp [rDig, rDigP, rNum, rBef, bi, setL_s, setL_t, setL_0, dropL_0, dropL_c, *]; done) | (simp only [rDig, rDigP, rNum, rBef, bi, setL_s, setL_t, setL_0, dropL_0, dropL_c]; (repeat' split) <;> first | with_reducible rfl | contradiction | (exfalso; omega) | (simp_all; done)) | rfl) (by first | with_reducible rfl | (simp [rDig, rDigP, rNum, rBef, bi, setL_s, setL_t, setL_0, dropL_0, dropL_c, *]; done) | (simp only [rDig, rDigP, rNum, rBef, bi, setL_s, setL_t, setL_0, dropL_0, dropL_c]; (repeat' split) <;> first | with_reducible rfl | contradiction | (exfalso; omega) | (simp_all; done)) | rfl)
          · skip
            refine ro_iconst (v := nI 0) (q := 58) hX dX0_acceptDigit_57 rfl rfl ?_
            exact fin_z hF (Nat.le_of_ble_eq_true rfl) (Nat.le_of_ble_eq_true rfl) dX0_acceptDigit_58 rfl (by first | with_reducible rfl | (simp [rDig, rDigP, rNum, rBef, bi, setL_s, setL_t, setL_0, dropL_0, dropL_c, *]; done) | (simp only [rDig, rDigP, rNum, rBef, bi, setL_s, setL_t, setL_0, dropL_0, dropL_c]; (repeat' split) <;> first | with_reducible rfl | contradiction | (exfalso; omega) | (simp_all; done)) | rfl) (by first | with_reducible rfl | (simp [rDig, rDigP, rNum, rBef, bi, setL_s, setL_t, setL_0, dropL_0, dropL_c, *]; done) | (simp only [rDig, rDigP, rNum, rBef, bi, setL_s, setL_t, setL_0, dropL_0, dropL_c]; (repeat' split) <;> first | with_reducible rfl | contradiction | (exfalso; omega) | (simp_all; done)) | rfl)
    · skip
      refine ro_iconst (v := nI 0) (q := 24) hX dX0_acceptDigit_23 rfl rfl ?_
      exact fin_z hF (Nat.le_of_ble_eq_true rfl) (Nat.le_of_ble_eq_true rfl) dX0_acceptDigit_24 rfl (by first | with_reducible rfl | (simp [rDig, rDigP, rNum, rBef, bi, setL_s, setL_t, setL_0, dropL_0, dropL_c, *]; done) | (simp only [rDig, rDigP, rNum, rBef, bi, setL_s, setL_t, setL_0, dropL_0, dropL_c]; (repeat' split) <;> first | with_reducible rfl | contradiction | (exfalso; omega) | (simp_all; done)) | rfl) (by first | with_reducible rfl | (simp [rDig, rDigP, rNum, rBef, bi, setL_s, setL_t, setL_0, dropL_0, dropL_c, *]; done) | (simp only [rDig, rDigP, rNum, rBef, bi, setL_s, setL_t, setL_0, dropL_0, dropL_c]; (repeat' split) <;> first | with_reducible rfl | contradiction | (exfalso; omega) | (simp_all; done)) | rfl)
set_option maxRecDepth 20000 in
set_option maxHeartbeats 2000000 in
theorem s_acceptLetter_99 : Does sz I_X0_acceptLetter [.ref (sz + 18), .int (nI 99)] (patch G 18 1 f, T) 0 0 (.inl (some (bi (isLet 99)))) (patch G 18 1 (if isLet 99 then put f 0 0 (nI 99) else f), T) := by
  refine Does.of (L := [(0, .ref (sz + 18)), (1, .int (nI 99))]) (by decide +kernel) (Nat.le_of_ble_eq_true rfl) rfl ⟨rfl, (by simp), ⟨rfl, (by simp), trivial⟩⟩ (fun VV hF => ?_)
  have hX := hF.c
  refine ro_iload_n (i := 1) (q := 1) hX dX0_acceptLetter_0 rfl rfl rfl ?_
  refine ro_tableIn (tgt := 104) (off := 103) hX dX0_acceptLetter_1 (by decide) (by decide) (by decide +kernel) (by decide) ?_
  refine ro_aload_n (i := 0) (q := 105) hX dX0_acceptLetter_104 rfl rfl rfl ?_
  refine ro_iload_n (i := 1) (q := 106) hX dX0_acceptLetter_105 rfl rfl rfl ?_
  refine ro_Rpi (j := 0) (q9 := 109) (ty := .char) (by decide) hX rfl rfl rfl kf_X0_11 dX0_acceptLetter_106 rfl ?_
  refine ro_iconst (v := nI 1) (q := 110) hX dX0_acceptLetter_109 rfl rfl ?_
  exact fin_z hF (Nat.le_of_ble_eq_true rfl) (Nat.le_of_ble_eq_true rfl) dX0_acceptLetter_110 rfl (by rfl) (by rfl)
set_option maxRecDepth 20000 in
set_option maxHeartbeats 2000000 in
theorem s_acceptLetter_100 : Does sz I_X0_acceptLetter [.ref (sz + 18), .int (nI 100)] (patch G 18 1 f, T) 0 0 (.inl (some (bi (isLet 100)))) (patch G 18 1 (if isLet 100 then put f 0 0 (nI 100) else f), T) := by
  refine Does.of (L := [(0, .ref (sz + 18)), (1, .int (nI 100))]) (by decide +kernel) (Nat.le_of_ble_eq_true rfl) rfl ⟨rfl, (by simp), ⟨rfl, (by simp), trivial⟩⟩ (fun VV hF => ?_)
  have hX := hF.c
  refine ro_iload_n (i := 1) (q := 1) hX dX0_acceptLetter_0 rfl rfl rfl ?_
  refine ro_tableIn (tgt := 104) (off := 103) hX dX0_acceptLetter_1 (by decide) (by decide) (by decide +kernel) (by decide) ?_
  refine ro_aload_n (i := 0) (q := 105) hX dX0_acceptLetter_104 rfl rfl rfl ?_
  refine ro_iload_n (i := 1) (q := 106) hX dX0_acceptLetter_105 rfl rfl rfl ?_
  refine ro_Rpi (j := 0) (q9 := 109) (ty := .char) (by decide) hX rfl rfl rfl kf_X0_11 dX0_acceptLetter_106 rfl ?_
  refine ro_iconst (v := nI 1) (q := 110) hX dX0_acceptLetter_109 rfl rfl ?_
  exact fin_z hF (Nat.le_of_ble_eq_true rfl) (Nat.le_of_ble_eq_true rfl) dX0_acceptLetter_110 rfl (by rfl) (by rfl)
set_option maxRecDepth 20000 in
set_option maxHeartbeats 2000000 in
theorem s_acceptLetter_101 : Does sz I_X0_acceptLetter [.ref (sz + 18), .int (nI 101)] (patch G 18 1 f, T) 0 0 (.inl (some (bi (isLet 101)))) (patch G 18 1 (if isLet 101 then put f 0 0 (nI 101) else f), T) := by
  refine Does.of (L := [(0, .ref (sz + 18)), (1, .int (nI 101))]) (by decide +kernel) (Nat.le_of_ble_eq_true rfl) rfl ⟨rfl, (by simp), ⟨rfl, (by simp), trivial⟩⟩ (fun VV hF => ?_)
  have hX := hF.c
  refine ro_iload_n (i := 1) (q := 1) hX dX0_acceptLetter_0 rfl rfl rfl ?_
  refine ro_tableIn (tgt := 111) (off := 110) hX dX0_acceptLetter_1 (by decide) (by decide) (by decide +kernel) (by decide) ?_
  refine ro_iconst (v := nI 0) (q := 112) hX dX0_acceptLetter_111 rfl rfl ?_
  exact fin_z hF (Nat.le_of_ble_eq_true rfl) (Nat.le_of_ble_eq_true rfl) dX0_acceptLetter_112 rfl (by rfl) (by rfl)
set_option maxRecDepth 20000 in
set_option maxHeartbeats 2000000 in
theorem s_acceptLetter_102 : Does sz I_X0_acceptLetter [.ref (sz + 18), .int (nI 102)] (patch G 18 1 f, T) 0 0 (.inl (some (bi (isLet 102)))) (patch G 18 1 (if isLet 102 then put f 0 0 (nI 102) else f), T) := by
  refine Does.of (L := [(0, .ref (sz + 18)), (1, .int (nI 102))]) (by decide +kernel) (Nat.le_of_ble_eq_true rfl) rfl ⟨rfl, (by simp), ⟨rfl, (by simp), trivial⟩⟩ (fun VV hF => ?_)
  have hX := hF.c
  refine ro_iload_n (i := 1) (q := 1) hX dX0_acceptLetter_0 rfl rfl rfl ?_
  refine ro_tableIn (tgt := 111) (off := 110) hX dX0_acceptLetter_1 (by decide) (by decide) (by decide +kernel) (by decide) ?_
  refine ro_iconst (v := nI 0) (q := 112) hX dX0_acceptLetter_111 rfl rfl ?_
  exact fin_z hF (Nat.le_of_ble_eq_true rfl) (Nat.le_of_ble_eq_true rfl) dX0_acceptLetter_112 rfl (by rfl) (by rfl)
set_option maxRecDepth 20000 in
set_option maxHeartbeats 2000000 in
theorem s_acceptLetter_103 : Does sz I_X0_acceptLetter [.ref (sz + 18), .int (nI 103)] (patch G 18 1 f, T) 0 0 (.inl (some (bi (isLet 103)))) (patch G 18 1 (if isLet 103 then put f 0 0 (nI 103) else f), T) := by
  refine Does.of (L := [(0, .ref (sz + 18)), (1, .int (nI 103))]) (by decide +kernel) (Nat.le_of_ble_eq_true rfl) rfl ⟨rfl, (by simp), ⟨rfl, (by simp), trivial⟩⟩ (fun VV hF => ?_)
  have hX := hF.c
  refine ro_iload_n (i := 1) (q := 1) hX dX0_acceptLetter_0 rfl rfl rfl ?_
  refine ro_tableIn (tgt := 111) (off := 110) hX dX0_acceptLetter_1 (by decide) (by decide) (by decide +kernel) (by decide) ?_
  refine ro_iconst (v := nI 0) (q := 112) hX dX0_acceptLetter_111 rfl rfl ?_
  exact fin_z hF (Nat.le_of_ble_eq_true rfl) (Nat.le_of_ble_eq_true rfl) dX0_acceptLetter_112 rfl (by rfl) (by rfl)
set_option maxRecDepth 20000 in
set_option maxHeartbeats 2000000 in
theorem s_acceptLetter_104 : Does sz I_X0_acceptLetter [.ref (sz + 18), .int (nI 104)] (patch G 18 1 f, T) 0 0 (.inl (some (bi (isLet 104)))) (patch G 18 1 (if isLet 104 then put f 0 0 (nI 104) else f), T) := by
  refine Does.of (L := [(0, .ref (sz + 18)), (1, .int (nI 104))]) (by decide +kernel) (Nat.le_of_ble_eq_true rfl) rfl ⟨rfl, (by simp), ⟨rfl, (by simp), trivial⟩⟩ (fun VV hF => ?_)
  have hX := hF.c
  refine ro_iload_n (i := 1) (q := 1) hX dX0_acceptLetter_0 rfl rfl rfl ?_
  refine ro_tableIn (tgt := 111) (off := 110) hX dX0_acceptLetter_1 (by decide) (by decide) (by decide +kernel) (by decide) ?_
  refine ro_iconst (v := nI 0) (q := 112) hX dX0_acceptLetter_111 rfl rfl ?_
  exact fin_z hF (Nat.le_of_ble_eq_true rfl) (Nat.le_of_ble_eq_true rfl) dX0_acceptLetter_112 rfl (by rfl) (by rfl)
set_option maxRecDepth 20000 in
set_option maxHeartbeats 2000000 in
theorem s_acceptLetter_105 : Does sz I_X0_acceptLetter [.ref (sz + 18), .int (nI 105)] (patch G 18 1 f, T) 0 0 (.inl (some (bi (isLet 105)))) (patch G 18 1 (if isLet 105 then put f 0 0 (nI 105) else f), T) := by
  refine Does.of (L := [(0, .ref (sz + 18)), (1, .int (nI 105))]) (by decide +kernel) (Nat.le_of_ble_eq_true rfl) rfl ⟨rfl, (by simp), ⟨rfl, (by simp), trivial⟩⟩ (fun VV hF => ?_)
  have hX := hF.c
  refine ro_iload_n (i := 1) (q := 1) hX dX0_acceptLetter_0 rfl rfl rfl ?_
  refine ro_tableIn (tgt := 111) (off := 110) hX dX0_acceptLetter_1 (by decide) (by decide) (by decide +kernel) (by decide) ?_
  refine ro_iconst (v := nI 0) (q := 112) hX dX0_acceptLetter_111 rfl rfl ?_
  exact fin_z hF (Nat.le_of_ble_eq_true rfl) (Nat.le_of_ble_eq_true rfl) dX0_acceptLetter_112 rfl (by rfl) (by rfl)
set_option maxRecDepth 20000 in
set_option maxHeartbeats 2000000 in
theorem s_acceptLetter_106 : Does sz I_X0_acceptLetter [.ref (sz + 18), .int (nI 106)] (patch G 18 1 f, T) 0 0 (.inl (some (bi (isLet 106)))) (patch G 18 1 (if isLet 106 then put f 0 0 (nI 106) else f), T) := by
  refine Does.of (L := [(0, .ref (sz + 18)), (1, .int (nI 106))]) (by decide +kernel) (Nat.le_of_ble_eq_true rfl) rfl ⟨rfl, (by simp), ⟨rfl, (by simp), trivial⟩⟩ (fun VV hF => ?_)
  have hX := hF.c
  refine ro_iload_n (i := 1) (q := 1) hX dX0_acceptLetter_0 rfl rfl rfl ?_
  refine ro_tableIn (tgt := 111) (off := 110) hX dX0_acceptLetter_1 (by decide) (by decide) (by decide +kernel) (by decide) ?_
  refine ro_iconst (v := nI 0) (q := 112) hX dX0_acceptLetter_111 rfl rfl ?_
  exact fin_z hF (Nat.le_of_ble_eq_true rfl) (Nat.le_of_ble_eq_true rfl) dX0_acceptLetter_112 rfl (by rfl) (by rfl)
set_option maxRecDepth 20000 in
set_option maxHeartbeats 2000000 in
theorem s_acceptLetter_107 : Does sz I_X0_acceptLetter [.ref (sz + 18), .int (nI 107)] (patch G 18 1 f, T) 0 0 (.inl (some (bi (isLet 107)))) (patch G 18 1 (if isLet 107 then put f 0 0 (nI 107) else f), T) := by
  refine Does.of (L := [(0, .ref (sz + 18)), (1, .int (nI 107))]) (by decide +kernel) (Nat.le_of_ble_eq_true rfl) rfl ⟨rfl, (by simp), ⟨rfl, (by simp), trivial⟩⟩ (fun VV hF => ?_)
  have hX := hF.c
  refine ro_iload_n (i := 1) (q := 1) hX dX0_acceptLetter_0 rfl rfl rfl ?_
  refine ro_tableIn (tgt := 111) (off := 110) hX dX0_acceptLetter_1 (by decide) (by decide) (by decide +kernel) (by decide) ?_
  refine ro_iconst (v := nI 0) (q := 112) hX dX0_acceptLetter_111 rfl rfl ?_
  exact fin_z hF (Nat.le_of_ble_eq_true rfl) (Nat.le_of_ble_eq_true rfl) dX0_acceptLetter_112 rfl (by rfl) (by rfl)
set_option maxRecDepth 20000 in
set_option maxHeartbeats 2000000 in
theorem s_acceptLetter_108 : Does sz I_X0_acceptLetter [.ref (sz + 18), .int (nI 108)] (patch G 18 1 f, T) 0 0 (.inl (some (bi (isLet 108)))) (patch G 18 1 (if isLet 108 then put f 0 0 (nI 108) else f), T) := by
  refine Does.of (L := [(0, .ref (sz + 18)), (1, .int (nI 108))]) (by decide +kernel) (Nat.le_of_ble_eq_true rfl) rfl ⟨rfl, (by simp), ⟨rfl, (by simp), trivial⟩⟩ (fun VV hF => ?_)
  have hX := hF.c
  refine ro_iload_n (i := 1) (q := 1) hX dX0_acceptLetter_0 rfl rfl rfl ?_
  refine ro_tableIn (tgt := 104) (off := 103) hX dX0_acceptLetter_1 (by decide) (by decide) (by decide +kernel) (by decide) ?_
  refine ro_aload_n (i := 0) (q := 105) hX dX0_acceptLetter_104 rfl rfl rfl ?_
  refine ro_iload_n (i := 1) (q := 106) hX dX0_acceptLetter_105 rfl rfl rfl ?_
  refine ro_Rpi (j := 0) (q9 := 109) (ty := .char) (by decide) hX rfl rfl rfl kf_X0_11 dX0_acceptLetter_106 rfl ?_
  refine ro_iconst (v := nI 1) (q := 110) hX dX0_acceptLetter_109 rfl rfl ?_
  exact fin_z hF (Nat.le_of_ble_eq_true rfl) (Nat.le_of_ble_eq_true rfl) dX0_acceptLetter_110 rfl (by rfl) (by rfl)
set_option maxRecDepth 20000 in
set_option maxHeartbeats 2000000 in
theorem s_acceptLetter_109 : Does sz I_X0_acceptLetter [.ref (sz + 18), .int (nI 109)] (patch G 18 1 f, T) 0 0 (.inl (some (bi (isLet 109)))) (patch G 18 1 (if isLet 109 then put f 0 0 (nI 109) else f), T) := by
  refine Does.of (L := [(0, .ref (sz + 18)), (1, .int (nI 109))]) (by decide +kernel) (Nat.le_of_ble_eq_true rfl) rfl ⟨rfl, (by simp), ⟨rfl, (by simp), trivial⟩⟩ (fun VV hF => ?_)
  have hX := hF.c
  refine ro_iload_n (i := 1) (q := 1) hX dX0_acceptLetter_0 rfl rfl rfl ?_
  refine ro_tableIn (tgt := 111) (off := 110) hX dX0_acceptLetter_1 (by decide) (by decide) (by decide +kernel) (by decide) ?_
  refine ro_iconst (v := nI 0) (q := 112) hX dX0_acceptLetter_111 rfl rfl ?_
  exact fin_z hF (Nat.le_of_ble_eq_true rfl) (Nat.le_of_ble_eq_true rfl) dX0_acceptLetter_112 rfl (by rfl) (by rfl)
set_option maxRecDepth 20000 in
set_option maxHeartbeats 2000000 in
theorem s_acceptLetter_110 : Does sz I_X0_acceptLetter [.ref (sz + 18), .int (nI 110)] (patch G 18 1 f, T) 0 0 (.inl (some (bi (isLet 110)))) (patch G 18 1 (if isLet 110 then put f 0 0 (nI 110) else f), T) := by
  refine Does.of (L := [(0, .ref (sz + 18)), (1, .int (nI 110))]) (by decide +kernel) (Nat.le_of_ble_eq_true rfl) rfl ⟨rfl, (by simp), ⟨rfl, (by simp), trivial⟩⟩ (fun VV hF => ?_)
  have hX := hF.c
  refine ro_iload_n (i := 1) (q := 1) hX dX0_acceptLetter_0 rfl rfl rfl ?_
  refine ro_tableIn (tgt := 111) (off := 110) hX dX0_acceptLetter_1 (by decide) (by decide) (by decide +kernel) (by decide) ?_
  refine ro_iconst (v := nI 0) (q := 112) hX dX0_acceptLetter_111 rfl rfl ?_
  exact fin_z hF (Nat.le_of_ble_eq_true rfl) (Nat.le_of_ble_eq_true rfl) dX0_acceptLetter_112 rfl (by rfl) (by rfl)
set_option maxRecDepth 20000 in
set_option maxHeartbeats 2000000 in
theorem s_acceptLetter_111 : Does sz I_X0_acceptLetter [.ref (sz + 18), .int (nI 111)] (patch G 18 1 f, T) 0 0 (.inl (some (bi (isLet 111)))) (patch G 18 1 (if isLet 111 then put f 0 0 (nI 111) else f), T) := by
  refine Does.of (L := [(0, .ref (sz + 18)), (1, .int (nI 111))]) (by decide +kernel) (Nat.le_of_ble_eq_true rfl) rfl ⟨rfl, (by simp), ⟨rfl, (by simp), trivial⟩⟩ (fun VV hF => ?_)
  have hX := hF.c
  refine ro_iload_n (i := 1) (q := 1) hX dX0_acceptLetter_0 rfl rfl rfl ?_
  refine ro_tableIn (tgt := 104) (off := 103) hX dX0_acceptLetter_1 (by decide) (by decide) (by decide +kernel) (by decide) ?_
  refine ro_aload_n (i := 0) (q := 105) hX dX0_acceptLetter_104 rfl rfl rfl ?_
  refine ro_iload_n (i := 1) (q := 106) hX dX0_acceptLetter_105 rfl rfl rfl ?_
  refine ro_Rpi (j := 0) (q9 := 109) (ty := .char) (by decide) hX rfl rfl rfl kf_X0_11 dX0_acceptLetter_106 rfl ?_
  refine ro_iconst (v := nI 1) (q := 110) hX dX0_acceptLetter_109 rfl rfl ?_
  exact fin_z hF (Nat.le_of_ble_eq_true rfl) (Nat.le_of_ble_eq_true rfl) dX0_acceptLetter_110 rfl (by rfl) (by rfl)
set_option maxRecDepth 20000 in
set_option maxHeartbeats 2000000 in
theorem s_acceptLetter_112 : Does sz I_X0_acceptLetter [.ref (sz + 18), .int (nI 112)] (patch G 18 1 f, T) 0 0 (.inl (some (bi (isLet 112)))) (patch G 18 1 (if isLet 112 then put f 0 0 (nI 112) else f), T) := by
  refine Does.of (L := [(0, .ref (sz + 18)), (1, .int (nI 112))]) (by decide +kernel) (Nat.le_of_ble_eq_true rfl) rfl ⟨rfl, (by simp), ⟨rfl, (by simp), trivial⟩⟩ (fun VV hF => ?_)
  have hX := hF.c
  refine ro_iload_n (i := 1) (q := 1) hX dX0_acceptLetter_0 rfl rfl rfl ?_
  refine ro_tableIn (tgt := 111) (off := 110) hX dX0_acceptLetter_1 (by decide) (by decide) (by decide +kernel) (by decide) ?_
  refine ro_iconst (v := nI 0) (q := 112) hX dX0_acceptLetter_111 rfl rfl ?_
  exact fin_z hF (Nat.le_of_ble_eq_true rfl) (Nat.le_of_ble_eq_true rfl) dX0_acceptLetter_112 rfl (by rfl) (by rfl)
set_option maxRecDepth 20000 in
set_option maxHeartbeats 2000000 in
theorem s_acceptLetter_113 : Does sz I_X0_acceptLetter [.ref (sz + 18), .int (nI 113)] (patch G 18 1 f, T) 0 0 (.inl (some (bi (isLet 113)))) (patch G 18 1 (if isLet 113 then put f 0 0 (nI 113) else f), T) := by
  refine Does.of (L := [(0, .ref (sz + 18)), (1, .int (nI 113))]) (by decide +kernel) (Nat.le_of_ble_eq_true rfl) rfl ⟨rfl, (by simp), ⟨rfl, (by simp), trivial⟩⟩ (fun VV hF => ?_)
  have hX := hF.c
  refine ro_iload_n (i := 1) (q := 1) hX dX0_acceptLetter_0 rfl rfl rfl ?_
  refine ro_tableIn (tgt := 111) (off := 110) hX dX0_acceptLetter_1 (by decide) (by decide) (by decide +kernel) (by decide) ?_
  refine ro_iconst (v := nI 0) (q := 112) hX dX0_acceptLetter_111 rfl rfl ?_
  exact fin_z hF (Nat.le_of_ble_eq_true rfl) (Nat.le_of_ble_eq_true rfl) dX0_acceptLetter_112 rfl (by rfl) (by rfl)
set_option maxRecDepth 20000 in
set_option maxHeartbeats 2000000 in
theorem s_acceptLetter_114 : Does sz I_X0_acceptLetter [.ref (sz + 18), .int (nI 114)] (patch G 18 1 f, T) 0 0 (.inl (some (bi (isLet 114)))) (patch G 18 1 (if isLet 114 then put f 0 0 (nI 114) else f), T) := by
  refine Does.of (L := [(0, .ref (sz + 18)), (1, .int (nI 114))]) (by decide +kernel) (Nat.le_of_ble_eq_true rfl) rfl ⟨rfl, (by simp), ⟨rfl, (by simp), trivial⟩⟩ (fun VV hF => ?_)
  have hX := hF.c
  refine ro_iload_n (i := 1) (q := 1) hX dX0_acceptLetter_0 rfl rfl rfl ?_
  refine ro_tableIn (tgt := 104) (off := 103) hX dX0_acceptLetter_1 (by decide) (by decide) (by decide +kernel) (by decide) ?_
  refine ro_aload_n (i := 0) (q := 105) hX dX0_acceptLetter_104 rfl rfl rfl ?_
  refine ro_iload_n (i := 1) (q := 106) hX dX0_acceptLetter_105 rfl rfl rfl ?_
  refine ro_Rpi (j := 0) (q9 := 109) (ty := .char) (by decide) hX rfl rfl rfl kf_X0_11 dX0_acceptLetter_106 rfl ?_
  refine ro_iconst (v := nI 1) (q := 110) hX dX0_acceptLetter_109 rfl rfl ?_
  exact fin_z hF (Nat.le_of_ble_eq_true rfl) (Nat.le_of_ble_eq_true rfl) dX0_acceptLetter_110 rfl (by rfl) (by rfl)
set_option maxRecDepth 20000 in
set_option maxHeartbeats 2000000 in
theorem s_acceptLetter_115 : Does sz I_X0_acceptLetter [.ref (sz + 18), .int (nI 115)] (patch G 18 1 f, T) 0 0 (.inl (some (bi (isLet 115)))) (patch G 18 1 (if isLet 115 then put f 0 0 (nI 115) else f), T) := by
  refine Does.of (L := [(0, .ref (sz + 18)), (1, .int (nI 115))]) (by decide +kernel) (Nat.le_of_ble_eq_true rfl) rfl ⟨rfl, (by simp), ⟨rfl, (by simp), trivial⟩⟩ (fun VV hF => ?_)
  have hX := hF.c
  refine ro_iload_n (i := 1) (q := 1) hX dX0_acceptLetter_0 rfl rfl rfl ?_
  refine ro_tableIn (tgt := 104) (off := 103) hX dX0_acceptLetter_1 (by decide) (by decide) (by decide +kernel) (by decide) ?_
  refine ro_aload_n (i := 0) (q := 105) hX dX0_acceptLetter_104 rfl rfl rfl ?_
  refine ro_iload_n (i := 1) (q := 106) hX dX0_acceptLetter_105 rfl rfl rfl ?_
  refine ro_Rpi (j := 0) (q9 := 109) (ty := .char) (by decide) hX rfl rfl rfl kf_X0_11 dX0_acceptLetter_106 rfl ?_
  refine ro_iconst (v := nI 1) (q := 110) hX dX0_acceptLetter_109 rfl rfl ?_
  exact fin_z hF (Nat.le_of_ble_eq_true rfl) (Nat.le_of_ble_eq_true rfl) dX0_acceptLetter_110 rfl (by rfl) (by rfl)
set_option maxRecDepth 20000 in
set_option maxHeartbeats 2000000 in
theorem s_acceptLetter_116 : Does sz I_X0_acceptLetter [.ref (sz + 18), .int (nI 116)] (patch G 18 1 f, T) 0 0 (.inl (some (bi (isLet 116)))) (patch G 18 1 (if isLet 116 then put f 0 0 (nI 116) else f), T) := by
  refine Does.of (L := [(0, .ref (sz + 18)), (1, .int (nI 116))]) (by decide +kernel) (Nat.le_of_ble_eq_true rfl) rfl ⟨rfl, (by simp), ⟨rfl, (by simp), trivial⟩⟩ (fun VV hF => ?_)
  have hX := hF.c
  refine ro_iload_n (i := 1) (q := 1) hX dX0_acceptLetter_0 rfl rfl rfl ?_
  refine ro_tableIn (tgt := 104) (off := 103) hX dX0_acceptLetter_1 (by decide) (by decide) (by decide +kernel) (by decide) ?_
  refine ro_aload_n (i := 0) (q := 105) hX dX0_acceptLetter_104 rfl rfl rfl ?_
  refine ro_iload_n (i := 1) (q := 106) hX dX0_acceptLetter_105 rfl rfl rfl ?_
  refine ro_Rpi (j := 0) (q9 := 109) (ty := .char) (by decide) hX rfl rfl rfl kf_X0_11 dX0_acceptLetter_106 rfl ?_
  refine ro_iconst (v := nI 1) (q := 110) hX dX0_acceptLetter_109 rfl rfl ?_
  exact fin_z hF (Nat.le_of_ble_eq_true rfl) (Nat.le_of_ble_eq_true rfl) dX0_acceptLetter_110 rfl (by rfl) (by rfl)
set_option maxRecDepth 20000 in
set_option maxHeartbeats 2000000 in
theorem s_acceptLetter_117 : Does sz I_X0_acceptLetter [.ref (sz + 18), .int (nI 117)] (patch G 18 1 f, T) 0 0 (.inl (some (bi (isLet 117)))) (patch G 18 1 (if isLet 117 then put f 0 0 (nI 117) else f), T) := by
  refine Does.of (L := [(0, .ref (sz + 18)), (1, .int (nI 117))]) (by decide +kernel) (Nat.le_of_ble_eq_true rfl) rfl ⟨rfl, (by simp), ⟨rfl, (by simp), trivial⟩⟩ (fun VV hF => ?_)
  have hX := hF.c
  refine ro_iload_n (i := 1) (q := 1) hX dX0_acceptLetter_0 rfl rfl rfl ?_
  refine ro_tableIn (tgt := 111) (off := 110) hX dX0_acceptLetter_1 (by decide) (by decide) (by decide +kernel) (by decide) ?_
  refine ro_iconst (v := nI 0) (q := 112) hX dX0_acceptLetter_111 rfl rfl ?_
  exact fin_z hF (Nat.le_of_ble_eq_true rfl) (Nat.le_of_ble_eq_true rfl) dX0_acceptLetter_112 rfl (by rfl) (by rfl)
set_option maxRecDepth 20000 in
set_option maxHeartbeats 2000000 in
theorem s_acceptLetter_118 : Does sz I_X0_acceptLetter [.ref (sz + 18), .int (nI 118)] (patch G 18 1 f, T) 0 0 (.inl (some (bi (isLet 118)))) (patch G 18 1 (if isLet 118 then put f 0 0 (nI 118) else f), T) := by
  refine Does.of (L := [(0, .ref (sz + 18)), (1, .int (nI 118))]) (by decide +kernel) (Nat.le_of_ble_eq_true rfl) rfl ⟨rfl, (by simp), ⟨rfl, (by simp), trivial⟩⟩ (fun VV hF => ?_)
  have hX := hF.c
  refine ro_iload_n (i := 1) (q := 1) hX dX0_acceptLetter_0 rfl rfl rfl ?_
  refine ro_tableIn (tgt := 111) (off := 110) hX dX0_acceptLetter_1 (by decide) (by decide) (by decide +kernel) (by decide) ?_
  refine ro_iconst (v := nI 0) (q := 112) hX dX0_acceptLetter_111 rfl rfl ?_
  exact fin_z hF (Nat.le_of_ble_eq_true rfl) (Nat.le_of_ble_eq_true rfl) dX0_acceptLetter_112 rfl (by rfl) (by rfl)
set_option maxRecDepth 20000 in
set_option maxHeartbeats 2000000 in
theorem s_acceptLetter_119 : Does sz I_X0_acceptLetter [.ref (sz + 18), .int (nI 119)] (patch G 18 1 f, T) 0 0 (.inl (some (bi (isLet 119)))) (patch G 18 1 (if isLet 119 then put f 0 0 (nI 119) else f), T) := by
  refine Does.of (L := [(0, .ref (sz + 18)), (1, .int (nI 119))]) (by decide +kernel) (Nat.le_of_ble_eq_true rfl) rfl ⟨rfl, (by simp), ⟨rfl, (by simp), trivial⟩⟩ (fun VV hF => ?_)
  have hX := hF.c
  refine ro_iload_n (i := 1) (q := 1) hX dX0_acceptLetter_0 rfl rfl rfl ?_
  refine ro_tableIn (tgt := 104) (off := 103) hX dX0_acceptLetter_1 (by decide) (by decide) (by decide +kernel) (by decide) ?_
  refine ro_aload_n (i := 0) (q := 105) hX dX0_acceptLetter_104 rfl rfl rfl ?_
  refine ro_iload_n (i := 1) (q := 106) hX dX0_acceptLetter_105 rfl rfl rfl ?_
  refine ro_Rpi (j := 0) (q9 := 109) (ty := .char) (by decide) hX rfl rfl rfl kf_X0_11 dX0_acceptLetter_106 rfl ?_
  refine ro_iconst (v := nI 1) (q := 110) hX dX0_acceptLetter_109 rfl rfl ?_
  exact fin_z hF (Nat.le_of_ble_eq_true rfl) (Nat.le_of_ble_eq_true rfl) dX0_acceptLetter_110 rfl (by rfl) (by rfl)
set_option maxRecDepth 20000 in
set_option maxHeartbeats 2000000 in
theorem s_acceptLetter_120 : Does sz I_X0_acceptLetter [.ref (sz + 18), .int (nI 120)] (patch G 18 1 f, T) 0 0 (.inl (some (bi (isLet 120)))) (patch G 18 1 (if isLet 120 then put f 0 0 (nI 120) else f), T) := by
  refine Does.of (L := [(0, .ref (sz + 18)), (1, .int (nI 120))]) (by decide +kernel) (Nat.le_of_ble_eq_true rfl) rfl ⟨rfl, (by simp), ⟨rfl, (by simp), trivial⟩⟩ (fun VV hF => ?_)
  have hX := hF.c
  refine ro_iload_n (i := 1) (q := 1) hX dX0_acceptLetter_0 rfl rfl rfl ?_
  refine ro_tableIn (tgt := 104) (off := 103) hX dX0_acceptLetter_1 (by decide) (by decide) (by decide +kernel) (by decide) ?_
  refine ro_aload_n (i := 0) (q := 105) hX dX0_acceptLetter_104 rfl rfl rfl ?_
  refine ro_iload_n (i := 1) (q := 106) hX dX0_acceptLetter_105 rfl rfl rfl ?_
  refine ro_Rpi (j := 0) (q9 := 109) (ty := .char) (by decide) hX rfl rfl rfl kf_X0_11 dX0_acceptLetter_106 rfl ?_
  refine ro_iconst (v := nI 1) (q := 110) hX dX0_acceptLetter_109 rfl rfl ?_
  exact fin_z hF (Nat.le_of_ble_eq_true rfl) (Nat.le_of_ble_eq_true rfl) dX0_acceptLetter_110 rfl (by rfl) (by rfl)
set_option maxRecDepth 20000 in
set_option maxHeartbeats 2000000 in
theorem s_acceptLetter_o {c : Nat} (hc : c < 128) (ho : c < 99 ∨ 120 < c) : Does sz I_X0_acceptLetter [.ref (sz + 18), .int (nI c)] (patch G 18 1 f, T) 0 0 (.inl (some (bi (isLet c)))) (patch G 18 1 (if isLet c then put f 0 0 (nI c) else f), T) := by
  refine Does.of (L := [(0, .ref (sz + 18)), (1, .int (nI c))]) (by decide +kernel) (Nat.le_of_ble_eq_true rfl) rfl ⟨rfl, (by simp), ⟨rfl, (by simp), trivial⟩⟩ (fun VV hF => ?_)
  have hX := hF.c
  refine ro_iload_n (i := 1) (q := 1) hX dX0_acceptLetter_0 rfl rfl rfl ?_
  refine ro_tableOut (tgt := 111) hX dX0_acceptLetter_1 (by rw [nI_toInt (by omega)]; omega) (by decide) ?_
  refine ro_iconst (v := nI 0) (q := 112) hX dX0_acceptLetter_111 rfl rfl ?_
  exact fin_z hF (Nat.le_of_ble_eq_true rfl) (Nat.le_of_ble_eq_true rfl) dX0_acceptLetter_112 rfl (by rw [isLet_o ho]; rfl) (by rw [isLet_o ho]; rfl)
theorem s_acceptLetter {c : Nat} (hc : c < 128) : Does sz I_X0_acceptLetter [.ref (sz + 18), .int (nI c)] (patch G 18 1 f, T) 0 0 (.inl (some (bi (isLet c)))) (patch G 18 1 (if isLet c then put f 0 0 (nI c) else f), T) := by
  by_cases ho : c < 99 ∨ 120 < c
  · exact s_acceptLetter_o hc ho
  · have : c = 99 ∨ c = 100 ∨ c = 101 ∨ c = 102 ∨ c = 103 ∨ c = 104 ∨ c = 105 ∨ c = 106 ∨ c = 107 ∨ c = 108 ∨ c = 109 ∨ c = 110 ∨ c = 111 ∨ c = 112 ∨ c = 113 ∨ c = 114 ∨ c = 115 ∨ c = 116 ∨ c = 117 ∨ c = 118 ∨ c = 119 ∨ c = 120 := by omega
    rcases this with rfl | rfl | rfl | rfl | rfl | rfl | rfl | rfl | rfl | rfl | rfl | rfl | rfl | rfl | rfl | rfl | rfl | rfl | rfl | rfl | rfl | rfl
    · exact s_acceptLetter_99
    · exact s_acceptLetter_100
    · exact s_acceptLetter_101
    · exact s_acceptLetter_102
    · exact s_acceptLetter_103
    · exact s_acceptLetter_104
    · exact s_acceptLetter_105
    · exact s_acceptLetter_106
    · exact s_acceptLetter_107
    · exact s_acceptLetter_108
    · exact s_acceptLetter_109
    · exact s_acceptLetter_110
    · exact s_acceptLetter_111
    · exact s_acceptLetter_112
    · exact s_acceptLetter_113
    · exact s_acceptLetter_114
    · exact s_acceptLetter_115
    · exact s_acceptLetter_116
    · exact s_acceptLetter_117
    · exact s_acceptLetter_118
    · exact s_acceptLetter_119
    · exact s_acceptLetter_120
end
