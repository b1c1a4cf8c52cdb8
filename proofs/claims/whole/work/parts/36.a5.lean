section
variable {sz r : Nat} {G : Nat → Nat → Int32} {T : (Nat → Nat) × Int64} {F : SV} {s : NV}
set_option maxRecDepth 20000 in
set_option maxHeartbeats 2000000 in
theorem a_appendText_1 {x : Int32} (hx : inB x (nI 32) (nI 126) = false) : Does sz I_X3_appendText [.ref (sz + 75), .int x] (patch G 75 4 (mS F s), T) 0 0 (.inl (some (nI 0))) (patch G 75 4 (mS (put F 0 0 (nI 1)) s), T) := by
  refine Does.of (L := [(0, .ref (sz + 75)), (1, .int x)]) (by decide +kernel) (Nat.le_of_ble_eq_true rfl) rfl ⟨rfl, (by simp), ⟨rfl, (by simp), trivial⟩⟩ (fun VV hF => ?_)
  have hX := hF.c
  refine ro_aload_n (i := 0) (q := 1) hX dX3_appendText_0 rfl rfl rfl ?_
  refine ro_iload_n (i := 1) (q := 2) hX dX3_appendText_1 rfl rfl rfl ?_
  refine ro_bipush (v := nI 32) (q := 4) hX dX3_appendText_2 rfl rfl ?_
  refine ro_bipush (v := nI 126) (q := 6) hX dX3_appendText_4 rfl rfl ?_
  refine ro_callSi (q9 := 9) hX (m_in_f hx) mw_X3_in kl_X3_24 rfl rfl (Nat.le_of_ble_eq_true rfl) ⟨Nat.le_of_ble_eq_true rfl, Nat.le_of_ble_eq_true rfl⟩ dX3_appendText_6 ⟨Nat.le_of_ble_eq_true rfl, Nat.le_of_ble_eq_true rfl⟩ rfl ?_
  refine ro_if_ne (tgt := 16) (q := 12) hX dX3_appendText_9 (by decide) rfl (fun q => absurd (by decide) q) (fun _ => ?_)
  refine ro_iconst (v := nI 1) (q := 13) hX dX3_appendText_12 rfl rfl ?_
  refine ro_goto (tgt := 30) hX dX3_appendText_13 (by decide) ?_
  refine ro_callVi (q9 := 33) hX (m_holds_1) mw_X3_holds kl_X3_109 (by decide) (fun cy => cell3 (by decide +kernel)) rfl rfl rfl (Nat.le_of_ble_eq_true rfl) ⟨Nat.le_of_ble_eq_true rfl, Nat.le_of_ble_eq_true rfl⟩ dX3_appendText_30 ⟨Nat.le_of_ble_eq_true rfl, Nat.le_of_ble_eq_true rfl⟩ rfl ?_
  refine ro_if_ne (tgt := 38) (q := 36) hX dX3_appendText_33 (by decide) rfl (fun q => absurd (by decide) q) (fun _ => ?_)
  refine ro_iconst (v := nI 0) (q := 37) hX dX3_appendText_36 rfl rfl ?_
  exact fin_i hF (Nat.le_of_ble_eq_true rfl) (Nat.le_of_ble_eq_true rfl) dX3_appendText_37 (by rfl) (by rfl)
set_option maxRecDepth 20000 in
set_option maxHeartbeats 2000000 in
theorem a_appendText_2 {x : Int32} (hx : inB x (nI 32) (nI 126) = true) (hL : F 0 5 = nI 80) : Does sz I_X3_appendText [.ref (sz + 75), .int x] (patch G 75 4 (mS F s), T) 0 0 (.inl (some (nI 0))) (patch G 75 4 (mS (put F 0 0 (nI 2)) s), T) := by
  refine Does.of (L := [(0, .ref (sz + 75)), (1, .int x)]) (by decide +kernel) (Nat.le_of_ble_eq_true rfl) rfl ⟨rfl, (by simp), ⟨rfl, (by simp), trivial⟩⟩ (fun VV hF => ?_)
  have hX := hF.c
  refine ro_aload_n (i := 0) (q := 1) hX dX3_appendText_0 rfl rfl rfl ?_
  refine ro_iload_n (i := 1) (q := 2) hX dX3_appendText_1 rfl rfl rfl ?_
  refine ro_bipush (v := nI 32) (q := 4) hX dX3_appendText_2 rfl rfl ?_
  refine ro_bipush (v := nI 126) (q := 6) hX dX3_appendText_4 rfl rfl ?_
  refine ro_callSi (q9 := 9) hX (m_in_t hx) mw_X3_in kl_X3_24 rfl rfl (Nat.le_of_ble_eq_true rfl) ⟨Nat.le_of_ble_eq_true rfl, Nat.le_of_ble_eq_true rfl⟩ dX3_appendText_6 ⟨Nat.le_of_ble_eq_true rfl, Nat.le_of_ble_eq_true rfl⟩ rfl ?_
  refine ro_if_ne (tgt := 16) (q := 12) hX dX3_appendText_9 (by decide) rfl (fun _ => ?_) (fun q => absurd q (by decide))
  refine ro_aload_n (i := 0) (q := 17) hX dX3_appendText_16 rfl rfl rfl ?_
  refine ro_Ngi (j := 5) (q9 := 20) (by decide) hX kf_X3_158 dX3_appendText_17 rfl ?_
  refine vv_top (y := (nI 80)) (hL) ?_
  refine ro_bipush (v := nI 80) (q := 22) hX dX3_appendText_20 rfl rfl ?_
  refine ro_icmp_ne (tgt := 29) (q := 25) hX dX3_appendText_22 (by decide) rfl (fun q => absurd (by decide) q) (fun _ => ?_)
  refine ro_iconst (v := nI 2) (q := 26) hX dX3_appendText_25 rfl rfl ?_
  refine ro_goto (tgt := 30) hX dX3_appendText_26 (by decide) ?_
  refine ro_callVi (q9 := 33) hX (m_holds_2) mw_X3_holds kl_X3_109 (by decide) (fun cy => cell3 (by decide +kernel)) rfl rfl rfl (Nat.le_of_ble_eq_true rfl) ⟨Nat.le_of_ble_eq_true rfl, Nat.le_of_ble_eq_true rfl⟩ dX3_appendText_30 ⟨Nat.le_of_ble_eq_true rfl, Nat.le_of_ble_eq_true rfl⟩ rfl ?_
  refine ro_if_ne (tgt := 38) (q := 36) hX dX3_appendText_33 (by decide) rfl (fun q => absurd (by decide) q) (fun _ => ?_)
  refine ro_iconst (v := nI 0) (q := 37) hX dX3_appendText_36 rfl rfl ?_
  exact fin_i hF (Nat.le_of_ble_eq_true rfl) (Nat.le_of_ble_eq_true rfl) dX3_appendText_37 (by rfl) (by rfl)
set_option maxRecDepth 20000 in
set_option maxHeartbeats 2000000 in
theorem a_appendText {x : Int32} (hx : inB x (nI 32) (nI 126) = true) {t : Nat} (ht : t < 80) (hL : F 0 5 = nI t) : Does sz I_X3_appendText [.ref (sz + 75), .int x] (patch G 75 4 (mS F s), T) 0 0 (.inl (some (nI (t + 1)))) (patch G 75 4 (mS (put (put (put F 0 0 (nI 0)) 3 t x) 0 5 (nI (t + 1))) s), T) := by
  refine Does.of (L := [(0, .ref (sz + 75)), (1, .int x)]) (by decide +kernel) (Nat.le_of_ble_eq_true rfl) rfl ⟨rfl, (by simp), ⟨rfl, (by simp), trivial⟩⟩ (fun VV hF => ?_)
  have hX := hF.c
  refine ro_aload_n (i := 0) (q := 1) hX dX3_appendText_0 rfl rfl rfl ?_
  refine ro_iload_n (i := 1) (q := 2) hX dX3_appendText_1 rfl rfl rfl ?_
  refine ro_bipush (v := nI 32) (q := 4) hX dX3_appendText_2 rfl rfl ?_
  refine ro_bipush (v := nI 126) (q := 6) hX dX3_appendText_4 rfl rfl ?_
  refine ro_callSi (q9 := 9) hX (m_in_t hx) mw_X3_in kl_X3_24 rfl rfl (Nat.le_of_ble_eq_true rfl) ⟨Nat.le_of_ble_eq_true rfl, Nat.le_of_ble_eq_true rfl⟩ dX3_appendText_6 ⟨Nat.le_of_ble_eq_true rfl, Nat.le_of_ble_eq_true rfl⟩ rfl ?_
  refine ro_if_ne (tgt := 16) (q := 12) hX dX3_appendText_9 (by decide) rfl (fun _ => ?_) (fun q => absurd q (by decide))
  refine ro_aload_n (i := 0) (q := 17) hX dX3_appendText_16 rfl rfl rfl ?_
  refine ro_Ngi (j := 5) (q9 := 20) (by decide) hX kf_X3_158 dX3_appendText_17 rfl ?_
  refine vv_top (y := (nI t)) (hL) ?_
  refine ro_bipush (v := nI 80) (q := 22) hX dX3_appendText_20 rfl rfl ?_
  refine ro_icmp_ne (tgt := 29) (q := 25) hX dX3_appendText_22 (by decide) rfl (fun _ => ?_) (fun q => absurd q (by first | exact ni_nle (by omega) (by omega) | exact ni_lt (by omega) (by omega) | exact ni_nlt (by omega) (by omega) | exact ni_le (by omega) (by omega) | exact ni_ne (by omega) (by omega) (by omega)))
  refine ro_iconst (v := nI 0) (q := 30) hX dX3_appendText_29 rfl rfl ?_
  refine ro_callVi (q9 := 33) hX (m_holds_0) mw_X3_holds kl_X3_109 (by decide) (fun cy => cell3 (by decide +kernel)) rfl rfl rfl (Nat.le_of_ble_eq_true rfl) ⟨Nat.le_of_ble_eq_true rfl, Nat.le_of_ble_eq_true rfl⟩ dX3_appendText_30 ⟨Nat.le_of_ble_eq_true rfl, Nat.le_of_ble_eq_true rfl⟩ rfl ?_
  refine ro_if_ne (tgt := 38) (q := 36) hX dX3_appendText_33 (by decide) rfl (fun _ => ?_) (fun q => absurd q (by decide))
  refine ro_aload_n (i := 0) (q := 39) hX dX3_appendText_38 rfl rfl rfl ?_
  refine ro_Nga4 (q9 := 42) hX kf_X3_17 dX3_appendText_39 rfl ?_
  refine ro_aload_n (i := 0) (q := 43) hX dX3_appendText_42 rfl rfl rfl ?_
  refine ro_Ngi (j := 5) (q9 := 46) (by decide) hX kf_X3_158 dX3_appendText_43 rfl ?_
  refine vv_top (y := (nI t)) (hL) ?_
  refine ro_iload_n (i := 1) (q := 47) hX dX3_appendText_46 rfl rfl rfl ?_
  refine ro_Ntst (n := t) (q9 := 48) hX rfl (by omega) dX3_appendText_47 rfl ?_
  refine ro_aload_n (i := 0) (q := 49) hX dX3_appendText_48 rfl rfl rfl ?_
  refine ro_dup (q := 50) hX dX3_appendText_49 rfl rfl ?_
  refine ro_Ngi (j := 5) (q9 := 53) (by decide) hX kf_X3_158 dX3_appendText_50 rfl ?_
  refine vv_top (y := (nI t)) (hL) ?_
  refine ro_iconst (v := nI 1) (q := 54) hX dX3_appendText_53 rfl rfl ?_
  refine ro_iadd (q := 55) hX dX3_appendText_54 rfl ?_
  refine vv_top (y := nI (t + 1)) (nI_add' rfl rfl) ?_
  refine ro_Npi (j := 5) (q9 := 58) (ty := .int) (by decide) hX rfl rfl rfl kf_X3_158 dX3_appendText_55 rfl ?_
  refine ro_aload_n (i := 0) (q := 59) hX dX3_appendText_58 rfl rfl rfl ?_
  refine ro_Ngi (j := 5) (q9 := 62) (by decide) hX kf_X3_158 dX3_appendText_59 rfl ?_
  refine vv_top (y := (nI (t + 1))) (rfl) ?_
  exact fin_i hF (Nat.le_of_ble_eq_true rfl) (Nat.le_of_ble_eq_true rfl) dX3_appendText_62 (by rfl) (by rfl)
set_option maxRecDepth 20000 in
set_option maxHeartbeats 2000000 in
theorem a_clearText : Does sz I_X3_clearText [.ref (sz + 75)] (patch G 75 4 (mS F s), T) 0 0 (.inl (some (F 0 5))) (patch G 75 4 (mS (put (put F 0 0 (nI 0)) 0 5 (nI 0)) s), T) := by
  refine Does.of (L := [(0, .ref (sz + 75))]) (by decide +kernel) (Nat.le_of_ble_eq_true rfl) rfl ⟨rfl, (by simp), trivial⟩ (fun VV hF => ?_)
  have hX := hF.c
  refine ro_aload_n (i := 0) (q := 1) hX dX3_clearText_0 rfl rfl rfl ?_
  refine ro_iconst (v := nI 0) (q := 2) hX dX3_clearText_1 rfl rfl ?_
  refine ro_Npi (j := 0) (q9 := 5) (ty := .int) (by decide) hX rfl rfl rfl kf_X3_20 dX3_clearText_2 rfl ?_
  refine ro_aload_n (i := 0) (q := 6) hX dX3_clearText_5 rfl rfl rfl ?_
  refine ro_Ngi (j := 5) (q9 := 9) (by decide) hX kf_X3_158 dX3_clearText_6 rfl ?_
  refine ro_istore_n (i := 1) (q := 10) hX dX3_clearText_9 rfl (Nat.le_of_ble_eq_true rfl) rfl ?_
  refine ro_aload_n (i := 0) (q := 11) hX dX3_clearText_10 rfl rfl rfl ?_
  refine ro_iconst (v := nI 0) (q := 12) hX dX3_clearText_11 rfl rfl ?_
  refine ro_Npi (j := 5) (q9 := 15) (ty := .int) (by decide) hX rfl rfl rfl kf_X3_158 dX3_clearText_12 rfl ?_
  refine ro_iload_n (i := 1) (q := 16) hX dX3_clearText_15 rfl rfl rfl ?_
  exact fin_i hF (Nat.le_of_ble_eq_true rfl) (Nat.le_of_ble_eq_true rfl) dX3_clearText_16 (by rfl) (by rfl)
set_option maxRecDepth 20000 in
set_option maxHeartbeats 2000000 in
theorem a_undo_1 (hF9 : F 0 2 = nI 0) : Does sz I_X3_undo [.ref (sz + 75)] (patch G 75 4 (mS F s), T) 0 0 (.inl (some (nI 0))) (patch G 75 4 (mS (put F 0 0 (nI 1)) s), T) := by
  refine Does.of (L := [(0, .ref (sz + 75))]) (by decide +kernel) (Nat.le_of_ble_eq_true rfl) rfl ⟨rfl, (by simp), trivial⟩ (fun VV hF => ?_)
  have hX := hF.c
  refine ro_aload_n (i := 0) (q := 1) hX dX3_undo_0 rfl rfl rfl ?_
  refine ro_aload_n (i := 0) (q := 2) hX dX3_undo_1 rfl rfl rfl ?_
  refine ro_Ngi (j := 2) (q9 := 5) (by decide) hX kf_X3_95 dX3_undo_2 rfl ?_
  refine vv_top (y := (nI 0)) (hF9) ?_
  refine ro_if_le (tgt := 12) (q := 8) hX dX3_undo_5 (by decide) rfl (fun _ => ?_) (fun q => absurd (by decide) q)
  refine ro_iconst (v := nI 1) (q := 13) hX dX3_undo_12 rfl rfl ?_
  refine ro_callVi (q9 := 16) hX (m_holds_1) mw_X3_holds kl_X3_109 (by decide) (fun cy => cell3 (by decide +kernel)) rfl rfl rfl (Nat.le_of_ble_eq_true rfl) ⟨Nat.le_of_ble_eq_true rfl, Nat.le_of_ble_eq_true rfl⟩ dX3_undo_13 ⟨Nat.le_of_ble_eq_true rfl, Nat.le_of_ble_eq_true rfl⟩ rfl ?_
  refine ro_if_ne (tgt := 21) (q := 19) hX dX3_undo_16 (by decide) rfl (fun q => absurd (by decide) q) (fun _ => ?_)
  refine ro_iconst (v := nI 0) (q := 20) hX dX3_undo_19 rfl rfl ?_
  exact fin_i hF (Nat.le_of_ble_eq_true rfl) (Nat.le_of_ble_eq_true rfl) dX3_undo_20 (by rfl) (by rfl)
set_option maxRecDepth 20000 in
set_option maxHeartbeats 2000000 in
theorem a_undo {v : Nat} (hv : v < 6) (hF9 : F 0 2 = nI (v + 1)) : Does sz I_X3_undo [.ref (sz + 75)] (patch G 75 4 (mS F s), T) 0 0 (.inl (some (nI v))) (patch G 75 4 (mS (put (put F 0 0 (nI 0)) 0 2 (nI v)) (crM s (v + 1) 0)), T) := by
  refine Does.of (L := [(0, .ref (sz + 75))]) (by decide +kernel) (Nat.le_of_ble_eq_true rfl) rfl ⟨rfl, (by simp), trivial⟩ (fun VV hF => ?_)
  have hX := hF.c
  refine ro_aload_n (i := 0) (q := 1) hX dX3_undo_0 rfl rfl rfl ?_
  refine ro_aload_n (i := 0) (q := 2) hX dX3_undo_1 rfl rfl rfl ?_
  refine ro_Ngi (j := 2) (q9 := 5) (by decide) hX kf_X3_95 dX3_undo_2 rfl ?_
  refine vv_top (y := (nI (v + 1))) (hF9) ?_
  refine ro_if_le (tgt := 12) (q := 8) hX dX3_undo_5 (by decide) rfl (fun q => absurd q (fun q => absurd (ni_le0 (by omega) |>.mp q) (by omega))) (fun _ => ?_)
  refine ro_iconst (v := nI 0) (q := 9) hX dX3_undo_8 rfl rfl ?_
  refine ro_goto (tgt := 13) hX dX3_undo_9 (by decide) ?_
  refine ro_callVi (q9 := 16) hX (m_holds_0) mw_X3_holds kl_X3_109 (by decide) (fun cy => cell3 (by decide +kernel)) rfl rfl rfl (Nat.le_of_ble_eq_true rfl) ⟨Nat.le_of_ble_eq_true rfl, Nat.le_of_ble_eq_true rfl⟩ dX3_undo_13 ⟨Nat.le_of_ble_eq_true rfl, Nat.le_of_ble_eq_true rfl⟩ rfl ?_
  refine ro_if_ne (tgt := 21) (q := 19) hX dX3_undo_16 (by decide) rfl (fun _ => ?_) (fun q => absurd q (by decide))
  refine ro_aload_n (i := 0) (q := 22) hX dX3_undo_21 rfl rfl rfl ?_
  refine ro_aload_n (i := 0) (q := 23) hX dX3_undo_22 rfl rfl rfl ?_
  refine ro_Ngi (j := 2) (q9 := 26) (by decide) hX kf_X3_95 dX3_undo_23 rfl ?_
  refine vv_top (y := (nI (v + 1))) (hF9) ?_
  refine ro_iconst (v := nI 0) (q := 27) hX dX3_undo_26 rfl rfl ?_
  refine ro_callVv (q9 := 30) hX (m_carries (by omega) (by omega)) mw_X3_carries kl_X3_98 (by decide) (fun cy => cell3 (by decide +kernel)) rfl rfl rfl (Nat.le_of_ble_eq_true rfl) ⟨Nat.le_of_ble_eq_true rfl, Nat.le_of_ble_eq_true rfl⟩ dX3_undo_27 ⟨Nat.le_of_ble_eq_true rfl, Nat.le_of_ble_eq_true rfl⟩ rfl ?_
  refine ro_aload_n (i := 0) (q := 31) hX dX3_undo_30 rfl rfl rfl ?_
  refine ro_dup (q := 32) hX dX3_undo_31 rfl rfl ?_
  refine ro_Ngi (j := 2) (q9 := 35) (by decide) hX kf_X3_95 dX3_undo_32 rfl ?_
  refine vv_top (y := (nI (v + 1))) (hF9) ?_
  refine ro_iconst (v := nI 1) (q := 36) hX dX3_undo_35 rfl rfl ?_
  refine ro_isub (q := 37) hX dX3_undo_36 rfl ?_
  refine vv_top (y := (nI v)) (nI_pred v) ?_
  refine ro_Npi (j := 2) (q9 := 40) (ty := .int) (by decide) hX rfl rfl rfl kf_X3_95 dX3_undo_37 rfl ?_
  refine ro_aload_n (i := 0) (q := 41) hX dX3_undo_40 rfl rfl rfl ?_
  refine ro_Ngi (j := 2) (q9 := 44) (by decide) hX kf_X3_95 dX3_undo_41 rfl ?_
  refine vv_top (y := (nI v)) (rfl) ?_
  exact fin_i hF (Nat.le_of_ble_eq_true rfl) (Nat.le_of_ble_eq_true rfl) dX3_undo_44 (by rfl) (by rfl)
set_option maxRecDepth 20000 in
set_option maxHeartbeats 2000000 in
theorem a_save_1 {x : Int32} (hx : inB x (nI 0) (nI 1) = false) : Does sz I_X3_save [.ref (sz + 75), .int x] (patch G 75 4 (mS F s), T) 0 0 (.inl (some (nI 0))) (patch G 75 4 (mS (put F 0 0 (nI 1)) s), T) := by
  refine Does.of (L := [(0, .ref (sz + 75)), (1, .int x)]) (by decide +kernel) (Nat.le_of_ble_eq_true rfl) rfl ⟨rfl, (by simp), ⟨rfl, (by simp), trivial⟩⟩ (fun VV hF => ?_)
  have hX := hF.c
  refine ro_aload_n (i := 0) (q := 1) hX dX3_save_0 rfl rfl rfl ?_
  refine ro_iload_n (i := 1) (q := 2) hX dX3_save_1 rfl rfl rfl ?_
  refine ro_iconst (v := nI 0) (q := 3) hX dX3_save_2 rfl rfl ?_
  refine ro_iconst (v := nI 1) (q := 4) hX dX3_save_3 rfl rfl ?_
  refine ro_callSi (q9 := 7) hX (m_in_f hx) mw_X3_in kl_X3_24 rfl rfl (Nat.le_of_ble_eq_true rfl) ⟨Nat.le_of_ble_eq_true rfl, Nat.le_of_ble_eq_true rfl⟩ dX3_save_4 ⟨Nat.le_of_ble_eq_true rfl, Nat.le_of_ble_eq_true rfl⟩ rfl ?_
  refine ro_if_eq (tgt := 14) (q := 10) hX dX3_save_7 (by decide) rfl (fun _ => ?_) (fun q => absurd (by decide) q)
  refine ro_iconst (v := nI 1) (q := 15) hX dX3_save_14 rfl rfl ?_
  refine ro_callVi (q9 := 18) hX (m_holds_1) mw_X3_holds kl_X3_109 (by decide) (fun cy => cell3 (by decide +kernel)) rfl rfl rfl (Nat.le_of_ble_eq_true rfl) ⟨Nat.le_of_ble_eq_true rfl, Nat.le_of_ble_eq_true rfl⟩ dX3_save_15 ⟨Nat.le_of_ble_eq_true rfl, Nat.le_of_ble_eq_true rfl⟩ rfl ?_
  refine ro_if_ne (tgt := 23) (q := 21) hX dX3_save_18 (by decide) rfl (fun q => absurd (by decide) q) (fun _ => ?_)
  refine ro_iconst (v := nI 0) (q := 22) hX dX3_save_21 rfl rfl ?_
  exact fin_i hF (Nat.le_of_ble_eq_true rfl) (Nat.le_of_ble_eq_true rfl) dX3_save_22 (by rfl) (by rfl)
set_option maxRecDepth 20000 in
set_option maxHeartbeats 2000000 in
theorem a_save {c : Nat} (hc2 : c < 2) (hx : inB (nI c) (nI 0) (nI 1) = true) : Does sz I_X3_save [.ref (sz + 75), .int (nI c)] (patch G 75 4 (mS F s), T) 0 0 (.inl (some (crM s 0 (7 + c) 0))) (patch G 75 4 (mS (put (put F 0 0 (nI 0)) 2 c (nI 1)) (crM s 0 (7 + c))), T) := by
  refine Does.of (L := [(0, .ref (sz + 75)), (1, .int (nI c))]) (by decide +kernel) (Nat.le_of_ble_eq_true rfl) rfl ⟨rfl, (by simp), ⟨rfl, (by simp), trivial⟩⟩ (fun VV hF => ?_)
  have hX := hF.c
  refine ro_aload_n (i := 0) (q := 1) hX dX3_save_0 rfl rfl rfl ?_
  refine ro_iload_n (i := 1) (q := 2) hX dX3_save_1 rfl rfl rfl ?_
  refine ro_iconst (v := nI 0) (q := 3) hX dX3_save_2 rfl rfl ?_
  refine ro_iconst (v := nI 1) (q := 4) hX dX3_save_3 rfl rfl ?_
  refine ro_callSi (q9 := 7) hX (m_in_t hx) mw_X3_in kl_X3_24 rfl rfl (Nat.le_of_ble_eq_true rfl) ⟨Nat.le_of_ble_eq_true rfl, Nat.le_of_ble_eq_true rfl⟩ dX3_save_4 ⟨Nat.le_of_ble_eq_true rfl, Nat.le_of_ble_eq_true rfl⟩ rfl ?_
  refine ro_if_eq (tgt := 14) (q := 10) hX dX3_save_7 (by decide) rfl (fun q => absurd q (by decide)) (fun _ => ?_)
  refine ro_iconst (v := nI 0) (q := 11) hX dX3_save_10 rfl rfl ?_
  refine ro_goto (tgt := 15) hX dX3_save_11 (by decide) ?_
  refine ro_callVi (q9 := 18) hX (m_holds_0) mw_X3_holds kl_X3_109 (by decide) (fun cy => cell3 (by decide +kernel)) rfl rfl rfl (Nat.le_of_ble_eq_true rfl) ⟨Nat.le_of_ble_eq_true rfl, Nat.le_of_ble_eq_true rfl⟩ dX3_save_15 ⟨Nat.le_of_ble_eq_true rfl, Nat.le_of_ble_eq_true rfl⟩ rfl ?_
  refine ro_if_ne (tgt := 23) (q := 21) hX dX3_save_18 (by decide) rfl (fun _ => ?_) (fun q => absurd q (by decide))
  refine ro_aload_n (i := 0) (q := 24) hX dX3_save_23 rfl rfl rfl ?_
  refine ro_iconst (v := nI 0) (q := 25) hX dX3_save_24 rfl rfl ?_
  refine ro_bipush (v := nI 7) (q := 27) hX dX3_save_25 rfl rfl ?_
  refine ro_iload_n (i := 1) (q := 28) hX dX3_save_27 rfl rfl rfl ?_
  refine ro_iadd (q := 29) hX dX3_save_28 rfl ?_
  refine vv_top (y := nI (7 + c)) (nI_add' rfl rfl) ?_
  refine ro_callVv (q9 := 32) hX (m_carries (by omega) (by omega)) mw_X3_carries kl_X3_98 (by decide) (fun cy => cell3 (by decide +kernel)) rfl rfl rfl (Nat.le_of_ble_eq_true rfl) ⟨Nat.le_of_ble_eq_true rfl, Nat.le_of_ble_eq_true rfl⟩ dX3_save_29 ⟨Nat.le_of_ble_eq_true rfl, Nat.le_of_ble_eq_true rfl⟩ rfl ?_
  refine ro_aload_n (i := 0) (q := 33) hX dX3_save_32 rfl rfl rfl ?_
  refine ro_Nga3 (q9 := 36) hX kf_X3_13 dX3_save_33 rfl ?_
  refine ro_iload_n (i := 1) (q := 37) hX dX3_save_36 rfl rfl rfl ?_
  refine ro_iconst (v := nI 1) (q := 38) hX dX3_save_37 rfl rfl ?_
  refine ro_Nzst (n := c) (q9 := 39) hX rfl (by omega) rfl dX3_save_38 rfl ?_
  refine ro_aload_n (i := 0) (q := 40) hX dX3_save_39 rfl rfl rfl ?_
  refine ro_Nga1 (q9 := 43) hX kf_X3_7 dX3_save_40 rfl ?_
  refine ro_iconst (v := nI 0) (q := 44) hX dX3_save_43 rfl rfl ?_
  refine ro_Nsld (n := 0) (q9 := 45) hX rfl (by omega) dX3_save_44 rfl ?_
  exact fin_i hF (Nat.le_of_ble_eq_true rfl) (Nat.le_of_ble_eq_true rfl) dX3_save_45 (by rfl) (by rfl)
set_option maxRecDepth 20000 in
set_option maxHeartbeats 2000000 in
theorem a_restore_1 {x : Int32} (hx : inB x (nI 0) (nI 1) = false) : Does sz I_X3_restore [.ref (sz + 75), .int x] (patch G 75 4 (mS F s), T) 0 0 (.inl (some (nI 0))) (patch G 75 4 (mS (put F 0 0 (nI 1)) s), T) := by
  refine Does.of (L := [(0, .ref (sz + 75)), (1, .int x)]) (by decide +kernel) (Nat.le_of_ble_eq_true rfl) rfl ⟨rfl, (by simp), ⟨rfl, (by simp), trivial⟩⟩ (fun VV hF => ?_)
  have hX := hF.c
  refine ro_aload_n (i := 0) (q := 1) hX dX3_restore_0 rfl rfl rfl ?_
  refine ro_iload_n (i := 1) (q := 2) hX dX3_restore_1 rfl rfl rfl ?_
  refine ro_iconst (v := nI 0) (q := 3) hX dX3_restore_2 rfl rfl ?_
  refine ro_iconst (v := nI 1) (q := 4) hX dX3_restore_3 rfl rfl ?_
  refine ro_callSi (q9 := 7) hX (m_in_f hx) mw_X3_in kl_X3_24 rfl rfl (Nat.le_of_ble_eq_true rfl) ⟨Nat.le_of_ble_eq_true rfl, Nat.le_of_ble_eq_true rfl⟩ dX3_restore_4 ⟨Nat.le_of_ble_eq_true rfl, Nat.le_of_ble_eq_true rfl⟩ rfl ?_
  refine ro_if_ne (tgt := 14) (q := 10) hX dX3_restore_7 (by decide) rfl (fun q => absurd (by decide) q) (fun _ => ?_)
  refine ro_iconst (v := nI 1) (q := 11) hX dX3_restore_10 rfl rfl ?_
  refine ro_goto (tgt := 28) hX dX3_restore_11 (by decide) ?_
  refine ro_callVi (q9 := 31) hX (m_holds_1) mw_X3_holds kl_X3_109 (by decide) (fun cy => cell3 (by decide +kernel)) rfl rfl rfl (Nat.le_of_ble_eq_true rfl) ⟨Nat.le_of_ble_eq_true rfl, Nat.le_of_ble_eq_true rfl⟩ dX3_restore_28 ⟨Nat.le_of_ble_eq_true rfl, Nat.le_of_ble_eq_true rfl⟩ rfl ?_
  refine ro_if_ne (tgt := 36) (q := 34) hX dX3_restore_31 (by decide) rfl (fun q => absurd (by decide) q) (fun _ => ?_)
  refine ro_iconst (v := nI 0) (q := 35) hX dX3_restore_34 rfl rfl ?_
  exact fin_i hF (Nat.le_of_ble_eq_true rfl) (Nat.le_of_ble_eq_true rfl) dX3_restore_35 (by rfl) (by rfl)
set_option maxRecDepth 20000 in
set_option maxHeartbeats 2000000 in
theorem a_restore_2 {c : Nat} (hc2 : c < 2) (hx : inB (nI c) (nI 0) (nI 1) = true) (hc : F 2 c = 0) : Does sz I_X3_restore [.ref (sz + 75), .int (nI c)] (patch G 75 4 (mS F s), T) 0 0 (.inl (some (nI 0))) (patch G 75 4 (mS (put F 0 0 (nI 2)) s), T) := by
  refine Does.of (L := [(0, .ref (sz + 75)), (1, .int (nI c))]) (by decide +kernel) (Nat.le_of_ble_eq_true rfl) rfl ⟨rfl, (by simp), ⟨rfl, (by simp), trivial⟩⟩ (fun VV hF => ?_)
  have hX := hF.c
  refine ro_aload_n (i := 0) (q := 1) hX dX3_restore_0 rfl rfl rfl ?_
  refine ro_iload_n (i := 1) (q := 2) hX dX3_restore_1 rfl rfl rfl ?_
  refine ro_iconst (v := nI 0) (q := 3) hX dX3_restore_2 rfl rfl ?_
  refine ro_iconst (v := nI 1) (q := 4) hX dX3_restore_3 rfl rfl ?_
  refine ro_callSi (q9 := 7) hX (m_in_t hx) mw_X3_in kl_X3_24 rfl rfl (Nat.le_of_ble_eq_true rfl) ⟨Nat.le_of_ble_eq_true rfl, Nat.le_of_ble_eq_true rfl⟩ dX3_restore_4 ⟨Nat.le_of_ble_eq_true rfl, Nat.le_of_ble_eq_true rfl⟩ rfl ?_
  refine ro_if_ne (tgt := 14) (q := 10) hX dX3_restore_7 (by decide) rfl (fun _ => ?_) (fun q => absurd q (by decide))
  refine ro_aload_n (i := 0) (q := 15) hX dX3_restore_14 rfl rfl rfl ?_
  refine ro_Nga3 (q9 := 18) hX kf_X3_13 dX3_restore_15 rfl ?_
  refine ro_iload_n (i := 1) (q := 19) hX dX3_restore_18 rfl rfl rfl ?_
  refine ro_Nzld (n := c) (q9 := 20) hX rfl (by omega) dX3_restore_19 rfl ?_
  refine ro_if_ne (tgt := 27) (q := 23) hX dX3_restore_20 (by decide) rfl (fun q => absurd (hc) q) (fun _ => ?_)
  refine ro_iconst (v := nI 2) (q := 24) hX dX3_restore_23 rfl rfl ?_
  refine ro_goto (tgt := 28) hX dX3_restore_24 (by decide) ?_
  refine ro_callVi (q9 := 31) hX (m_holds_2) mw_X3_holds kl_X3_109 (by decide) (fun cy => cell3 (by decide +kernel)) rfl rfl rfl (Nat.le_of_ble_eq_true rfl) ⟨Nat.le_of_ble_eq_true rfl, Nat.le_of_ble_eq_true rfl⟩ dX3_restore_28 ⟨Nat.le_of_ble_eq_true rfl, Nat.le_of_ble_eq_true rfl⟩ rfl ?_
  refine ro_if_ne (tgt := 36) (q := 34) hX dX3_restore_31 (by decide) rfl (fun q => absurd (by decide) q) (fun _ => ?_)
  refine ro_iconst (v := nI 0) (q := 35) hX dX3_restore_34 rfl rfl ?_
  exact fin_i hF (Nat.le_of_ble_eq_true rfl) (Nat.le_of_ble_eq_true rfl) dX3_restore_35 (by rfl) (by rfl)
set_option maxRecDepth 20000 in
set_option maxHeartbeats 2000000 in
theorem a_restore {c : Nat} (hc2 : c < 2) (hx : inB (nI c) (nI 0) (nI 1) = true) (hc : ¬ F 2 c = 0) {v : Nat} (hv : v ≤ 6) (hF9 : F 0 2 = nI v) : Does sz I_X3_restore [.ref (sz + 75), .int (nI c)] (patch G 75 4 (mS F s), T) 0 0 (.inl (some (crM (kpS s v) (7 + c) 0 0))) (patch G 75 4 (mS (FK F v) (crM (kpS s v) (7 + c) 0)), T) := by
  refine Does.of (L := [(0, .ref (sz + 75)), (1, .int (nI c))]) (by decide +kernel) (Nat.le_of_ble_eq_true rfl) rfl ⟨rfl, (by simp), ⟨rfl, (by simp), trivial⟩⟩ (fun VV hF => ?_)
  have hX := hF.c
  refine ro_aload_n (i := 0) (q := 1) hX dX3_restore_0 rfl rfl rfl ?_
  refine ro_iload_n (i := 1) (q := 2) hX dX3_restore_1 rfl rfl rfl ?_
  refine ro_iconst (v := nI 0) (q := 3) hX dX3_restore_2 rfl rfl ?_
  refine ro_iconst (v := nI 1) (q := 4) hX dX3_restore_3 rfl rfl ?_
  refine ro_callSi (q9 := 7) hX (m_in_t hx) mw_X3_in kl_X3_24 rfl rfl (Nat.le_of_ble_eq_true rfl) ⟨Nat.le_of_ble_eq_true rfl, Nat.le_of_ble_eq_true rfl⟩ dX3_restore_4 ⟨Nat.le_of_ble_eq_true rfl, Nat.le_of_ble_eq_true rfl⟩ rfl ?_
  refine ro_if_ne (tgt := 14) (q := 10) hX dX3_restore_7 (by decide) rfl (fun _ => ?_) (fun q => absurd q (by decide))
  refine ro_aload_n (i := 0) (q := 15) hX dX3_restore_14 rfl rfl rfl ?_
  refine ro_Nga3 (q9 := 18) hX kf_X3_13 dX3_restore_15 rfl ?_
  refine ro_iload_n (i := 1) (q := 19) hX dX3_restore_18 rfl rfl rfl ?_
  refine ro_Nzld (n := c) (q9 := 20) hX rfl (by omega) dX3_restore_19 rfl ?_
  refine ro_if_ne (tgt := 27) (q := 23) hX dX3_restore_20 (by decide) rfl (fun _ => ?_) (fun q => absurd q (hc))
  refine ro_iconst (v := nI 0) (q := 28) hX dX3_restore_27 rfl rfl ?_
  refine ro_callVi (q9 := 31) hX (m_holds_0) mw_X3_holds kl_X3_109 (by decide) (fun cy => cell3 (by decide +kernel)) rfl rfl rfl (Nat.le_of_ble_eq_true rfl) ⟨Nat.le_of_ble_eq_true rfl, Nat.le_of_ble_eq_true rfl⟩ dX3_restore_28 ⟨Nat.le_of_ble_eq_true rfl, Nat.le_of_ble_eq_true rfl⟩ rfl ?_
  refine ro_if_ne (tgt := 36) (q := 34) hX dX3_restore_31 (by decide) rfl (fun _ => ?_) (fun q => absurd q (by decide))
  refine ro_aload_n (i := 0) (q := 37) hX dX3_restore_36 rfl rfl rfl ?_
  refine ro_callVv (q9 := 40) hX (m_keeps hv hF9) mw_X3_keeps kl_X3_112 (by decide) (fun cy => cell3 (by decide +kernel)) rfl rfl rfl (Nat.le_of_ble_eq_true rfl) ⟨Nat.le_of_ble_eq_true rfl, Nat.le_of_ble_eq_true rfl⟩ dX3_restore_37 ⟨Nat.le_of_ble_eq_true rfl, Nat.le_of_ble_eq_true rfl⟩ rfl ?_
  refine ro_aload_n (i := 0) (q := 41) hX dX3_restore_40 rfl rfl rfl ?_
  refine ro_bipush (v := nI 7) (q := 43) hX dX3_restore_41 rfl rfl ?_
  refine ro_iload_n (i := 1) (q := 44) hX dX3_restore_43 rfl rfl rfl ?_
  refine ro_iadd (q := 45) hX dX3_restore_44 rfl ?_
  refine vv_top (y := nI (7 + c)) (nI_add' rfl rfl) ?_
  refine ro_iconst (v := nI 0) (q := 46) hX dX3_restore_45 rfl rfl ?_
  refine ro_callVv (q9 := 49) hX (m_carries (by omega) (by omega)) mw_X3_carries kl_X3_98 (by decide) (fun cy => cell3 (by decide +kernel)) rfl rfl rfl (Nat.le_of_ble_eq_true rfl) ⟨Nat.le_of_ble_eq_true rfl, Nat.le_of_ble_eq_true rfl⟩ dX3_restore_46 ⟨Nat.le_of_ble_eq_true rfl, Nat.le_of_ble_eq_true rfl⟩ rfl ?_
  refine ro_aload_n (i := 0) (q := 50) hX dX3_restore_49 rfl rfl rfl ?_
  refine ro_Nga1 (q9 := 53) hX kf_X3_7 dX3_restore_50 rfl ?_
  refine ro_iconst (v := nI 0) (q := 54) hX dX3_restore_53 rfl rfl ?_
  refine ro_Nsld (n := 0) (q9 := 55) hX rfl (by omega) dX3_restore_54 rfl ?_
  exact fin_i hF (Nat.le_of_ble_eq_true rfl) (Nat.le_of_ble_eq_true rfl) dX3_restore_55 (by rfl) (by rfl)
set_option maxRecDepth 20000 in
set_option maxHeartbeats 2000000 in
theorem a_status_1 {x : Int32} (hx : isR x 30 = false) : Does sz I_X3_status [.ref (sz + 75), .int x] (patch G 75 4 (mS F s), T) 0 0 (.inl (some (nI 0))) (patch G 75 4 (mS (put F 0 0 (nI 1)) s), T) := by
  refine Does.of (L := [(0, .ref (sz + 75)), (1, .int x)]) (by decide +kernel) (Nat.le_of_ble_eq_true rfl) rfl ⟨rfl, (by simp), ⟨rfl, (by simp), trivial⟩⟩ (fun VV hF => ?_)
  have hX := hF.c
  refine ro_aload_n (i := 0) (q := 1) hX dX3_status_0 rfl rfl rfl ?_
  refine ro_iload_n (i := 1) (q := 2) hX dX3_status_1 rfl rfl rfl ?_
  refine ro_callSi (q9 := 5) hX (m_isPage_f hx) mw_X3_isPage kl_X3_102 rfl rfl (Nat.le_of_ble_eq_true rfl) ⟨Nat.le_of_ble_eq_true rfl, Nat.le_of_ble_eq_true rfl⟩ dX3_status_2 ⟨Nat.le_of_ble_eq_true rfl, Nat.le_of_ble_eq_true rfl⟩ rfl ?_
  refine ro_if_eq (tgt := 12) (q := 8) hX dX3_status_5 (by decide) rfl (fun _ => ?_) (fun q => absurd (by decide) q)
  refine ro_iconst (v := nI 1) (q := 13) hX dX3_status_12 rfl rfl ?_
  refine ro_callVi (q9 := 16) hX (m_holds_1) mw_X3_holds kl_X3_109 (by decide) (fun cy => cell3 (by decide +kernel)) rfl rfl rfl (Nat.le_of_ble_eq_true rfl) ⟨Nat.le_of_ble_eq_true rfl, Nat.le_of_ble_eq_true rfl⟩ dX3_status_13 ⟨Nat.le_of_ble_eq_true rfl, Nat.le_of_ble_eq_true rfl⟩ rfl ?_
  refine ro_if_ne (tgt := 21) (q := 19) hX dX3_status_16 (by decide) rfl (fun q => absurd (by decide) q) (fun _ => ?_)
  refine ro_iconst (v := nI 0) (q := 20) hX dX3_status_19 rfl rfl ?_
  exact fin_i hF (Nat.le_of_ble_eq_true rfl) (Nat.le_of_ble_eq_true rfl) dX3_status_20 (by rfl) (by rfl)
set_option maxRecDepth 20000 in
set_option maxHeartbeats 2000000 in
theorem a_status {p : Nat} (hp : p < 30) : Does sz I_X3_status [.ref (sz + 75), .int (nI p)] (patch G 75 4 (mS F s), T) 0 0 (.inl (some (if thM s 0 p then stM s 0 p else -1))) (patch G 75 4 (mS (put F 0 0 (nI 0)) s), T) := by
  refine Does.of (L := [(0, .ref (sz + 75)), (1, .int (nI p))]) (by decide +kernel) (Nat.le_of_ble_eq_true rfl) rfl ⟨rfl, (by simp), ⟨rfl, (by simp), trivial⟩⟩ (fun VV hF => ?_)
  have hX := hF.c
  refine ro_aload_n (i := 0) (q := 1) hX dX3_status_0 rfl rfl rfl ?_
  refine ro_iload_n (i := 1) (q := 2) hX dX3_status_1 rfl rfl rfl ?_
  refine ro_callSi (q9 := 5) hX (m_isPage_t (by omega)) mw_X3_isPage kl_X3_102 rfl rfl (Nat.le_of_ble_eq_true rfl) ⟨Nat.le_of_ble_eq_true rfl, Nat.le_of_ble_eq_true rfl⟩ dX3_status_2 ⟨Nat.le_of_ble_eq_true rfl, Nat.le_of_ble_eq_true rfl⟩ rfl ?_
  refine ro_if_eq (tgt := 12) (q := 8) hX dX3_status_5 (by decide) rfl (fun q => absurd q (by decide)) (fun _ => ?_)
  refine ro_iconst (v := nI 0) (q := 9) hX dX3_status_8 rfl rfl ?_
  refine ro_goto (tgt := 13) hX dX3_status_9 (by decide) ?_
  refine ro_callVi (q9 := 16) hX (m_holds_0) mw_X3_holds kl_X3_109 (by decide) (fun cy => cell3 (by decide +kernel)) rfl rfl rfl (Nat.le_of_ble_eq_true rfl) ⟨Nat.le_of_ble_eq_true rfl, Nat.le_of_ble_eq_true rfl⟩ dX3_status_13 ⟨Nat.le_of_ble_eq_true rfl, Nat.le_of_ble_eq_true rfl⟩ rfl ?_
  refine ro_if_ne (tgt := 21) (q := 19) hX dX3_status_16 (by decide) rfl (fun _ => ?_) (fun q => absurd q (by decide))
  refine ro_aload_n (i := 0) (q := 22) hX dX3_status_21 rfl rfl rfl ?_
  refine ro_iconst (v := nI 0) (q := 23) hX dX3_status_22 rfl rfl ?_
  refine ro_iload_n (i := 1) (q := 24) hX dX3_status_23 rfl rfl rfl ?_
  refine ro_callVi (q9 := 27) hX (m_isThere (by omega) (by omega)) mw_X3_isThere kl_X3_28 (by decide) (fun cy => cell3 (by decide +kernel)) rfl rfl rfl (Nat.le_of_ble_eq_true rfl) ⟨Nat.le_of_ble_eq_true rfl, Nat.le_of_ble_eq_true rfl⟩ dX3_status_24 ⟨Nat.le_of_ble_eq_true rfl, Nat.le_of_ble_eq_true rfl⟩ rfl ?_
  refine ro_ifb_eq (tgt := 39) (q := 30) hX dX3_status_27 (by decide) rfl (fun q1 => ?_) (fun q1 => ?_)
  · skip
    refine ro_iconst (v := (-1)) (q := 40) hX dX3_status_39 rfl rfl ?_
    exact fin_i hF (Nat.le_of_ble_eq_true rfl) (Nat.le_of_ble_eq_true rfl) dX3_status_40 (by first | with_reducible rfl | (simp [*]; done) | ((repeat' split) <;> first | with_reducible rfl | contradiction | (simp_all; done)) | rfl) (by rfl)
  · skip
    refine ro_aload_n (i := 0) (q := 31) hX dX3_status_30 rfl rfl rfl ?_
    refine ro_iconst (v := nI 0) (q := 32) hX dX3_status_31 rfl rfl ?_
    refine ro_iload_n (i := 1) (q := 33) hX dX3_status_32 rfl rfl rfl ?_
    refine ro_callVi (q9 := 36) hX (m_statusOf (by omega) (by omega)) mw_X3_statusOf kl_X3_59 (by decide) (fun cy => cell3 (by decide +kernel)) rfl rfl rfl (Nat.le_of_ble_eq_true rfl) ⟨Nat.le_of_ble_eq_true rfl, Nat.le_of_ble_eq_true rfl⟩ dX3_status_33 ⟨Nat.le_of_ble_eq_true rfl, Nat.le_of_ble_eq_true rfl⟩ rfl ?_
    refine ro_goto (tgt := 40) hX dX3_status_36 (by decide) ?_
    exact fin_i hF (Nat.le_of_ble_eq_true rfl) (Nat.le_of_ble_eq_true rfl) dX3_status_40 (by first | with_reducible rfl | (simp [*]; done) | ((repeat' split) <;> first | with_reducible rfl | contradiction | (simp_all; done)) | rfl) (by rfl)
set_option maxRecDepth 20000 in
set_option maxHeartbeats 2000000 in
theorem a_copies_1 {x : Int32} (hx : isR x 30 = false) : Does sz I_X3_copies [.ref (sz + 75), .int x] (patch G 75 4 (mS F s), T) 0 0 (.inl (some (nI 0))) (patch G 75 4 (mS (put F 0 0 (nI 1)) s), T) := by
  refine Does.of (L := [(0, .ref (sz + 75)), (1, .int x)]) (by decide +kernel) (Nat.le_of_ble_eq_true rfl) rfl ⟨rfl, (by simp), ⟨rfl, (by simp), trivial⟩⟩ (fun VV hF => ?_)
  have hX := hF.c
  refine ro_aload_n (i := 0) (q := 1) hX dX3_copies_0 rfl rfl rfl ?_
  refine ro_iload_n (i := 1) (q := 2) hX dX3_copies_1 rfl rfl rfl ?_
  refine ro_callSi (q9 := 5) hX (m_isPage_f hx) mw_X3_isPage kl_X3_102 rfl rfl (Nat.le_of_ble_eq_true rfl) ⟨Nat.le_of_ble_eq_true rfl, Nat.le_of_ble_eq_true rfl⟩ dX3_copies_2 ⟨Nat.le_of_ble_eq_true rfl, Nat.le_of_ble_eq_true rfl⟩ rfl ?_
  refine ro_if_eq (tgt := 12) (q := 8) hX dX3_copies_5 (by decide) rfl (fun _ => ?_) (fun q => absurd (by decide) q)
  refine ro_iconst (v := nI 1) (q := 13) hX dX3_copies_12 rfl rfl ?_
  refine ro_callVi (q9 := 16) hX (m_holds_1) mw_X3_holds kl_X3_109 (by decide) (fun cy => cell3 (by decide +kernel)) rfl rfl rfl (Nat.le_of_ble_eq_true rfl) ⟨Nat.le_of_ble_eq_true rfl, Nat.le_of_ble_eq_true rfl⟩ dX3_copies_13 ⟨Nat.le_of_ble_eq_true rfl, Nat.le_of_ble_eq_true rfl⟩ rfl ?_
  refine ro_if_eq (tgt := 28) (q := 19) hX dX3_copies_16 (by decide) rfl (fun _ => ?_) (fun q => absurd (by decide) q)
  refine ro_iconst (v := nI 0) (q := 29) hX dX3_copies_28 rfl rfl ?_
  exact fin_i hF (Nat.le_of_ble_eq_true rfl) (Nat.le_of_ble_eq_true rfl) dX3_copies_29 (by rfl) (by rfl)
set_option maxRecDepth 20000 in
set_option maxHeartbeats 2000000 in
theorem a_copies {p : Nat} (hp : p < 30) : Does sz I_X3_copies [.ref (sz + 75), .int (nI p)] (patch G 75 4 (mS F s), T) 0 0 (.inl (some (cpM s 0 p))) (patch G 75 4 (mS (put F 0 0 (nI 0)) s), T) := by
  refine Does.of (L := [(0, .ref (sz + 75)), (1, .int (nI p))]) (by decide +kernel) (Nat.le_of_ble_eq_true rfl) rfl ⟨rfl, (by simp), ⟨rfl, (by simp), trivial⟩⟩ (fun VV hF => ?_)
  have hX := hF.c
  refine ro_aload_n (i := 0) (q := 1) hX dX3_copies_0 rfl rfl rfl ?_
  refine ro_iload_n (i := 1) (q := 2) hX dX3_copies_1 rfl rfl rfl ?_
  refine ro_callSi (q9 := 5) hX (m_isPage_t (by omega)) mw_X3_isPage kl_X3_102 rfl rfl (Nat.le_of_ble_eq_true rfl) ⟨Nat.le_of_ble_eq_true rfl, Nat.le_of_ble_eq_true rfl⟩ dX3_copies_2 ⟨Nat.le_of_ble_eq_true rfl, Nat.le_of_ble_eq_true rfl⟩ rfl ?_
  refine ro_if_eq (tgt := 12) (q := 8) hX dX3_copies_5 (by decide) rfl (fun q => absurd q (by decide)) (fun _ => ?_)
  refine ro_iconst (v := nI 0) (q := 9) hX dX3_copies_8 rfl rfl ?_
  refine ro_goto (tgt := 13) hX dX3_copies_9 (by decide) ?_
  refine ro_callVi (q9 := 16) hX (m_holds_0) mw_X3_holds kl_X3_109 (by decide) (fun cy => cell3 (by decide +kernel)) rfl rfl rfl (Nat.le_of_ble_eq_true rfl) ⟨Nat.le_of_ble_eq_true rfl, Nat.le_of_ble_eq_true rfl⟩ dX3_copies_13 ⟨Nat.le_of_ble_eq_true rfl, Nat.le_of_ble_eq_true rfl⟩ rfl ?_
  refine ro_if_eq (tgt := 28) (q := 19) hX dX3_copies_16 (by decide) rfl (fun q => absurd q (by decide)) (fun _ => ?_)
  refine ro_aload_n (i := 0) (q := 20) hX dX3_copies_19 rfl rfl rfl ?_
  refine ro_iconst (v := nI 0) (q := 21) hX dX3_copies_20 rfl rfl ?_
  refine ro_iload_n (i := 1) (q := 22) hX dX3_copies_21 rfl rfl rfl ?_
  refine ro_callVi (q9 := 25) hX (m_copiesOf (by omega) (by omega)) mw_X3_copiesOf kl_X3_49 (by decide) (fun cy => cell3 (by decide +kernel)) rfl rfl rfl (Nat.le_of_ble_eq_true rfl) ⟨Nat.le_of_ble_eq_true rfl, Nat.le_of_ble_eq_true rfl⟩ dX3_copies_22 ⟨Nat.le_of_ble_eq_true rfl, Nat.le_of_ble_eq_true rfl⟩ rfl ?_
  refine ro_goto (tgt := 29) hX dX3_copies_25 (by decide) ?_
  exact fin_i hF (Nat.le_of_ble_eq_true rfl) (Nat.le_of_ble_eq_true rfl) dX3_copies_29 (by rfl) (by rfl)
set_option maxRecDepth 20000 in
set_option maxHeartbeats 2000000 in
theorem a_countStatus_1 {x : Int32} (hx : inB x (nI 0) (nI 2) = false) (hc : ¬ x = -2) : Does sz I_X3_countStatus [.ref (sz + 75), .int x] (patch G 75 4 (mS F s), T) 0 0 (.inl (some (nI 0))) (patch G 75 4 (mS (put F 0 0 (nI 1)) s), T) := by
  refine Does.of (L := [(0, .ref (sz + 75)), (1, .int x)]) (by decide +kernel) (Nat.le_of_ble_eq_true rfl) rfl ⟨rfl, (by simp), ⟨rfl, (by simp), trivial⟩⟩ (fun VV hF => ?_)
  have hX := hF.c
  refine ro_aload_n (i := 0) (q := 1) hX dX3_countStatus_0 rfl rfl rfl ?_
  refine ro_iload_n (i := 1) (q := 2) hX dX3_countStatus_1 rfl rfl rfl ?_
  refine ro_iconst (v := nI 0) (q := 3) hX dX3_countStatus_2 rfl rfl ?_
  refine ro_iconst (v := nI 2) (q := 4) hX dX3_countStatus_3 rfl rfl ?_
  refine ro_callSi (q9 := 7) hX (m_in_f hx) mw_X3_in kl_X3_24 rfl rfl (Nat.le_of_ble_eq_true rfl) ⟨Nat.le_of_ble_eq_true rfl, Nat.le_of_ble_eq_true rfl⟩ dX3_countStatus_4 ⟨Nat.le_of_ble_eq_true rfl, Nat.le_of_ble_eq_true rfl⟩ rfl ?_
  refine ro_if_ne (tgt := 16) (q := 10) hX dX3_countStatus_7 (by decide) rfl (fun q => absurd (by decide) q) (fun _ => ?_)
  refine ro_iload_n (i := 1) (q := 11) hX dX3_countStatus_10 rfl rfl rfl ?_
  refine ro_bipush (v := (-2)) (q := 13) hX dX3_countStatus_11 rfl rfl ?_
  refine ro_icmp_ne (tgt := 20) (q := 16) hX dX3_countStatus_13 (by decide) rfl (fun _ => ?_) (fun q => absurd q (hc))
  refine ro_iconst (v := nI 1) (q := 21) hX dX3_countStatus_20 rfl rfl ?_
  refine ro_callVi (q9 := 24) hX (m_holds_1) mw_X3_holds kl_X3_109 (by decide) (fun cy => cell3 (by decide +kernel)) rfl rfl rfl (Nat.le_of_ble_eq_true rfl) ⟨Nat.le_of_ble_eq_true rfl, Nat.le_of_ble_eq_true rfl⟩ dX3_countStatus_21 ⟨Nat.le_of_ble_eq_true rfl, Nat.le_of_ble_eq_true rfl⟩ rfl ?_
  refine ro_if_eq (tgt := 36) (q := 27) hX dX3_countStatus_24 (by decide) rfl (fun _ => ?_) (fun q => absurd (by decide) q)
  refine ro_iconst (v := nI 0) (q := 37) hX dX3_countStatus_36 rfl rfl ?_
  exact fin_i hF (Nat.le_of_ble_eq_true rfl) (Nat.le_of_ble_eq_true rfl) dX3_countStatus_37 (by rfl) (by rfl)
set_option maxRecDepth 20000 in
set_option maxHeartbeats 2000000 in
theorem a_countStatus {x : Int32} (hx : inB x (nI 0) (nI 2) = true) : Does sz I_X3_countStatus [.ref (sz + 75), .int x] (patch G 75 4 (mS F s), T) 0 0 (.inl (some (nI (ctL s 0 x 30)))) (patch G 75 4 (mS (put F 0 0 (nI 0)) s), T) := by
  refine Does.of (L := [(0, .ref (sz + 75)), (1, .int x)]) (by decide +kernel) (Nat.le_of_ble_eq_true rfl) rfl ⟨rfl, (by simp), ⟨rfl, (by simp), trivial⟩⟩ (fun VV hF => ?_)
  have hX := hF.c
  refine ro_aload_n (i := 0) (q := 1) hX dX3_countStatus_0 rfl rfl rfl ?_
  refine ro_iload_n (i := 1) (q := 2) hX dX3_countStatus_1 rfl rfl rfl ?_
  refine ro_iconst (v := nI 0) (q := 3) hX dX3_countStatus_2 rfl rfl ?_
  refine ro_iconst (v := nI 2) (q := 4) hX dX3_countStatus_3 rfl rfl ?_
  refine ro_callSi (q9 := 7) hX (m_in_t hx) mw_X3_in kl_X3_24 rfl rfl (Nat.le_of_ble_eq_true rfl) ⟨Nat.le_of_ble_eq_true rfl, Nat.le_of_ble_eq_true rfl⟩ dX3_countStatus_4 ⟨Nat.le_of_ble_eq_true rfl, Nat.le_of_ble_eq_true rfl⟩ rfl ?_
  refine ro_if_ne (tgt := 16) (q := 10) hX dX3_countStatus_7 (by decide) rfl (fun _ => ?_) (fun q => absurd q (by decide))
  refine ro_iconst (v := nI 0) (q := 17) hX dX3_countStatus_16 rfl rfl ?_
  refine ro_goto (tgt := 21) hX dX3_countStatus_17 (by decide) ?_
  refine ro_callVi (q9 := 24) hX (m_holds_0) mw_X3_holds kl_X3_109 (by decide) (fun cy => cell3 (by decide +kernel)) rfl rfl rfl (Nat.le_of_ble_eq_true rfl) ⟨Nat.le_of_ble_eq_true rfl, Nat.le_of_ble_eq_true rfl⟩ dX3_countStatus_21 ⟨Nat.le_of_ble_eq_true rfl, Nat.le_of_ble_eq_true rfl⟩ rfl ?_
  refine ro_if_eq (tgt := 36) (q := 27) hX dX3_countStatus_24 (by decide) rfl (fun q => absurd q (by decide)) (fun _ => ?_)
  refine ro_aload_n (i := 0) (q := 28) hX dX3_countStatus_27 rfl rfl rfl ?_
  refine ro_iconst (v := nI 0) (q := 29) hX dX3_countStatus_28 rfl rfl ?_
  refine ro_iload_n (i := 1) (q := 30) hX dX3_countStatus_29 rfl rfl rfl ?_
  refine ro_callVi (q9 := 33) hX (m_counted (by omega)) mw_X3_counted kl_X3_202 (by decide) (fun cy => cell3 (by decide +kernel)) rfl rfl rfl (Nat.le_of_ble_eq_true rfl) ⟨Nat.le_of_ble_eq_true rfl, Nat.le_of_ble_eq_true rfl⟩ dX3_countStatus_30 ⟨Nat.le_of_ble_eq_true rfl, Nat.le_of_ble_eq_true rfl⟩ rfl ?_
  refine ro_goto (tgt := 37) hX dX3_countStatus_33 (by decide) ?_
  exact fin_i hF (Nat.le_of_ble_eq_true rfl) (Nat.le_of_ble_eq_true rfl) dX3_countStatus_37 (by rfl) (by rfl)
set_option maxRecDepth 20000 in
set_option maxHeartbeats 2000000 in
theorem a_countStatus_b {x : Int32} (hx : inB x (nI 0) (nI 2) = false) (hc : x = -2) : Does sz I_X3_countStatus [.ref (sz + 75), .int x] (patch G 75 4 (mS F s), T) 0 0 (.inl (some (nI (ctL s 0 x 30)))) (patch G 75 4 (mS (put F 0 0 (nI 0)) s), T) := by
  refine Does.of (L := [(0, .ref (sz + 75)), (1, .int x)]) (by decide +kernel) (Nat.le_of_ble_eq_true rfl) rfl ⟨rfl, (by simp), ⟨rfl, (by simp), trivial⟩⟩ (fun VV hF => ?_)
  have hX := hF.c
  refine ro_aload_n (i := 0) (q := 1) hX dX3_countStatus_0 rfl rfl rfl ?_
  refine ro_iload_n (i := 1) (q := 2) hX dX3_countStatus_1 rfl rfl rfl ?_
  refine ro_iconst (v := nI 0) (q := 3) hX dX3_countStatus_2 rfl rfl ?_
  refine ro_iconst (v := nI 2) (q := 4) hX dX3_countStatus_3 rfl rfl ?_
  refine ro_callSi (q9 := 7) hX (m_in_f hx) mw_X3_in kl_X3_24 rfl rfl (Nat.le_of_ble_eq_true rfl) ⟨Nat.le_of_ble_eq_true rfl, Nat.le_of_ble_eq_true rfl⟩ dX3_countStatus_4 ⟨Nat.le_of_ble_eq_true rfl, Nat.le_of_ble_eq_true rfl⟩ rfl ?_
  refine ro_if_ne (tgt := 16) (q := 10) hX dX3_countStatus_7 (by decide) rfl (fun q => absurd (by decide) q) (fun _ => ?_)
  refine ro_iload_n (i := 1) (q := 11) hX dX3_countStatus_10 rfl rfl rfl ?_
  refine ro_bipush (v := (-2)) (q := 13) hX dX3_countStatus_11 rfl rfl ?_
  refine ro_icmp_ne (tgt := 20) (q := 16) hX dX3_countStatus_13 (by decide) rfl (fun q => absurd (hc) q) (fun _ => ?_)
  refine ro_iconst (v := nI 0) (q := 17) hX dX3_countStatus_16 rfl rfl ?_
  refine ro_goto (tgt := 21) hX dX3_countStatus_17 (by decide) ?_
  refine ro_callVi (q9 := 24) hX (m_holds_0) mw_X3_holds kl_X3_109 (by decide) (fun cy => cell3 (by decide +kernel)) rfl rfl rfl (Nat.le_of_ble_eq_true rfl) ⟨Nat.le_of_ble_eq_true rfl, Nat.le_of_ble_eq_true rfl⟩ dX3_countStatus_21 ⟨Nat.le_of_ble_eq_true rfl, Nat.le_of_ble_eq_true rfl⟩ rfl ?_
  refine ro_if_eq (tgt := 36) (q := 27) hX dX3_countStatus_24 (by decide) rfl (fun q => absurd q (by decide)) (fun _ => ?_)
  refine ro_aload_n (i := 0) (q := 28) hX dX3_countStatus_27 rfl rfl rfl ?_
  refine ro_iconst (v := nI 0) (q := 29) hX dX3_countStatus_28 rfl rfl ?_
  refine ro_iload_n (i := 1) (q := 30) hX dX3_countStatus_29 rfl rfl rfl ?_
  refine ro_callVi (q9 := 33) hX (m_counted (by omega)) mw_X3_counted kl_X3_202 (by decide) (fun cy => cell3 (by decide +kernel)) rfl rfl rfl (Nat.le_of_ble_eq_true rfl) ⟨Nat.le_of_ble_eq_true rfl, Nat.le_of_ble_eq_true rfl⟩ dX3_countStatus_30 ⟨Nat.le_of_ble_eq_true rfl, Nat.le_of_ble_eq_true rfl⟩ rfl ?_
  refine ro_goto (tgt := 37) hX dX3_countStatus_33 (by decide) ?_
  exact fin_i hF (Nat.le_of_ble_eq_true rfl) (Nat.le_of_ble_eq_true rfl) dX3_countStatus_37 (by rfl) (by rfl)
set_option maxRecDepth 20000 in
set_option maxHeartbeats 2000000 in
theorem a_mode_1 {x : Int32} (hx : isR x 6 = false) : Does sz I_X3_mode [.ref (sz + 75), .int x] (patch G 75 4 (mS F s), T) 0 0 (.inl (some (nI 0))) (patch G 75 4 (mS (put F 0 0 (nI 1)) s), T) := by
  refine Does.of (L := [(0, .ref (sz + 75)), (1, .int x)]) (by decide +kernel) (Nat.le_of_ble_eq_true rfl) rfl ⟨rfl, (by simp), ⟨rfl, (by simp), trivial⟩⟩ (fun VV hF => ?_)
  have hX := hF.c
  refine ro_aload_n (i := 0) (q := 1) hX dX3_mode_0 rfl rfl rfl ?_
  refine ro_iload_n (i := 1) (q := 2) hX dX3_mode_1 rfl rfl rfl ?_
  refine ro_callSi (q9 := 5) hX (m_isHost_f hx) mw_X3_isHost kl_X3_127 rfl rfl (Nat.le_of_ble_eq_true rfl) ⟨Nat.le_of_ble_eq_true rfl, Nat.le_of_ble_eq_true rfl⟩ dX3_mode_2 ⟨Nat.le_of_ble_eq_true rfl, Nat.le_of_ble_eq_true rfl⟩ rfl ?_
  refine ro_if_eq (tgt := 12) (q := 8) hX dX3_mode_5 (by decide) rfl (fun _ => ?_) (fun q => absurd (by decide) q)
  refine ro_iconst (v := nI 1) (q := 13) hX dX3_mode_12 rfl rfl ?_
  refine ro_callVi (q9 := 16) hX (m_holds_1) mw_X3_holds kl_X3_109 (by decide) (fun cy => cell3 (by decide +kernel)) rfl rfl rfl (Nat.le_of_ble_eq_true rfl) ⟨Nat.le_of_ble_eq_true rfl, Nat.le_of_ble_eq_true rfl⟩ dX3_mode_13 ⟨Nat.le_of_ble_eq_true rfl, Nat.le_of_ble_eq_true rfl⟩ rfl ?_
  refine ro_if_eq (tgt := 29) (q := 19) hX dX3_mode_16 (by decide) rfl (fun _ => ?_) (fun q => absurd (by decide) q)
  refine ro_iconst (v := nI 0) (q := 30) hX dX3_mode_29 rfl rfl ?_
  exact fin_i hF (Nat.le_of_ble_eq_true rfl) (Nat.le_of_ble_eq_true rfl) dX3_mode_30 (by rfl) (by rfl)
set_option maxRecDepth 20000 in
set_option maxHeartbeats 2000000 in
theorem a_mode {h : Nat} (hh : h < 6) : Does sz I_X3_mode [.ref (sz + 75), .int (nI h)] (patch G 75 4 (mS F s), T) 0 0 (.inl (some (ofM s 0 h 0))) (patch G 75 4 (mS (put F 0 0 (nI 0)) s), T) := by
  refine Does.of (L := [(0, .ref (sz + 75)), (1, .int (nI h))]) (by decide +kernel) (Nat.le_of_ble_eq_true rfl) rfl ⟨rfl, (by simp), ⟨rfl, (by simp), trivial⟩⟩ (fun VV hF => ?_)
  have hX := hF.c
  refine ro_aload_n (i := 0) (q := 1) hX dX3_mode_0 rfl rfl rfl ?_
  refine ro_iload_n (i := 1) (q := 2) hX dX3_mode_1 rfl rfl rfl ?_
  refine ro_callSi (q9 := 5) hX (m_isHost_t (by omega)) mw_X3_isHost kl_X3_127 rfl rfl (Nat.le_of_ble_eq_true rfl) ⟨Nat.le_of_ble_eq_true rfl, Nat.le_of_ble_eq_true rfl⟩ dX3_mode_2 ⟨Nat.le_of_ble_eq_true rfl, Nat.le_of_ble_eq_true rfl⟩ rfl ?_
  refine ro_if_eq (tgt := 12) (q := 8) hX dX3_mode_5 (by decide) rfl (fun q => absurd q (by decide)) (fun _ => ?_)
  refine ro_iconst (v := nI 0) (q := 9) hX dX3_mode_8 rfl rfl ?_
  refine ro_goto (tgt := 13) hX dX3_mode_9 (by decide) ?_
  refine ro_callVi (q9 := 16) hX (m_holds_0) mw_X3_holds kl_X3_109 (by decide) (fun cy => cell3 (by decide +kernel)) rfl rfl rfl (Nat.le_of_ble_eq_true rfl) ⟨Nat.le_of_ble_eq_true rfl, Nat.le_of_ble_eq_true rfl⟩ dX3_mode_13 ⟨Nat.le_of_ble_eq_true rfl, Nat.le_of_ble_eq_true rfl⟩ rfl ?_
  refine ro_if_eq (tgt := 29) (q := 19) hX dX3_mode_16 (by decide) rfl (fun q => absurd q (by decide)) (fun _ => ?_)
  refine ro_aload_n (i := 0) (q := 20) hX dX3_mode_19 rfl rfl rfl ?_
  refine ro_iconst (v := nI 0) (q := 21) hX dX3_mode_20 rfl rfl ?_
  refine ro_iload_n (i := 1) (q := 22) hX dX3_mode_21 rfl rfl rfl ?_
  refine ro_iconst (v := nI 0) (q := 23) hX dX3_mode_22 rfl rfl ?_
  refine ro_callVi (q9 := 26) hX (m_of (by omega) (by omega) (by omega)) mw_X3_of kl_X3_36 (by decide) (fun cy => cell3 (by decide +kernel)) rfl rfl rfl (Nat.le_of_ble_eq_true rfl) ⟨Nat.le_of_ble_eq_true rfl, Nat.le_of_ble_eq_true rfl⟩ dX3_mode_23 ⟨Nat.le_of_ble_eq_true rfl, Nat.le_of_ble_eq_true rfl⟩ rfl ?_
  refine ro_goto (tgt := 30) hX dX3_mode_26 (by decide) ?_
  exact fin_i hF (Nat.le_of_ble_eq_true rfl) (Nat.le_of_ble_eq_true rfl) dX3_mode_30 (by rfl) (by rfl)
set_option maxRecDepth 20000 in
set_option maxHeartbeats 2000000 in
theorem a_isConnected_1 {x : Int32} (hx : isR x 6 = false) : Does sz I_X3_isConnected [.ref (sz + 75), .int x] (patch G 75 4 (mS F s), T) 0 0 (.inl (some (nI 0))) (patch G 75 4 (mS (put F 0 0 (nI 1)) s), T) := by
  refine Does.of (L := [(0, .ref (sz + 75)), (1, .int x)]) (by decide +kernel) (Nat.le_of_ble_eq_true rfl) rfl ⟨rfl, (by simp), ⟨rfl, (by simp), trivial⟩⟩ (fun VV hF => ?_)
  have hX := hF.c
  refine ro_aload_n (i := 0) (q := 1) hX dX3_isConnected_0 rfl rfl rfl ?_
  refine ro_iload_n (i := 1) (q := 2) hX dX3_isConnected_1 rfl rfl rfl ?_
  refine ro_callSi (q9 := 5) hX (m_isHost_f hx) mw_X3_isHost kl_X3_127 rfl rfl (Nat.le_of_ble_eq_true rfl) ⟨Nat.le_of_ble_eq_true rfl, Nat.le_of_ble_eq_true rfl⟩ dX3_isConnected_2 ⟨Nat.le_of_ble_eq_true rfl, Nat.le_of_ble_eq_true rfl⟩ rfl ?_
  refine ro_if_eq (tgt := 12) (q := 8) hX dX3_isConnected_5 (by decide) rfl (fun _ => ?_) (fun q => absurd (by decide) q)
  refine ro_iconst (v := nI 1) (q := 13) hX dX3_isConnected_12 rfl rfl ?_
  refine ro_callVi (q9 := 16) hX (m_holds_1) mw_X3_holds kl_X3_109 (by decide) (fun cy => cell3 (by decide +kernel)) rfl rfl rfl (Nat.le_of_ble_eq_true rfl) ⟨Nat.le_of_ble_eq_true rfl, Nat.le_of_ble_eq_true rfl⟩ dX3_isConnected_13 ⟨Nat.le_of_ble_eq_true rfl, Nat.le_of_ble_eq_true rfl⟩ rfl ?_
  refine ro_if_eq (tgt := 34) (q := 19) hX dX3_isConnected_16 (by decide) rfl (fun _ => ?_) (fun q => absurd (by decide) q)
  refine ro_iconst (v := nI 0) (q := 35) hX dX3_isConnected_34 rfl rfl ?_
  exact fin_z hF (Nat.le_of_ble_eq_true rfl) (Nat.le_of_ble_eq_true rfl) dX3_isConnected_35 rfl (by rfl) (by rfl)
set_option maxRecDepth 20000 in
set_option maxHeartbeats 2000000 in
theorem a_isConnected {h : Nat} (hh : h < 6) : Does sz I_X3_isConnected [.ref (sz + 75), .int (nI h)] (patch G 75 4 (mS F s), T) 0 0 (.inl (some (bi (decide (ofM s 0 h 1 = nI 1))))) (patch G 75 4 (mS (put F 0 0 (nI 0)) s), T) := by
  refine Does.of (L := [(0, .ref (sz + 75)), (1, .int (nI h))]) (by decide +kernel) (Nat.le_of_ble_eq_true rfl) rfl ⟨rfl, (by simp), ⟨rfl, (by simp), trivial⟩⟩ (fun VV hF => ?_)
  have hX := hF.c
  refine ro_aload_n (i := 0) (q := 1) hX dX3_isConnected_0 rfl rfl rfl ?_
  refine ro_iload_n (i := 1) (q := 2) hX dX3_isConnected_1 rfl rfl rfl ?_
  refine ro_callSi (q9 := 5) hX (m_isHost_t (by omega)) mw_X3_isHost kl_X3_127 rfl rfl (Nat.le_of_ble_eq_true rfl) ⟨Nat.le_of_ble_eq_true rfl, Nat.le_of_ble_eq_true rfl⟩ dX3_isConnected_2 ⟨Nat.le_of_ble_eq_true rfl, Nat.le_of_ble_eq_true rfl⟩ rfl ?_
  refine ro_if_eq (tgt := 12) (q := 8) hX dX3_isConnected_5 (by decide) rfl (fun q => absurd q (by decide)) (fun _ => ?_)
  refine ro_iconst (v := nI 0) (q := 9) hX dX3_isConnected_8 rfl rfl ?_
  refine ro_goto (tgt := 13) hX dX3_isConnected_9 (by decide) ?_
  refine ro_callVi (q9 := 16) hX (m_holds_0) mw_X3_holds kl_X3_109 (by decide) (fun cy => cell3 (by decide +kernel)) rfl rfl rfl (Nat.le_of_ble_eq_true rfl) ⟨Nat.le_of_ble_eq_true rfl, Nat.le_of_ble_eq_true rfl⟩ dX3_isConnected_13 ⟨Nat.le_of_ble_eq_true rfl, Nat.le_of_ble_eq_true rfl⟩ rfl ?_
  refine ro_if_eq (tgt := 34) (q := 19) hX dX3_isConnected_16 (by decide) rfl (fun q => absurd q (by decide)) (fun _ => ?_)
  refine ro_aload_n (i := 0) (q := 20) hX dX3_isConnected_19 rfl rfl rfl ?_
  refine ro_iconst (v := nI 0) (q := 21) hX dX3_isConnected_20 rfl rfl ?_
  refine ro_iload_n (i := 1) (q := 22) hX dX3_isConnected_21 rfl rfl rfl ?_
  refine ro_iconst (v := nI 1) (q := 23) hX dX3_isConnected_22 rfl rfl ?_
  refine ro_callVi (q9 := 26) hX (m_of (by omega) (by omega) (by omega)) mw_X3_of kl_X3_36 (by decide) (fun cy => cell3 (by decide +kernel)) rfl rfl rfl (Nat.le_of_ble_eq_true rfl) ⟨Nat.le_of_ble_eq_true rfl, Nat.le_of_ble_eq_true rfl⟩ dX3_isConnected_23 ⟨Nat.le_of_ble_eq_true rfl, Nat.le_of_ble_eq_true rfl⟩ rfl ?_
  refine ro_iconst (v := nI 1) (q := 27) hX dX3_isConnected_26 rfl rfl ?_
  refine ro_icmp_ne (tgt := 34) (q := 30) hX dX3_isConnected_27 (by decide) rfl (fun q1 => ?_) (fun q1 => ?_)
  · skip
    refine ro_iconst (v := nI 0) (q := 35) hX dX3_isConnected_34 rfl rfl ?_
    exact fin_z hF (Nat.le_of_ble_eq_true rfl) (Nat.le_of_ble_eq_true rfl) dX3_isConnected_35 rfl (by first | with_reducible rfl | (simp [bi, setL_s, setL_t, setL_0, dropL_0, dropL_c, *]; done) | (simp only [bi, setL_s, setL_t, setL_0, dropL_0, dropL_c]; (repeat' split) <;> first | with_reducible rfl | contradiction | (exfalso; omega) | (simp_all; done)) | rfl) (by rfl)
  · skip
    refine ro_iconst (v := nI 1) (q := 31) hX dX3_isConnected_30 rfl rfl ?_
    refine ro_goto (tgt := 35) hX dX3_isConnected_31 (by decide) ?_
    exact fin_z hF (Nat.le_of_ble_eq_true rfl) (Nat.le_of_ble_eq_true rfl) dX3_isConnected_35 rfl (by first | with_reducible rfl | (simp [bi, setL_s, setL_t, setL_0, dropL_0, dropL_c, *]; done) | (simp only [bi, setL_s, setL_t, setL_0, dropL_0, dropL_c]; (repeat' split) <;> first | with_reducible rfl | contradiction | (exfalso; omega) | (simp_all; done)) | rfl) (by rfl)
set_option maxRecDepth 20000 in
set_option maxHeartbeats 2000000 in
theorem a_usedRoom_1 {x : Int32} (hx : isR x 6 = false) : Does sz I_X3_usedRoom [.ref (sz + 75), .int x] (patch G 75 4 (mS F s), T) 0 0 (.inl (some (nI 0))) (patch G 75 4 (mS (put F 0 0 (nI 1)) s), T) := by
  refine Does.of (L := [(0, .ref (sz + 75)), (1, .int x)]) (by decide +kernel) (Nat.le_of_ble_eq_true rfl) rfl ⟨rfl, (by simp), ⟨rfl, (by simp), trivial⟩⟩ (fun VV hF => ?_)
  have hX := hF.c
  refine ro_aload_n (i := 0) (q := 1) hX dX3_usedRoom_0 rfl rfl rfl ?_
  refine ro_iload_n (i := 1) (q := 2) hX dX3_usedRoom_1 rfl rfl rfl ?_
  refine ro_callSi (q9 := 5) hX (m_isHost_f hx) mw_X3_isHost kl_X3_127 rfl rfl (Nat.le_of_ble_eq_true rfl) ⟨Nat.le_of_ble_eq_true rfl, Nat.le_of_ble_eq_true rfl⟩ dX3_usedRoom_2 ⟨Nat.le_of_ble_eq_true rfl, Nat.le_of_ble_eq_true rfl⟩ rfl ?_
  refine ro_if_eq (tgt := 12) (q := 8) hX dX3_usedRoom_5 (by decide) rfl (fun _ => ?_) (fun q => absurd (by decide) q)
  refine ro_iconst (v := nI 1) (q := 13) hX dX3_usedRoom_12 rfl rfl ?_
  refine ro_callVi (q9 := 16) hX (m_holds_1) mw_X3_holds kl_X3_109 (by decide) (fun cy => cell3 (by decide +kernel)) rfl rfl rfl (Nat.le_of_ble_eq_true rfl) ⟨Nat.le_of_ble_eq_true rfl, Nat.le_of_ble_eq_true rfl⟩ dX3_usedRoom_13 ⟨Nat.le_of_ble_eq_true rfl, Nat.le_of_ble_eq_true rfl⟩ rfl ?_
  refine ro_if_eq (tgt := 28) (q := 19) hX dX3_usedRoom_16 (by decide) rfl (fun _ => ?_) (fun q => absurd (by decide) q)
  refine ro_iconst (v := nI 0) (q := 29) hX dX3_usedRoom_28 rfl rfl ?_
  exact fin_i hF (Nat.le_of_ble_eq_true rfl) (Nat.le_of_ble_eq_true rfl) dX3_usedRoom_29 (by rfl) (by rfl)
set_option maxRecDepth 20000 in
set_option maxHeartbeats 2000000 in
theorem a_usedRoom {h : Nat} (hh : h < 6) : Does sz I_X3_usedRoom [.ref (sz + 75), .int (nI h)] (patch G 75 4 (mS F s), T) 0 0 (.inl (some (nI (usM s 0 h)))) (patch G 75 4 (mS (put F 0 0 (nI 0)) s), T) := by
  refine Does.of (L := [(0, .ref (sz + 75)), (1, .int (nI h))]) (by decide +kernel) (Nat.le_of_ble_eq_true rfl) rfl ⟨rfl, (by simp), ⟨rfl, (by simp), trivial⟩⟩ (fun VV hF => ?_)
  have hX := hF.c
  refine ro_aload_n (i := 0) (q := 1) hX dX3_usedRoom_0 rfl rfl rfl ?_
  refine ro_iload_n (i := 1) (q := 2) hX dX3_usedRoom_1 rfl rfl rfl ?_
  refine ro_callSi (q9 := 5) hX (m_isHost_t (by omega)) mw_X3_isHost kl_X3_127 rfl rfl (Nat.le_of_ble_eq_true rfl) ⟨Nat.le_of_ble_eq_true rfl, Nat.le_of_ble_eq_true rfl⟩ dX3_usedRoom_2 ⟨Nat.le_of_ble_eq_true rfl, Nat.le_of_ble_eq_true rfl⟩ rfl ?_
  refine ro_if_eq (tgt := 12) (q := 8) hX dX3_usedRoom_5 (by decide) rfl (fun q => absurd q (by decide)) (fun _ => ?_)
  refine ro_iconst (v := nI 0) (q := 9) hX dX3_usedRoom_8 rfl rfl ?_
  refine ro_goto (tgt := 13) hX dX3_usedRoom_9 (by decide) ?_
  refine ro_callVi (q9 := 16) hX (m_holds_0) mw_X3_holds kl_X3_109 (by decide) (fun cy => cell3 (by decide +kernel)) rfl rfl rfl (Nat.le_of_ble_eq_true rfl) ⟨Nat.le_of_ble_eq_true rfl, Nat.le_of_ble_eq_true rfl⟩ dX3_usedRoom_13 ⟨Nat.le_of_ble_eq_true rfl, Nat.le_of_ble_eq_true rfl⟩ rfl ?_
  refine ro_if_eq (tgt := 28) (q := 19) hX dX3_usedRoom_16 (by decide) rfl (fun q => absurd q (by decide)) (fun _ => ?_)
  refine ro_aload_n (i := 0) (q := 20) hX dX3_usedRoom_19 rfl rfl rfl ?_
  refine ro_iconst (v := nI 0) (q := 21) hX dX3_usedRoom_20 rfl rfl ?_
  refine ro_iload_n (i := 1) (q := 22) hX dX3_usedRoom_21 rfl rfl rfl ?_
  refine ro_callVi (q9 := 25) hX (m_used (by omega) (by omega)) mw_X3_used kl_X3_43 (by decide) (fun cy => cell3 (by decide +kernel)) rfl rfl rfl (Nat.le_of_ble_eq_true rfl) ⟨Nat.le_of_ble_eq_true rfl, Nat.le_of_ble_eq_true rfl⟩ dX3_usedRoom_22 ⟨Nat.le_of_ble_eq_true rfl, Nat.le_of_ble_eq_true rfl⟩ rfl ?_
  refine ro_goto (tgt := 29) hX dX3_usedRoom_25 (by decide) ?_
  exact fin_i hF (Nat.le_of_ble_eq_true rfl) (Nat.le_of_ble_eq_true rfl) dX3_usedRoom_29 (by rfl) (by rfl)
set_option maxRecDepth 20000 in
set_option maxHeartbeats 2000000 in
theorem a_freeRoom_1 {x : Int32} (hx : isR x 6 = false) : Does sz I_X3_freeRoom [.ref (sz + 75), .int x] (patch G 75 4 (mS F s), T) 0 0 (.inl (some (nI 0))) (patch G 75 4 (mS (put F 0 0 (nI 1)) s), T) := by
  refine Does.of (L := [(0, .ref (sz + 75)), (1, .int x)]) (by decide +kernel) (Nat.le_of_ble_eq_true rfl) rfl ⟨rfl, (by simp), ⟨rfl, (by simp), trivial⟩⟩ (fun VV hF => ?_)
  have hX := hF.c
  refine ro_aload_n (i := 0) (q := 1) hX dX3_freeRoom_0 rfl rfl rfl ?_
  refine ro_iload_n (i := 1) (q := 2) hX dX3_freeRoom_1 rfl rfl rfl ?_
  refine ro_callSi (q9 := 5) hX (m_isHost_f hx) mw_X3_isHost kl_X3_127 rfl rfl (Nat.le_of_ble_eq_true rfl) ⟨Nat.le_of_ble_eq_true rfl, Nat.le_of_ble_eq_true rfl⟩ dX3_freeRoom_2 ⟨Nat.le_of_ble_eq_true rfl, Nat.le_of_ble_eq_true rfl⟩ rfl ?_
  refine ro_if_eq (tgt := 12) (q := 8) hX dX3_freeRoom_5 (by decide) rfl (fun _ => ?_) (fun q => absurd (by decide) q)
  refine ro_iconst (v := nI 1) (q := 13) hX dX3_freeRoom_12 rfl rfl ?_
  refine ro_callVi (q9 := 16) hX (m_holds_1) mw_X3_holds kl_X3_109 (by decide) (fun cy => cell3 (by decide +kernel)) rfl rfl rfl (Nat.le_of_ble_eq_true rfl) ⟨Nat.le_of_ble_eq_true rfl, Nat.le_of_ble_eq_true rfl⟩ dX3_freeRoom_13 ⟨Nat.le_of_ble_eq_true rfl, Nat.le_of_ble_eq_true rfl⟩ rfl ?_
  refine ro_if_eq (tgt := 28) (q := 19) hX dX3_freeRoom_16 (by decide) rfl (fun _ => ?_) (fun q => absurd (by decide) q)
  refine ro_iconst (v := nI 0) (q := 29) hX dX3_freeRoom_28 rfl rfl ?_
  exact fin_i hF (Nat.le_of_ble_eq_true rfl) (Nat.le_of_ble_eq_true rfl) dX3_freeRoom_29 (by rfl) (by rfl)
set_option maxRecDepth 20000 in
set_option maxHeartbeats 2000000 in
theorem a_freeRoom {h : Nat} (hh : h < 6) : Does sz I_X3_freeRoom [.ref (sz + 75), .int (nI h)] (patch G 75 4 (mS F s), T) 0 0 (.inl (some (feM s 0 h))) (patch G 75 4 (mS (put F 0 0 (nI 0)) s), T) := by
  refine Does.of (L := [(0, .ref (sz + 75)), (1, .int (nI h))]) (by decide +kernel) (Nat.le_of_ble_eq_true rfl) rfl ⟨rfl, (by simp), ⟨rfl, (by simp), trivial⟩⟩ (fun VV hF => ?_)
  have hX := hF.c
  refine ro_aload_n (i := 0) (q := 1) hX dX3_freeRoom_0 rfl rfl rfl ?_
  refine ro_iload_n (i := 1) (q := 2) hX dX3_freeRoom_1 rfl rfl rfl ?_
  refine ro_callSi (q9 := 5) hX (m_isHost_t (by omega)) mw_X3_isHost kl_X3_127 rfl rfl (Nat.le_of_ble_eq_true rfl) ⟨Nat.le_of_ble_eq_true rfl, Nat.le_of_ble_eq_true rfl⟩ dX3_freeRoom_2 ⟨Nat.le_of_ble_eq_true rfl, Nat.le_of_ble_eq_true rfl⟩ rfl ?_
  refine ro_if_eq (tgt := 12) (q := 8) hX dX3_freeRoom_5 (by decide) rfl (fun q => absurd q (by decide)) (fun _ => ?_)
  refine ro_iconst (v := nI 0) (q := 9) hX dX3_freeRoom_8 rfl rfl ?_
  refine ro_goto (tgt := 13) hX dX3_freeRoom_9 (by decide) ?_
  refine ro_callVi (q9 := 16) hX (m_holds_0) mw_X3_holds kl_X3_109 (by decide) (fun cy => cell3 (by decide +kernel)) rfl rfl rfl (Nat.le_of_ble_eq_true rfl) ⟨Nat.le_of_ble_eq_true rfl, Nat.le_of_ble_eq_true rfl⟩ dX3_freeRoom_13 ⟨Nat.le_of_ble_eq_true rfl, Nat.le_of_ble_eq_true rfl⟩ rfl ?_
  refine ro_if_eq (tgt := 28) (q := 19) hX dX3_freeRoom_16 (by decide) rfl (fun q => absurd q (by decide)) (fun _ => ?_)
  refine ro_aload_n (i := 0) (q := 20) hX dX3_freeRoom_19 rfl rfl rfl ?_
  refine ro_iconst (v := nI 0) (q := 21) hX dX3_freeRoom_20 rfl rfl ?_
  refine ro_iload_n (i := 1) (q := 22) hX dX3_freeRoom_21 rfl rfl rfl ?_
  refine ro_callVi (q9 := 25) hX (m_free (by omega) (by omega)) mw_X3_free kl_X3_46 (by decide) (fun cy => cell3 (by decide +kernel)) rfl rfl rfl (Nat.le_of_ble_eq_true rfl) ⟨Nat.le_of_ble_eq_true rfl, Nat.le_of_ble_eq_true rfl⟩ dX3_freeRoom_22 ⟨Nat.le_of_ble_eq_true rfl, Nat.le_of_ble_eq_true rfl⟩ rfl ?_
  refine ro_goto (tgt := 29) hX dX3_freeRoom_25 (by decide) ?_
  exact fin_i hF (Nat.le_of_ble_eq_true rfl) (Nat.le_of_ble_eq_true rfl) dX3_freeRoom_29 (by rfl) (by rfl)
set_option maxRecDepth 20000 in
set_option maxHeartbeats 2000000 in
theorem a_deadlineIn_1 {x : Int32} (hx : isR x 6 = false) : Does sz I_X3_deadlineIn [.ref (sz + 75), .int x] (patch G 75 4 (mS F s), T) 0 0 (.inl (some (nI 0))) (patch G 75 4 (mS (put F 0 0 (nI 1)) s), T) := by
  refine Does.of (L := [(0, .ref (sz + 75)), (1, .int x)]) (by decide +kernel) (Nat.le_of_ble_eq_true rfl) rfl ⟨rfl, (by simp), ⟨rfl, (by simp), trivial⟩⟩ (fun VV hF => ?_)
  have hX := hF.c
  refine ro_aload_n (i := 0) (q := 1) hX dX3_deadlineIn_0 rfl rfl rfl ?_
  refine ro_iload_n (i := 1) (q := 2) hX dX3_deadlineIn_1 rfl rfl rfl ?_
  refine ro_callSi (q9 := 5) hX (m_isHost_f hx) mw_X3_isHost kl_X3_127 rfl rfl (Nat.le_of_ble_eq_true rfl) ⟨Nat.le_of_ble_eq_true rfl, Nat.le_of_ble_eq_true rfl⟩ dX3_deadlineIn_2 ⟨Nat.le_of_ble_eq_true rfl, Nat.le_of_ble_eq_true rfl⟩ rfl ?_
  refine ro_if_eq (tgt := 12) (q := 8) hX dX3_deadlineIn_5 (by decide) rfl (fun _ => ?_) (fun q => absurd (by decide) q)
  refine ro_iconst (v := nI 1) (q := 13) hX dX3_deadlineIn_12 rfl rfl ?_
  refine ro_callVi (q9 := 16) hX (m_holds_1) mw_X3_holds kl_X3_109 (by decide) (fun cy => cell3 (by decide +kernel)) rfl rfl rfl (Nat.le_of_ble_eq_true rfl) ⟨Nat.le_of_ble_eq_true rfl, Nat.le_of_ble_eq_true rfl⟩ dX3_deadlineIn_13 ⟨Nat.le_of_ble_eq_true rfl, Nat.le_of_ble_eq_true rfl⟩ rfl ?_
  refine ro_if_ne (tgt := 21) (q := 19) hX dX3_deadlineIn_16 (by decide) rfl (fun q => absurd (by decide) q) (fun _ => ?_)
  refine ro_iconst (v := nI 0) (q := 20) hX dX3_deadlineIn_19 rfl rfl ?_
  exact fin_i hF (Nat.le_of_ble_eq_true rfl) (Nat.le_of_ble_eq_true rfl) dX3_deadlineIn_20 (by rfl) (by rfl)
set_option maxRecDepth 20000 in
set_option maxHeartbeats 2000000 in
theorem a_deadlineIn {h : Nat} (hh : h < 6) : Does sz I_X3_deadlineIn [.ref (sz + 75), .int (nI h)] (patch G 75 4 (mS F s), T) 0 0 (.inl (some (if ofM s 0 h 0 = nI 2 then ofM s 0 h 3 - s 0 else -1))) (patch G 75 4 (mS (put F 0 0 (nI 0)) s), T) := by
  refine Does.of (L := [(0, .ref (sz + 75)), (1, .int (nI h))]) (by decide +kernel) (Nat.le_of_ble_eq_true rfl) rfl ⟨rfl, (by simp), ⟨rfl, (by simp), trivial⟩⟩ (fun VV hF => ?_)
  have hX := hF.c
  refine ro_aload_n (i := 0) (q := 1) hX dX3_deadlineIn_0 rfl rfl rfl ?_
  refine ro_iload_n (i := 1) (q := 2) hX dX3_deadlineIn_1 rfl rfl rfl ?_
  refine ro_callSi (q9 := 5) hX (m_isHost_t (by omega)) mw_X3_isHost kl_X3_127 rfl rfl (Nat.le_of_ble_eq_true rfl) ⟨Nat.le_of_ble_eq_true rfl, Nat.le_of_ble_eq_true rfl⟩ dX3_deadlineIn_2 ⟨Nat.le_of_ble_eq_true rfl, Nat.le_of_ble_eq_true rfl⟩ rfl ?_
  refine ro_if_eq (tgt := 12) (q := 8) hX dX3_deadlineIn_5 (by decide) rfl (fun q => absurd q (by decide)) (fun _ => ?_)
  refine ro_iconst (v := nI 0) (q := 9) hX dX3_deadlineIn_8 rfl rfl ?_
  refine ro_goto (tgt := 13) hX dX3_deadlineIn_9 (by decide) ?_
  refine ro_callVi (q9 := 16) hX (m_holds_0) mw_X3_holds kl_X3_109 (by decide) (fun cy => cell3 (by decide +kernel)) rfl rfl rfl (Nat.le_of_ble_eq_true rfl) ⟨Nat.le_of_ble_eq_true rfl, Nat.le_of_ble_eq_true rfl⟩ dX3_deadlineIn_13 ⟨Nat.le_of_ble_eq_true rfl, Nat.le_of_ble_eq_true rfl⟩ rfl ?_
  refine ro_if_ne (tgt := 21) (q := 19) hX dX3_deadlineIn_16 (by decide) rfl (fun _ => ?_) (fun q => absurd q (by decide))
  refine ro_aload_n (i := 0) (q := 22) hX dX3_deadlineIn_21 rfl rfl rfl ?_
  refine ro_iconst (v := nI 0) (q := 23) hX dX3_deadlineIn_22 rfl rfl ?_
  refine ro_iload_n (i := 1) (q := 24) hX dX3_deadlineIn_23 rfl rfl rfl ?_
  refine ro_iconst (v := nI 0) (q := 25) hX dX3_deadlineIn_24 rfl rfl ?_
  refine ro_callVi (q9 := 28) hX (m_of (by omega) (by omega) (by omega)) mw_X3_of kl_X3_36 (by decide) (fun cy => cell3 (by decide +kernel)) rfl rfl rfl (Nat.le_of_ble_eq_true rfl) ⟨Nat.le_of_ble_eq_true rfl, Nat.le_of_ble_eq_true rfl⟩ dX3_deadlineIn_25 ⟨Nat.le_of_ble_eq_true rfl, Nat.le_of_ble_eq_true rfl⟩ rfl ?_
  refine ro_iconst (v := nI 2) (q := 29) hX dX3_deadlineIn_28 rfl rfl ?_
  refine ro_icmp_ne (tgt := 49) (q := 32) hX dX3_deadlineIn_29 (by decide) rfl (fun q1 => ?_) (fun q1 => ?_)
  · skip
    refine ro_iconst (v := (-1)) (q := 50) hX dX3_deadlineIn_49 rfl rfl ?_
    exact fin_i hF (Nat.le_of_ble_eq_true rfl) (Nat.le_of_ble_eq_true rfl) dX3_deadlineIn_50 (by first | with_reducible rfl | (simp [*]; done) | ((repeat' split) <;> first | with_reducible rfl | contradiction | (simp_all; done)) | rfl) (by rfl)
  · skip
    refine ro_aload_n (i := 0) (q := 33) hX dX3_deadlineIn_32 rfl rfl rfl ?_
    refine ro_iconst (v := nI 0) (q := 34) hX dX3_deadlineIn_33 rfl rfl ?_
    refine ro_iload_n (i := 1) (q := 35) hX dX3_deadlineIn_34 rfl rfl rfl ?_
    refine ro_iconst (v := nI 3) (q := 36) hX dX3_deadlineIn_35 rfl rfl ?_
    refine ro_callVi (q9 := 39) hX (m_of (by omega) (by omega) (by omega)) mw_X3_of kl_X3_36 (by decide) (fun cy => cell3 (by decide +kernel)) rfl rfl rfl (Nat.le_of_ble_eq_true rfl) ⟨Nat.le_of_ble_eq_true rfl, Nat.le_of_ble_eq_true rfl⟩ dX3_deadlineIn_36 ⟨Nat.le_of_ble_eq_true rfl, Nat.le_of_ble_eq_true rfl⟩ rfl ?_
    refine ro_aload_n (i := 0) (q := 40) hX dX3_deadlineIn_39 rfl rfl rfl ?_
    refine ro_Nga1 (q9 := 43) hX kf_X3_7 dX3_deadlineIn_40 rfl ?_
    refine ro_iconst (v := nI 0) (q := 44) hX dX3_deadlineIn_43 rfl rfl ?_
    refine ro_Nsld (n := 0) (q9 := 45) hX rfl (by omega) dX3_deadlineIn_44 rfl ?_
    refine ro_isub (q := 46) hX dX3_deadlineIn_45 rfl ?_
    refine ro_goto (tgt := 50) hX dX3_deadlineIn_46 (by decide) ?_
    exact fin_i hF (Nat.le_of_ble_eq_true rfl) (Nat.le_of_ble_eq_true rfl) dX3_deadlineIn_50 (by first | with_reducible rfl | (simp [*]; done) | ((repeat' split) <;> first | with_reducible rfl | contradiction | (simp_all; done)) | rfl) (by rfl)
set_option maxRecDepth 20000 in
set_option maxHeartbeats 2000000 in
theorem a_replica_1 {x y : Int32} (hx : isR x 6 = false) : Does sz I_X3_replica [.ref (sz + 75), .int x, .int y] (patch G 75 4 (mS F s), T) 0 0 (.inl (some (nI 0))) (patch G 75 4 (mS (put F 0 0 (nI 1)) s), T) := by
  refine Does.of (L := [(0, .ref (sz + 75)), (1, .int x), (2, .int y)]) (by decide +kernel) (Nat.le_of_ble_eq_true rfl) rfl ⟨rfl, (by simp), ⟨rfl, (by simp), ⟨rfl, (by simp), trivial⟩⟩⟩ (fun VV hF => ?_)
  have hX := hF.c
  refine ro_aload_n (i := 0) (q := 1) hX dX3_replica_0 rfl rfl rfl ?_
  refine ro_iload_n (i := 1) (q := 2) hX dX3_replica_1 rfl rfl rfl ?_
  refine ro_callSi (q9 := 5) hX (m_isHost_f hx) mw_X3_isHost kl_X3_127 rfl rfl (Nat.le_of_ble_eq_true rfl) ⟨Nat.le_of_ble_eq_true rfl, Nat.le_of_ble_eq_true rfl⟩ dX3_replica_2 ⟨Nat.le_of_ble_eq_true rfl, Nat.le_of_ble_eq_true rfl⟩ rfl ?_
  refine ro_if_eq (tgt := 19) (q := 8) hX dX3_replica_5 (by decide) rfl (fun _ => ?_) (fun q => absurd (by decide) q)
  refine ro_iconst (v := nI 1) (q := 20) hX dX3_replica_19 rfl rfl ?_
  refine ro_callVi (q9 := 23) hX (m_holds_1) mw_X3_holds kl_X3_109 (by decide) (fun cy => cell3 (by decide +kernel)) rfl rfl rfl (Nat.le_of_ble_eq_true rfl) ⟨Nat.le_of_ble_eq_true rfl, Nat.le_of_ble_eq_true rfl⟩ dX3_replica_20 ⟨Nat.le_of_ble_eq_true rfl, Nat.le_of_ble_eq_true rfl⟩ rfl ?_
  refine ro_if_ne (tgt := 28) (q := 26) hX dX3_replica_23 (by decide) rfl (fun q => absurd (by decide) q) (fun _ => ?_)
  refine ro_iconst (v := nI 0) (q := 27) hX dX3_replica_26 rfl rfl ?_
  exact fin_i hF (Nat.le_of_ble_eq_true rfl) (Nat.le_of_ble_eq_true rfl) dX3_replica_27 (by rfl) (by rfl)
set_option maxRecDepth 20000 in
set_option maxHeartbeats 2000000 in
theorem a_replica_2 {h : Nat} (hh : h < 6) {x : Int32} (hx : isR x 30 = false) : Does sz I_X3_replica [.ref (sz + 75), .int (nI h), .int x] (patch G 75 4 (mS F s), T) 0 0 (.inl (some (nI 0))) (patch G 75 4 (mS (put F 0 0 (nI 1)) s), T) := by
  refine Does.of (L := [(0, .ref (sz + 75)), (1, .int (nI h)), (2, .int x)]) (by decide +kernel) (Nat.le_of_ble_eq_true rfl) rfl ⟨rfl, (by simp), ⟨rfl, (by simp), ⟨rfl, (by simp), trivial⟩⟩⟩ (fun VV hF => ?_)
  have hX := hF.c
  refine ro_aload_n (i := 0) (q := 1) hX dX3_replica_0 rfl rfl rfl ?_
  refine ro_iload_n (i := 1) (q := 2) hX dX3_replica_1 rfl rfl rfl ?_
  refine ro_callSi (q9 := 5) hX (m_isHost_t (by omega)) mw_X3_isHost kl_X3_127 rfl rfl (Nat.le_of_ble_eq_true rfl) ⟨Nat.le_of_ble_eq_true rfl, Nat.le_of_ble_eq_true rfl⟩ dX3_replica_2 ⟨Nat.le_of_ble_eq_true rfl, Nat.le_of_ble_eq_true rfl⟩ rfl ?_
  refine ro_if_eq (tgt := 19) (q := 8) hX dX3_replica_5 (by decide) rfl (fun q => absurd q (by decide)) (fun _ => ?_)
  refine ro_iload_n (i := 2) (q := 9) hX dX3_replica_8 rfl rfl rfl ?_
  refine ro_callSi (q9 := 12) hX (m_isPage_f hx) mw_X3_isPage kl_X3_102 rfl rfl (Nat.le_of_ble_eq_true rfl) ⟨Nat.le_of_ble_eq_true rfl, Nat.le_of_ble_eq_true rfl⟩ dX3_replica_9 ⟨Nat.le_of_ble_eq_true rfl, Nat.le_of_ble_eq_true rfl⟩ rfl ?_
  refine ro_if_eq (tgt := 19) (q := 15) hX dX3_replica_12 (by decide) rfl (fun _ => ?_) (fun q => absurd (by decide) q)
  refine ro_iconst (v := nI 1) (q := 20) hX dX3_replica_19 rfl rfl ?_
  refine ro_callVi (q9 := 23) hX (m_holds_1) mw_X3_holds kl_X3_109 (by decide) (fun cy => cell3 (by decide +kernel)) rfl rfl rfl (Nat.le_of_ble_eq_true rfl) ⟨Nat.le_of_ble_eq_true rfl, Nat.le_of_ble_eq_true rfl⟩ dX3_replica_20 ⟨Nat.le_of_ble_eq_true rfl, Nat.le_of_ble_eq_true rfl⟩ rfl ?_
  refine ro_if_ne (tgt := 28) (q := 26) hX dX3_replica_23 (by decide) rfl (fun q => absurd (by decide) q) (fun _ => ?_)
  refine ro_iconst (v := nI 0) (q := 27) hX dX3_replica_26 rfl rfl ?_
  exact fin_i hF (Nat.le_of_ble_eq_true rfl) (Nat.le_of_ble_eq_true rfl) dX3_replica_27 (by rfl) (by rfl)
set_option maxRecDepth 20000 in
set_option maxHeartbeats 2000000 in
theorem a_replica {h : Nat} (hh : h < 6) {p : Nat} (hp : p < 30) : Does sz I_X3_replica [.ref (sz + 75), .int (nI h), .int (nI p)] (patch G 75 4 (mS F s), T) 0 0 (.inl (some (if rpM s 0 h p = 0 then nI 0 else if fsM s 0 h p then nI 1 else nI 2))) (patch G 75 4 (mS (put F 0 0 (nI 0)) s), T) := by
  refine Does.of (L := [(0, .ref (sz + 75)), (1, .int (nI h)), (2, .int (nI p))]) (by decide +kernel) (Nat.le_of_ble_eq_true rfl) rfl ⟨rfl, (by simp), ⟨rfl, (by simp), ⟨rfl, (by simp), trivial⟩⟩⟩ (fun VV hF => ?_)
  have hX := hF.c
  refine ro_aload_n (i := 0) (q := 1) hX dX3_replica_0 rfl rfl rfl ?_
  refine ro_iload_n (i := 1) (q := 2) hX dX3_replica_1 rfl rfl rfl ?_
  refine ro_callSi (q9 := 5) hX (m_isHost_t (by omega)) mw_X3_isHost kl_X3_127 rfl rfl (Nat.le_of_ble_eq_true rfl) ⟨Nat.le_of_ble_eq_true rfl, Nat.le_of_ble_eq_true rfl⟩ dX3_replica_2 ⟨Nat.le_of_ble_eq_true rfl, Nat.le_of_ble_eq_true rfl⟩ rfl ?_
  refine ro_if_eq (tgt := 19) (q := 8) hX dX3_replica_5 (by decide) rfl (fun q => absurd q (by decide)) (fun _ => ?_)
  refine ro_iload_n (i := 2) (q := 9) hX dX3_replica_8 rfl rfl rfl ?_
  refine ro_callSi (q9 := 12) hX (m_isPage_t (by omega)) mw_X3_isPage kl_X3_102 rfl rfl (Nat.le_of_ble_eq_true rfl) ⟨Nat.le_of_ble_eq_true rfl, Nat.le_of_ble_eq_true rfl⟩ dX3_replica_9 ⟨Nat.le_of_ble_eq_true rfl, Nat.le_of_ble_eq_true rfl⟩ rfl ?_
  refine ro_if_eq (tgt := 19) (q := 15) hX dX3_replica_12 (by decide) rfl (fun q => absurd q (by decide)) (fun _ => ?_)
  refine ro_iconst (v := nI 0) (q := 16) hX dX3_replica_15 rfl rfl ?_
  refine ro_goto (tgt := 20) hX dX3_replica_16 (by decide) ?_
  refine ro_callVi (q9 := 23) hX (m_holds_0) mw_X3_holds kl_X3_109 (by decide) (fun cy => cell3 (by decide +kernel)) rfl rfl rfl (Nat.le_of_ble_eq_true rfl) ⟨Nat.le_of_ble_eq_true rfl, Nat.le_of_ble_eq_true rfl⟩ dX3_replica_20 ⟨Nat.le_of_ble_eq_true rfl, Nat.le_of_ble_eq_true rfl⟩ rfl ?_
  refine ro_if_ne (tgt := 28) (q := 26) hX dX3_replica_23 (by decide) rfl (fun _ => ?_) (fun q => absurd q (by decide))
  refine ro_aload_n (i := 0) (q := 29) hX dX3_replica_28 rfl rfl rfl ?_
  refine ro_iconst (v := nI 0) (q := 30) hX dX3_replica_29 rfl rfl ?_
  refine ro_iload_n (i := 1) (q := 31) hX dX3_replica_30 rfl rfl rfl ?_
  refine ro_iload_n (i := 2) (q := 32) hX dX3_replica_31 rfl rfl rfl ?_
  refine ro_callVi (q9 := 35) hX (m_replicaOf (by omega) (by omega) (by omega)) mw_X3_replicaOf kl_X3_32 (by decide) (fun cy => cell3 (by decide +kernel)) rfl rfl rfl (Nat.le_of_ble_eq_true rfl) ⟨Nat.le_of_ble_eq_true rfl, Nat.le_of_ble_eq_true rfl⟩ dX3_replica_32 ⟨Nat.le_of_ble_eq_true rfl, Nat.le_of_ble_eq_true rfl⟩ rfl ?_
  refine ro_if_ne (tgt := 42) (q := 38) hX dX3_replica_35 (by decide) rfl (fun q1 => ?_) (fun q1 => ?_)
  · skip
    refine ro_aload_n (i := 0) (q := 43) hX dX3_replica_42 rfl rfl rfl ?_
    refine ro_iconst (v := nI 0) (q := 44) hX dX3_replica_43 rfl rfl ?_
    refine ro_iload_n (i := 1) (q := 45) hX dX3_replica_44 rfl rfl rfl ?_
    refine ro_iload_n (i := 2) (q := 46) hX dX3_replica_45 rfl rfl rfl ?_
    refine ro_callVi (q9 := 49) hX (m_isFresh (by omega) (by omega) (by omega)) mw_X3_isFresh kl_X3_56 (by decide) (fun cy => cell3 (by decide +kernel)) rfl rfl rfl (Nat.le_of_ble_eq_true rfl) ⟨Nat.le_of_ble_eq_true rfl, Nat.le_of_ble_eq_true rfl⟩ dX3_replica_46 ⟨Nat.le_of_ble_eq_true rfl, Nat.le_of_ble_eq_true rfl⟩ rfl ?_
    refine ro_ifb_eq (tgt := 56) (q := 52) hX dX3_replica_49 (by decide) rfl (fun q2 => ?_) (fun q2 => ?_)
    · skip
      refine ro_iconst (v := nI 2) (q := 57) hX dX3_replica_56 rfl rfl ?_
      exact fin_i hF (Nat.le_of_ble_eq_true rfl) (Nat.le_of_ble_eq_true rfl) dX3_replica_57 (by first | with_reducible rfl | (simp [*]; done) | ((repeat' split) <;> first | with_reducible rfl | contradiction | (simp_all; done)) | rfl) (by rfl)
    · skip
      refine ro_iconst (v := nI 1) (q := 53) hX dX3_replica_52 rfl rfl ?_
      refine ro_goto (tgt := 57) hX dX3_replica_53 (by decide) ?_
      exact fin_i hF (Nat.le_of_ble_eq_true rfl) (Nat.le_of_ble_eq_true rfl) dX3_replica_57 (by first | with_reducible rfl | (simp [*]; done) | ((repeat' split) <;> first | with_reducible rfl | contradiction | (simp_all; done)) | rfl) (by rfl)
  · skip
    refine ro_iconst (v := nI 0) (q := 39) hX dX3_replica_38 rfl rfl ?_
    refine ro_goto (tgt := 57) hX dX3_replica_39 (by decide) ?_
    exact fin_i hF (Nat.le_of_ble_eq_true rfl) (Nat.le_of_ble_eq_true rfl) dX3_replica_57 (by first | with_reducible rfl | (simp [*]; done) | ((repeat' split) <;> first | with_reducible rfl | contradiction | (simp_all; done)) | rfl) (by rfl)
set_option maxRecDepth 20000 in
set_option maxHeartbeats 2000000 in
theorem a_transfer_1 {x : Int32} (hx : inB x (nI 0) (nI 3) = false) : Does sz I_X3_transfer [.ref (sz + 75), .int x] (patch G 75 4 (mS F s), T) 0 0 (.inl (some (nI 0))) (patch G 75 4 (mS (put F 0 0 (nI 1)) s), T) := by
  refine Does.of (L := [(0, .ref (sz + 75)), (1, .int x)]) (by decide +kernel) (Nat.le_of_ble_eq_true rfl) rfl ⟨rfl, (by simp), ⟨rfl, (by simp), trivial⟩⟩ (fun VV hF => ?_)
  have hX := hF.c
  refine ro_aload_n (i := 0) (q := 1) hX dX3_transfer_0 rfl rfl rfl ?_
  refine ro_iload_n (i := 1) (q := 2) hX dX3_transfer_1 rfl rfl rfl ?_
  refine ro_iconst (v := nI 0) (q := 3) hX dX3_transfer_2 rfl rfl ?_
  refine ro_iconst (v := nI 3) (q := 4) hX dX3_transfer_3 rfl rfl ?_
  refine ro_callSi (q9 := 7) hX (m_in_f hx) mw_X3_in kl_X3_24 rfl rfl (Nat.le_of_ble_eq_true rfl) ⟨Nat.le_of_ble_eq_true rfl, Nat.le_of_ble_eq_true rfl⟩ dX3_transfer_4 ⟨Nat.le_of_ble_eq_true rfl, Nat.le_of_ble_eq_true rfl⟩ rfl ?_
  refine ro_if_eq (tgt := 14) (q := 10) hX dX3_transfer_7 (by decide) rfl (fun _ => ?_) (fun q => absurd (by decide) q)
  refine ro_iconst (v := nI 1) (q := 15) hX dX3_transfer_14 rfl rfl ?_
  refine ro_callVi (q9 := 18) hX (m_holds_1) mw_X3_holds kl_X3_109 (by decide) (fun cy => cell3 (by decide +kernel)) rfl rfl rfl (Nat.le_of_ble_eq_true rfl) ⟨Nat.le_of_ble_eq_true rfl, Nat.le_of_ble_eq_true rfl⟩ dX3_transfer_15 ⟨Nat.le_of_ble_eq_true rfl, Nat.le_of_ble_eq_true rfl⟩ rfl ?_
  refine ro_if_ne (tgt := 23) (q := 21) hX dX3_transfer_18 (by decide) rfl (fun q => absurd (by decide) q) (fun _ => ?_)
  refine ro_iconst (v := nI 0) (q := 22) hX dX3_transfer_21 rfl rfl ?_
  exact fin_i hF (Nat.le_of_ble_eq_true rfl) (Nat.le_of_ble_eq_true rfl) dX3_transfer_22 (by rfl) (by rfl)
set_option maxRecDepth 20000 in
set_option maxHeartbeats 2000000 in
theorem a_transfer {w : Nat} (hw : w < 4) (hx : inB (nI w) (nI 0) (nI 3) = true) : Does sz I_X3_transfer [.ref (sz + 75), .int (nI w)] (patch G 75 4 (mS F s), T) 0 0 (.inl (some (trM s w))) (patch G 75 4 (mS (put F 0 0 (nI 0)) s), T) := by
  refine Does.of (L := [(0, .ref (sz + 75)), (1, .int (nI w))]) (by decide +kernel) (Nat.le_of_ble_eq_true rfl) rfl ⟨rfl, (by simp), ⟨rfl, (by simp), trivial⟩⟩ (fun VV hF => ?_)
  have hX := hF.c
  refine ro_aload_n (i := 0) (q := 1) hX dX3_transfer_0 rfl rfl rfl ?_
  refine ro_iload_n (i := 1) (q := 2) hX dX3_transfer_1 rfl rfl rfl ?_
  refine ro_iconst (v := nI 0) (q := 3) hX dX3_transfer_2 rfl rfl ?_
  refine ro_iconst (v := nI 3) (q := 4) hX dX3_transfer_3 rfl rfl ?_
  refine ro_callSi (q9 := 7) hX (m_in_t hx) mw_X3_in kl_X3_24 rfl rfl (Nat.le_of_ble_eq_true rfl) ⟨Nat.le_of_ble_eq_true rfl, Nat.le_of_ble_eq_true rfl⟩ dX3_transfer_4 ⟨Nat.le_of_ble_eq_true rfl, Nat.le_of_ble_eq_true rfl⟩ rfl ?_
  refine ro_if_eq (tgt := 14) (q := 10) hX dX3_transfer_7 (by decide) rfl (fun q => absurd q (by decide)) (fun _ => ?_)
  refine ro_iconst (v := nI 0) (q := 11) hX dX3_transfer_10 rfl rfl ?_
  refine ro_goto (tgt := 15) hX dX3_transfer_11 (by decide) ?_
  refine ro_callVi (q9 := 18) hX (m_holds_0) mw_X3_holds kl_X3_109 (by decide) (fun cy => cell3 (by decide +kernel)) rfl rfl rfl (Nat.le_of_ble_eq_true rfl) ⟨Nat.le_of_ble_eq_true rfl, Nat.le_of_ble_eq_true rfl⟩ dX3_transfer_15 ⟨Nat.le_of_ble_eq_true rfl, Nat.le_of_ble_eq_true rfl⟩ rfl ?_
  refine ro_if_ne (tgt := 23) (q := 21) hX dX3_transfer_18 (by decide) rfl (fun _ => ?_) (fun q => absurd q (by decide))
  refine ro_aload_n (i := 0) (q := 24) hX dX3_transfer_23 rfl rfl rfl ?_
  refine ro_Nga1 (q9 := 27) hX kf_X3_7 dX3_transfer_24 rfl ?_
  refine ro_iconst (v := nI 4) (q := 28) hX dX3_transfer_27 rfl rfl ?_
  refine ro_Nsld (n := 4) (q9 := 29) hX rfl (by omega) dX3_transfer_28 rfl ?_
  refine ro_iconst (v := (-1)) (q := 30) hX dX3_transfer_29 rfl rfl ?_
  refine ro_icmp_ne (tgt := 37) (q := 33) hX dX3_transfer_30 (by decide) rfl (fun q1 => ?_) (fun q1 => ?_)
  · skip
    refine ro_iload_n (i := 1) (q := 38) hX dX3_transfer_37 rfl rfl rfl ?_
    refine ro_iconst (v := nI 3) (q := 39) hX dX3_transfer_38 rfl rfl ?_
    refine ro_icmp_ne (tgt := 59) (q := 42) hX dX3_transfer_39 (by decide) rfl (fun q2 => ?_) (fun q2 => ?_)
    · rw [nI_eq (by omega) (by omega)] at q2
      refine ro_aload_n (i := 0) (q := 60) hX dX3_transfer_59 rfl rfl rfl ?_
      refine ro_Nga1 (q9 := 63) hX kf_X3_7 dX3_transfer_60 rfl ?_
      refine ro_iconst (v := nI 4) (q := 64) hX dX3_transfer_63 rfl rfl ?_
      refine ro_iload_n (i := 1) (q := 65) hX dX3_transfer_64 rfl rfl rfl ?_
      refine ro_iadd (q := 66) hX dX3_transfer_65 rfl ?_
      refine vv_top (y := nI (4 + w)) (nI_add' rfl rfl) ?_
      refine ro_Nsld (n := 4 + w) (q9 := 67) hX rfl (by omega) dX3_transfer_66 rfl ?_
      exact fin_i hF (Nat.le_of_ble_eq_true rfl) (Nat.le_of_ble_eq_true rfl) dX3_transfer_67 (by first | with_reducible rfl | (simp [trM, setL_s, setL_t, setL_0, dropL_0, dropL_c, *]; done) | (simp only [trM, setL_s, setL_t, setL_0, dropL_0, dropL_c]; (repeat' split) <;> first | with_reducible rfl | contradiction | (exfalso; omega) | (simp_all; done)) | rfl) (by rfl)
    · rw [nI_eq (by omega) (by omega)] at q2
      refine ro_aload_n (i := 0) (q := 43) hX dX3_transfer_42 rfl rfl rfl ?_
      refine ro_Nga1 (q9 := 46) hX kf_X3_7 dX3_transfer_43 rfl ?_
      refine ro_bipush (v := nI 7) (q := 48) hX dX3_transfer_46 rfl rfl ?_
      refine ro_Nsld (n := 7) (q9 := 49) hX rfl (by omega) dX3_transfer_48 rfl ?_
      refine ro_aload_n (i := 0) (q := 50) hX dX3_transfer_49 rfl rfl rfl ?_
      refine ro_Nga1 (q9 := 53) hX kf_X3_7 dX3_transfer_50 rfl ?_
      refine ro_iconst (v := nI 0) (q := 54) hX dX3_transfer_53 rfl rfl ?_
      refine ro_Nsld (n := 0) (q9 := 55) hX rfl (by omega) dX3_transfer_54 rfl ?_
      refine ro_isub (q := 56) hX dX3_transfer_55 rfl ?_
      refine ro_goto (tgt := 67) hX dX3_transfer_56 (by decide) ?_
      exact fin_i hF (Nat.le_of_ble_eq_true rfl) (Nat.le_of_ble_eq_true rfl) dX3_transfer_67 (by first | with_reducible rfl | (simp [trM, setL_s, setL_t, setL_0, dropL_0, dropL_c, *]; done) | (simp only [trM, setL_s, setL_t, setL_0, dropL_0, dropL_c]; (repeat' split) <;> first | with_reducible rfl | contradiction | (exfalso; omega) | (simp_all; done)) | rfl) (by rfl)
  · skip
    refine ro_iconst (v := (-1)) (q := 34) hX dX3_transfer_33 rfl rfl ?_
    refine ro_goto (tgt := 67) hX dX3_transfer_34 (by decide) ?_
    exact fin_i hF (Nat.le_of_ble_eq_true rfl) (Nat.le_of_ble_eq_true rfl) dX3_transfer_67 (by first | with_reducible rfl | (simp [trM, setL_s, setL_t, setL_0, dropL_0, dropL_c, *]; done) | (simp only [trM, setL_s, setL_t, setL_0, dropL_0, dropL_c]; (repeat' split) <;> first | with_reducible rfl | contradiction | (exfalso; omega) | (simp_all; done)) | rfl) (by rfl)
set_option maxRecDepth 20000 in
set_option maxHeartbeats 2000000 in
theorem a_completedTransfers : Does sz I_X3_completedTransfers [.ref (sz + 75)] (patch G 75 4 (mS F s), T) 0 0 (.inl (some (s 3))) (patch G 75 4 (mS (put F 0 0 (nI 0)) s), T) := by
  refine Does.of (L := [(0, .ref (sz + 75))]) (by decide +kernel) (Nat.le_of_ble_eq_true rfl) rfl ⟨rfl, (by simp), trivial⟩ (fun VV hF => ?_)
  have hX := hF.c
  refine ro_aload_n (i := 0) (q := 1) hX dX3_completedTransfers_0 rfl rfl rfl ?_
  refine ro_iconst (v := nI 0) (q := 2) hX dX3_completedTransfers_1 rfl rfl ?_
  refine ro_Npi (j := 0) (q9 := 5) (ty := .int) (by decide) hX rfl rfl rfl kf_X3_20 dX3_completedTransfers_2 rfl ?_
  refine ro_aload_n (i := 0) (q := 6) hX dX3_completedTransfers_5 rfl rfl rfl ?_
  refine ro_Nga1 (q9 := 9) hX kf_X3_7 dX3_completedTransfers_6 rfl ?_
  refine ro_iconst (v := nI 3) (q := 10) hX dX3_completedTransfers_9 rfl rfl ?_
  refine ro_Nsld (n := 3) (q9 := 11) hX rfl (by omega) dX3_completedTransfers_10 rfl ?_
  exact fin_i hF (Nat.le_of_ble_eq_true rfl) (Nat.le_of_ble_eq_true rfl) dX3_completedTransfers_11 (by rfl) (by rfl)
set_option maxRecDepth 20000 in
set_option maxHeartbeats 2000000 in
theorem a_time : Does sz I_X3_time [.ref (sz + 75)] (patch G 75 4 (mS F s), T) 0 0 (.inl (some (s 0))) (patch G 75 4 (mS (put F 0 0 (nI 0)) s), T) := by
  refine Does.of (L := [(0, .ref (sz + 75))]) (by decide +kernel) (Nat.le_of_ble_eq_true rfl) rfl ⟨rfl, (by simp), trivial⟩ (fun VV hF => ?_)
  have hX := hF.c
  refine ro_aload_n (i := 0) (q := 1) hX dX3_time_0 rfl rfl rfl ?_
  refine ro_iconst (v := nI 0) (q := 2) hX dX3_time_1 rfl rfl ?_
  refine ro_Npi (j := 0) (q9 := 5) (ty := .int) (by decide) hX rfl rfl rfl kf_X3_20 dX3_time_2 rfl ?_
  refine ro_aload_n (i := 0) (q := 6) hX dX3_time_5 rfl rfl rfl ?_
  refine ro_Nga1 (q9 := 9) hX kf_X3_7 dX3_time_6 rfl ?_
  refine ro_iconst (v := nI 0) (q := 10) hX dX3_time_9 rfl rfl ?_
  refine ro_Nsld (n := 0) (q9 := 11) hX rfl (by omega) dX3_time_10 rfl ?_
  exact fin_i hF (Nat.le_of_ble_eq_true rfl) (Nat.le_of_ble_eq_true rfl) dX3_time_11 (by rfl) (by rfl)
set_option maxRecDepth 20000 in
set_option maxHeartbeats 2000000 in
theorem a_lostWithout_1 {x : Int32} (hx : inB x (nI 0) (nI 63) = false) : Does sz I_X3_lostWithout [.ref (sz + 75), .int x] (patch G 75 4 (mS F s), T) 0 0 (.inl (some (nI 0))) (patch G 75 4 (mS (put F 0 0 (nI 1)) s), T) := by
  refine Does.of (L := [(0, .ref (sz + 75)), (1, .int x)]) (by decide +kernel) (Nat.le_of_ble_eq_true rfl) rfl ⟨rfl, (by simp), ⟨rfl, (by simp), trivial⟩⟩ (fun VV hF => ?_)
  have hX := hF.c
  refine ro_aload_n (i := 0) (q := 1) hX dX3_lostWithout_0 rfl rfl rfl ?_
  refine ro_iload_n (i := 1) (q := 2) hX dX3_lostWithout_1 rfl rfl rfl ?_
  refine ro_iconst (v := nI 0) (q := 3) hX dX3_lostWithout_2 rfl rfl ?_
  refine ro_bipush (v := nI 63) (q := 5) hX dX3_lostWithout_3 rfl rfl ?_
  refine ro_callSi (q9 := 8) hX (m_in_f hx) mw_X3_in kl_X3_24 rfl rfl (Nat.le_of_ble_eq_true rfl) ⟨Nat.le_of_ble_eq_true rfl, Nat.le_of_ble_eq_true rfl⟩ dX3_lostWithout_5 ⟨Nat.le_of_ble_eq_true rfl, Nat.le_of_ble_eq_true rfl⟩ rfl ?_
  refine ro_if_eq (tgt := 15) (q := 11) hX dX3_lostWithout_8 (by decide) rfl (fun _ => ?_) (fun q => absurd (by decide) q)
  refine ro_iconst (v := nI 1) (q := 16) hX dX3_lostWithout_15 rfl rfl ?_
  refine ro_callVi (q9 := 19) hX (m_holds_1) mw_X3_holds kl_X3_109 (by decide) (fun cy => cell3 (by decide +kernel)) rfl rfl rfl (Nat.le_of_ble_eq_true rfl) ⟨Nat.le_of_ble_eq_true rfl, Nat.le_of_ble_eq_true rfl⟩ dX3_lostWithout_16 ⟨Nat.le_of_ble_eq_true rfl, Nat.le_of_ble_eq_true rfl⟩ rfl ?_
  refine ro_if_eq (tgt := 30) (q := 22) hX dX3_lostWithout_19 (by decide) rfl (fun _ => ?_) (fun q => absurd (by decide) q)
  refine ro_iconst (v := nI 0) (q := 31) hX dX3_lostWithout_30 rfl rfl ?_
  exact fin_i hF (Nat.le_of_ble_eq_true rfl) (Nat.le_of_ble_eq_true rfl) dX3_lostWithout_31 (by rfl) (by rfl)
set_option maxRecDepth 20000 in
set_option maxHeartbeats 2000000 in
theorem a_lostWithout {x : Int32} (hx : inB x (nI 0) (nI 63) = true) : Does sz I_X3_lostWithout [.ref (sz + 75), .int x] (patch G 75 4 (mS F s), T) 0 0 (.inl (some (nI (lbM s x)))) (patch G 75 4 (mS (put F 0 0 (nI 0)) s), T) := by
  refine Does.of (L := [(0, .ref (sz + 75)), (1, .int x)]) (by decide +kernel) (Nat.le_of_ble_eq_true rfl) rfl ⟨rfl, (by simp), ⟨rfl, (by simp), trivial⟩⟩ (fun VV hF => ?_)
  have hX := hF.c
  refine ro_aload_n (i := 0) (q := 1) hX dX3_lostWithout_0 rfl rfl rfl ?_
  refine ro_iload_n (i := 1) (q := 2) hX dX3_lostWithout_1 rfl rfl rfl ?_
  refine ro_iconst (v := nI 0) (q := 3) hX dX3_lostWithout_2 rfl rfl ?_
  refine ro_bipush (v := nI 63) (q := 5) hX dX3_lostWithout_3 rfl rfl ?_
  refine ro_callSi (q9 := 8) hX (m_in_t hx) mw_X3_in kl_X3_24 rfl rfl (Nat.le_of_ble_eq_true rfl) ⟨Nat.le_of_ble_eq_true rfl, Nat.le_of_ble_eq_true rfl⟩ dX3_lostWithout_5 ⟨Nat.le_of_ble_eq_true rfl, Nat.le_of_ble_eq_true rfl⟩ rfl ?_
  refine ro_if_eq (tgt := 15) (q := 11) hX dX3_lostWithout_8 (by decide) rfl (fun q => absurd q (by decide)) (fun _ => ?_)
  refine ro_iconst (v := nI 0) (q := 12) hX dX3_lostWithout_11 rfl rfl ?_
  refine ro_goto (tgt := 16) hX dX3_lostWithout_12 (by decide) ?_
  refine ro_callVi (q9 := 19) hX (m_holds_0) mw_X3_holds kl_X3_109 (by decide) (fun cy => cell3 (by decide +kernel)) rfl rfl rfl (Nat.le_of_ble_eq_true rfl) ⟨Nat.le_of_ble_eq_true rfl, Nat.le_of_ble_eq_true rfl⟩ dX3_lostWithout_16 ⟨Nat.le_of_ble_eq_true rfl, Nat.le_of_ble_eq_true rfl⟩ rfl ?_
  refine ro_if_eq (tgt := 30) (q := 22) hX dX3_lostWithout_19 (by decide) rfl (fun q => absurd q (by decide)) (fun _ => ?_)
  refine ro_aload_n (i := 0) (q := 23) hX dX3_lostWithout_22 rfl rfl rfl ?_
  refine ro_iload_n (i := 1) (q := 24) hX dX3_lostWithout_23 rfl rfl rfl ?_
  refine ro_callVi (q9 := 27) hX (m_lostBy) mw_X3_lostBy kl_X3_205 (by decide) (fun cy => cell3 (by decide +kernel)) rfl rfl rfl (Nat.le_of_ble_eq_true rfl) ⟨Nat.le_of_ble_eq_true rfl, Nat.le_of_ble_eq_true rfl⟩ dX3_lostWithout_24 ⟨Nat.le_of_ble_eq_true rfl, Nat.le_of_ble_eq_true rfl⟩ rfl ?_
  refine ro_goto (tgt := 31) hX dX3_lostWithout_27 (by decide) ?_
  exact fin_i hF (Nat.le_of_ble_eq_true rfl) (Nat.le_of_ble_eq_true rfl) dX3_lostWithout_31 (by rfl) (by rfl)
set_option maxRecDepth 20000 in
set_option maxHeartbeats 2000000 in
theorem a_savedStates : Does sz I_X3_savedStates [.ref (sz + 75)] (patch G 75 4 (mS F s), T) 0 0 (.inl (some (F 0 2))) (patch G 75 4 (mS (put F 0 0 (nI 0)) s), T) := by
  refine Does.of (L := [(0, .ref (sz + 75))]) (by decide +kernel) (Nat.le_of_ble_eq_true rfl) rfl ⟨rfl, (by simp), trivial⟩ (fun VV hF => ?_)
  have hX := hF.c
  refine ro_aload_n (i := 0) (q := 1) hX dX3_savedStates_0 rfl rfl rfl ?_
  refine ro_iconst (v := nI 0) (q := 2) hX dX3_savedStates_1 rfl rfl ?_
  refine ro_Npi (j := 0) (q9 := 5) (ty := .int) (by decide) hX rfl rfl rfl kf_X3_20 dX3_savedStates_2 rfl ?_
  refine ro_aload_n (i := 0) (q := 6) hX dX3_savedStates_5 rfl rfl rfl ?_
  refine ro_Ngi (j := 2) (q9 := 9) (by decide) hX kf_X3_95 dX3_savedStates_6 rfl ?_
  exact fin_i hF (Nat.le_of_ble_eq_true rfl) (Nat.le_of_ble_eq_true rfl) dX3_savedStates_9 (by rfl) (by rfl)
set_option maxRecDepth 20000 in
set_option maxHeartbeats 2000000 in
theorem a_textLength : Does sz I_X3_textLength [.ref (sz + 75)] (patch G 75 4 (mS F s), T) 0 0 (.inl (some (F 0 5))) (patch G 75 4 (mS (put F 0 0 (nI 0)) s), T) := by
  refine Does.of (L := [(0, .ref (sz + 75))]) (by decide +kernel) (Nat.le_of_ble_eq_true rfl) rfl ⟨rfl, (by simp), trivial⟩ (fun VV hF => ?_)
  have hX := hF.c
  refine ro_aload_n (i := 0) (q := 1) hX dX3_textLength_0 rfl rfl rfl ?_
  refine ro_iconst (v := nI 0) (q := 2) hX dX3_textLength_1 rfl rfl ?_
  refine ro_Npi (j := 0) (q9 := 5) (ty := .int) (by decide) hX rfl rfl rfl kf_X3_20 dX3_textLength_2 rfl ?_
  refine ro_aload_n (i := 0) (q := 6) hX dX3_textLength_5 rfl rfl rfl ?_
  refine ro_Ngi (j := 5) (q9 := 9) (by decide) hX kf_X3_158 dX3_textLength_6 rfl ?_
  exact fin_i hF (Nat.le_of_ble_eq_true rfl) (Nat.le_of_ble_eq_true rfl) dX3_textLength_9 (by rfl) (by rfl)
set_option maxRecDepth 20000 in
set_option maxHeartbeats 2000000 in
theorem a_thrown : Does sz I_X3_thrown [.ref (sz + 75)] (patch G 75 4 (mS F s), T) 0 0 (.inl (some (F 0 0))) (patch G 75 4 (mS F s), T) := by
  refine Does.of (L := [(0, .ref (sz + 75))]) (by decide +kernel) (Nat.le_of_ble_eq_true rfl) rfl ⟨rfl, (by simp), trivial⟩ (fun VV hF => ?_)
  have hX := hF.c
  refine ro_aload_n (i := 0) (q := 1) hX dX3_thrown_0 rfl rfl rfl ?_
  refine ro_Ngi (j := 0) (q9 := 4) (by decide) hX kf_X3_20 dX3_thrown_1 rfl ?_
  exact fin_i hF (Nat.le_of_ble_eq_true rfl) (Nat.le_of_ble_eq_true rfl) dX3_thrown_4 (by rfl) (by rfl)
set_option maxRecDepth 20000 in
set_option maxHeartbeats 2000000 in
theorem a_worstPair : Does sz I_X3_worstPair [.ref (sz + 75)] (patch G 75 4 (mS F s), T) 0 0 (.inl (some (nI (wpL s 6)))) (patch G 75 4 (mS (put F 0 0 (nI 0)) s), T) := by
  refine Does.of (L := [(0, .ref (sz + 75))]) (by decide +kernel) (Nat.le_of_ble_eq_true rfl) rfl ⟨rfl, (by simp), trivial⟩ (fun VV hF => ?_)
  have hX := hF.c
  refine ro_aload_n (i := 0) (q := 1) hX dX3_worstPair_0 rfl rfl rfl ?_
  refine ro_iconst (v := nI 0) (q := 2) hX dX3_worstPair_1 rfl rfl ?_
  refine ro_Npi (j := 0) (q9 := 5) (ty := .int) (by decide) hX rfl rfl rfl kf_X3_20 dX3_worstPair_2 rfl ?_
  refine ro_iconst (v := nI 1) (q := 6) hX dX3_worstPair_5 rfl rfl ?_
  refine ro_istore_n (i := 1) (q := 7) hX dX3_worstPair_6 rfl (Nat.le_of_ble_eq_true rfl) rfl ?_
  refine ro_iconst (v := nI 0) (q := 8) hX dX3_worstPair_7 rfl rfl ?_
  refine ro_istore_n (i := 2) (q := 9) hX dX3_worstPair_8 rfl (Nat.le_of_ble_eq_true rfl) rfl ?_
  refine vv_LM (L' := [(0, .ref (sz + 75)), (1, .int (nI (wpL s 0))), (2, .int (nI 0))]) (M' := (patch G 75 4 (mS (put F 0 0 (nI 0)) s), T)) (by first | with_reducible rfl | (simp [wpL, setL_s, setL_t, setL_0, dropL_0, dropL_c, *]; done) | (simp only [wpL, setL_s, setL_t, setL_0, dropL_0, dropL_c]; (repeat' split) <;> first | with_reducible rfl | contradiction | (exfalso; omega) | (simp_all; done)) | rfl) (by first | with_reducible rfl | (simp [wpL, setL_s, setL_t, setL_0, dropL_0, dropL_c, *]; done) | (simp only [wpL, setL_s, setL_t, setL_0, dropL_0, dropL_c]; (repeat' split) <;> first | with_reducible rfl | contradiction | (exfalso; omega) | (simp_all; done)) | rfl) ?_
  refine down_ind (P := fun k9 => VV 0 0 9 [(0, .ref (sz + 75)), (1, .int (nI (wpL s k9))), (2, .int (nI k9))] [] (patch G 75 4 (mS (put F 0 0 (nI 0)) s), T)) (6) (fun k9 hk9 ih9 => ?_) ?_
  · have ih9 : VV 0 0 9 [(0, .ref (sz + 75)), (1, .int (nI (wpL s (k9 + 1)))), (2, .int (nI (k9 + 1)))] [] (patch G 75 4 (mS (put F 0 0 (nI 0)) s), T) := ih9
    show VV 0 0 9 [(0, .ref (sz + 75)), (1, .int (nI (wpL s k9))), (2, .int (nI k9))] [] (patch G 75 4 (mS (put F 0 0 (nI 0)) s), T)
    refine ro_iload_n (i := 2) (q := 10) hX dX3_worstPair_9 rfl rfl rfl ?_
    refine ro_bipush (v := nI 6) (q := 12) hX dX3_worstPair_10 rfl rfl ?_
    refine ro_icmp_ge (tgt := 91) (q := 15) hX dX3_worstPair_12 (by decide) rfl (fun q => absurd q (by first | exact ni_nle (by omega) (by omega) | exact ni_lt (by omega) (by omega))) (fun _ => ?_)
    refine ro_iload_n (i := 2) (q := 16) hX dX3_worstPair_15 rfl rfl rfl ?_
    refine ro_iconst (v := nI 1) (q := 17) hX dX3_worstPair_16 rfl rfl ?_
    refine ro_iadd (q := 18) hX dX3_worstPair_17 rfl ?_
    refine vv_top (y := nI (k9 + 1)) (nI_add' rfl rfl) ?_
    refine ro_istore_n (i := 3) (q := 19) hX dX3_worstPair_18 rfl (Nat.le_of_ble_eq_true rfl) rfl ?_
    refine vv_LM (L' := [(0, .ref (sz + 75)), (1, .int (nI (wpI s k9 (wpL s k9) (k9 + 1)))), (2, .int (nI k9)), (3, .int (nI (k9 + 1)))]) (M' := (patch G 75 4 (mS (put F 0 0 (nI 0)) s), T)) (by rw [wpI_lo _ (Nat.le_refl _)]; rfl) (by rfl) ?_
    refine down_from (P := fun k19 => VV 0 0 19 [(0, .ref (sz + 75)), (1, .int (nI (wpI s k9 (wpL s k9) k19))), (2, .int (nI k9)), (3, .int (nI k19))] [] (patch G 75 4 (mS (put F 0 0 (nI 0)) s), T)) ((k9 + 1)) (6) (by omega) (fun k19 hj19 hk19 ih19 => ?_) ?_
    · have ih19 : VV 0 0 19 [(0, .ref (sz + 75)), (1, .int (nI (wpI s k9 (wpL s k9) (k19 + 1)))), (2, .int (nI k9)), (3, .int (nI (k19 + 1)))] [] (patch G 75 4 (mS (put F 0 0 (nI 0)) s), T) := ih19
      show VV 0 0 19 [(0, .ref (sz + 75)), (1, .int (nI (wpI s k9 (wpL s k9) k19))), (2, .int (nI k9)), (3, .int (nI k19))] [] (patch G 75 4 (mS (put F 0 0 (nI 0)) s), T)
      have hwl := wpL_le (s := s) k9 (by omega)
      have hwi := wpI_le (s := s) (f := wpL s k9) hk9 hwl k19 (by omega)
      have hb1 := lbM_le (s := s) (x := prM k9 k19)
      have hb2 := lbM_le (s := s) (x := prM (wpI s k9 (wpL s k9) k19 / 6) (wpI s k9 (wpL s k9) k19 % 6))
      refine ro_iload_n (i := 3) (q := 20) hX dX3_worstPair_19 rfl rfl rfl ?_
      refine ro_bipush (v := nI 6) (q := 22) hX dX3_worstPair_20 rfl rfl ?_
      refine ro_icmp_ge (tgt := 85) (q := 25) hX dX3_worstPair_22 (by decide) rfl (fun q => absurd q (by first | exact ni_nle (by omega) (by omega) | exact ni_lt (by omega) (by omega))) (fun _ => ?_)
      refine ro_aload_n (i := 0) (q := 26) hX dX3_worstPair_25 rfl rfl rfl ?_
      refine ro_iconst (v := nI 1) (q := 27) hX dX3_worstPair_26 rfl rfl ?_
      refine ro_iload_n (i := 2) (q := 28) hX dX3_worstPair_27 rfl rfl rfl ?_
      refine ro_ishl (q := 29) hX dX3_worstPair_28 rfl ?_
      refine ro_iconst (v := nI 1) (q := 30) hX dX3_worstPair_29 rfl rfl ?_
      refine ro_iload_n (i := 3) (q := 31) hX dX3_worstPair_30 rfl rfl rfl ?_
      refine ro_ishl (q := 32) hX dX3_worstPair_31 rfl ?_
      refine ro_ior (q := 33) hX dX3_worstPair_32 rfl ?_
      refine ro_callVi (q9 := 36) hX (m_lostBy) mw_X3_lostBy kl_X3_205 (by decide) (fun cy => cell3 (by decide +kernel)) rfl rfl rfl (Nat.le_of_ble_eq_true rfl) ⟨Nat.le_of_ble_eq_true rfl, Nat.le_of_ble_eq_true rfl⟩ dX3_worstPair_33 ⟨Nat.le_of_ble_eq_true rfl, Nat.le_of_ble_eq_true rfl⟩ rfl ?_
      refine ro_aload_n (i := 0) (q := 37) hX dX3_worstPair_36 rfl rfl rfl ?_
      refine ro_iconst (v := nI 1) (q := 38) hX dX3_worstPair_37 rfl rfl ?_
      refine ro_iload_n (i := 1) (q := 39) hX dX3_worstPair_38 rfl rfl rfl ?_
      refine ro_bipush (v := nI 6) (q := 41) hX dX3_worstPair_39 rfl rfl ?_
      refine ro_idiv (q := 42) hX dX3_worstPair_41 (by decide) rfl rfl ?_
      refine vv_top (y := nI ((wpI s k9 (wpL s k9) k19) / 6)) (nI_div (by omega) (by decide) (by decide)) ?_
      refine ro_ishl (q := 43) hX dX3_worstPair_42 rfl ?_
      refine ro_iconst (v := nI 1) (q := 44) hX dX3_worstPair_43 rfl rfl ?_
      refine ro_iload_n (i := 1) (q := 45) hX dX3_worstPair_44 rfl rfl rfl ?_
      refine ro_bipush (v := nI 6) (q := 47) hX dX3_worstPair_45 rfl rfl ?_
      refine ro_irem (q := 48) hX dX3_worstPair_47 (by decide) rfl rfl ?_
      refine vv_top (y := nI ((wpI s k9 (wpL s k9) k19) % 6)) (nI_rem (by omega) (by decide) (by decide)) ?_
      refine ro_ishl (q := 49) hX dX3_worstPair_48 rfl ?_
      refine ro_ior (q := 50) hX dX3_worstPair_49 rfl ?_
      refine ro_callVi (q9 := 53) hX (m_lostBy) mw_X3_lostBy kl_X3_205 (by decide) (fun cy => cell3 (by decide +kernel)) rfl rfl rfl (Nat.le_of_ble_eq_true rfl) ⟨Nat.le_of_ble_eq_true rfl, Nat.le_of_ble_eq_true rfl⟩ dX3_worstPair_50 ⟨Nat.le_of_ble_eq_true rfl, Nat.le_of_ble_eq_true rfl⟩ rfl ?_
      refine ro_icmp_le (tgt := 60) (q := 56) hX dX3_worstPair_53 (by decide) rfl (fun q1 => ?_) (fun q1 => ?_)
      · rw [nI_leI (Nat.lt_of_le_of_lt lbM_le (by decide)) (Nat.lt_of_le_of_lt lbM_le (by decide))] at q1
        refine ro_iconst (v := nI 0) (q := 61) hX dX3_worstPair_60 rfl rfl ?_
        refine ro_istore (i := 4) (q := 63) hX dX3_worstPair_61 (Nat.le_of_ble_eq_true rfl) rfl ?_
        refine ro_iload (i := 4) (q := 65) hX dX3_worstPair_63 rfl rfl ?_
        refine ro_if_eq (tgt := 77) (q := 68) hX dX3_worstPair_65 (by decide) rfl (fun _ => ?_) (fun q => absurd (by decide) q)
        refine ro_iload_n (i := 1) (q := 78) hX dX3_worstPair_77 rfl rfl rfl ?_
        refine ro_istore_n (i := 1) (q := 79) hX dX3_worstPair_78 rfl (Nat.le_of_ble_eq_true rfl) rfl ?_
        refine ro_iinc (i := 3) (v := nI (k19 + 1)) (q := 82) hX dX3_worstPair_79 rfl (ni_inc _) (Nat.le_of_ble_eq_true rfl) rfl ?_
        refine ro_goto (tgt := 19) hX dX3_worstPair_82 (by decide) ?_
        refine ro_drop [4] hX rfl ?_
        exact vv_LM (by simp only [wpI]; (repeat' split) <;> first | rfl | contradiction | (exfalso; omega)) (by rfl) ih19
      · rw [nI_leI (Nat.lt_of_le_of_lt lbM_le (by decide)) (Nat.lt_of_le_of_lt lbM_le (by decide))] at q1
        refine ro_iconst (v := nI 1) (q := 57) hX dX3_worstPair_56 rfl rfl ?_
        refine ro_goto (tgt := 61) hX dX3_worstPair_57 (by decide) ?_
        refine ro_istore (i := 4) (q := 63) hX dX3_worstPair_61 (Nat.le_of_ble_eq_true rfl) rfl ?_
        refine ro_iload (i := 4) (q := 65) hX dX3_worstPair_63 rfl rfl ?_
        refine ro_if_eq (tgt := 77) (q := 68) hX dX3_worstPair_65 (by decide) rfl (fun q => absurd q (by decide)) (fun _ => ?_)
        refine ro_bipush (v := nI 6) (q := 70) hX dX3_worstPair_68 rfl rfl ?_
        refine ro_iload_n (i := 2) (q := 71) hX dX3_worstPair_70 rfl rfl rfl ?_
        refine ro_imul (q := 72) hX dX3_worstPair_71 rfl ?_
        refine vv_top (y := nI (6 * k9)) (nI_mul' rfl rfl) ?_
        refine ro_iload_n (i := 3) (q := 73) hX dX3_worstPair_72 rfl rfl rfl ?_
        refine ro_iadd (q := 74) hX dX3_worstPair_73 rfl ?_
        refine vv_top (y := nI (6 * k9 + k19)) (nI_add' rfl rfl) ?_
        refine ro_goto (tgt := 78) hX dX3_worstPair_74 (by decide) ?_
        refine ro_istore_n (i := 1) (q := 79) hX dX3_worstPair_78 rfl (Nat.le_of_ble_eq_true rfl) rfl ?_
        refine ro_iinc (i := 3) (v := nI (k19 + 1)) (q := 82) hX dX3_worstPair_79 rfl (ni_inc _) (Nat.le_of_ble_eq_true rfl) rfl ?_
        refine ro_goto (tgt := 19) hX dX3_worstPair_82 (by decide) ?_
        refine ro_drop [4] hX rfl ?_
        exact vv_LM (by simp only [wpI]; (repeat' split) <;> first | rfl | contradiction | (exfalso; omega)) (by rfl) ih19
    · show VV 0 0 19 [(0, .ref (sz + 75)), (1, .int (nI (wpI s k9 (wpL s k9) 6))), (2, .int (nI k9)), (3, .int (nI 6))] [] (patch G 75 4 (mS (put F 0 0 (nI 0)) s), T)
      refine ro_iload_n (i := 3) (q := 20) hX dX3_worstPair_19 rfl rfl rfl ?_
      refine ro_bipush (v := nI 6) (q := 22) hX dX3_worstPair_20 rfl rfl ?_
      refine ro_icmp_ge (tgt := 85) (q := 25) hX dX3_worstPair_22 (by decide) rfl (fun _ => ?_) (fun q => absurd (by decide) q)
      refine ro_iinc (i := 2) (v := nI (k9 + 1)) (q := 88) hX dX3_worstPair_85 rfl (ni_inc _) (Nat.le_of_ble_eq_true rfl) rfl ?_
      refine ro_goto (tgt := 9) hX dX3_worstPair_88 (by decide) ?_
      refine ro_drop [3] hX rfl ?_
      exact vv_LM (by rfl) (by rfl) ih9
  · show VV 0 0 9 [(0, .ref (sz + 75)), (1, .int (nI (wpL s 6))), (2, .int (nI 6))] [] (patch G 75 4 (mS (put F 0 0 (nI 0)) s), T)
    refine ro_iload_n (i := 2) (q := 10) hX dX3_worstPair_9 rfl rfl rfl ?_
    refine ro_bipush (v := nI 6) (q := 12) hX dX3_worstPair_10 rfl rfl ?_
    refine ro_icmp_ge (tgt := 91) (q := 15) hX dX3_worstPair_12 (by decide) rfl (fun _ => ?_) (fun q => absurd (by decide) q)
    refine ro_iload_n (i := 1) (q := 92) hX dX3_worstPair_91 rfl rfl rfl ?_
    exact fin_i hF (Nat.le_of_ble_eq_true rfl) (Nat.le_of_ble_eq_true rfl) dX3_worstPair_92 (by rfl) (by rfl)
set_option maxRecDepth 20000 in
set_option maxHeartbeats 2000000 in
theorem a_lostIn_1 {x : Int32} (hx : inB x (nI 1) (nI 600) = false) : Does sz I_X3_lostIn [.ref (sz + 75), .int x] (patch G 75 4 (mS F s), T) 0 0 (.inl (some (nI 0))) (patch G 75 4 (mS (put F 0 0 (nI 1)) s), T) := by
  refine Does.of (L := [(0, .ref (sz + 75)), (1, .int x)]) (by decide +kernel) (Nat.le_of_ble_eq_true rfl) rfl ⟨rfl, (by simp), ⟨rfl, (by simp), trivial⟩⟩ (fun VV hF => ?_)
  have hX := hF.c
  refine ro_aload_n (i := 0) (q := 1) hX dX3_lostIn_0 rfl rfl rfl ?_
  refine ro_iload_n (i := 1) (q := 2) hX dX3_lostIn_1 rfl rfl rfl ?_
  refine ro_iconst (v := nI 1) (q := 3) hX dX3_lostIn_2 rfl rfl ?_
  refine ro_sipush (v := nI 600) (q := 6) hX dX3_lostIn_3 rfl rfl ?_
  refine ro_callSi (q9 := 9) hX (m_in_f hx) mw_X3_in kl_X3_24 rfl rfl (Nat.le_of_ble_eq_true rfl) ⟨Nat.le_of_ble_eq_true rfl, Nat.le_of_ble_eq_true rfl⟩ dX3_lostIn_6 ⟨Nat.le_of_ble_eq_true rfl, Nat.le_of_ble_eq_true rfl⟩ rfl ?_
  refine ro_if_eq (tgt := 16) (q := 12) hX dX3_lostIn_9 (by decide) rfl (fun _ => ?_) (fun q => absurd (by decide) q)
  refine ro_iconst (v := nI 1) (q := 17) hX dX3_lostIn_16 rfl rfl ?_
  refine ro_callVi (q9 := 20) hX (m_holds_1) mw_X3_holds kl_X3_109 (by decide) (fun cy => cell3 (by decide +kernel)) rfl rfl rfl (Nat.le_of_ble_eq_true rfl) ⟨Nat.le_of_ble_eq_true rfl, Nat.le_of_ble_eq_true rfl⟩ dX3_lostIn_17 ⟨Nat.le_of_ble_eq_true rfl, Nat.le_of_ble_eq_true rfl⟩ rfl ?_
  refine ro_if_ne (tgt := 25) (q := 23) hX dX3_lostIn_20 (by decide) rfl (fun q => absurd (by decide) q) (fun _ => ?_)
  refine ro_iconst (v := nI 0) (q := 24) hX dX3_lostIn_23 rfl rfl ?_
  exact fin_i hF (Nat.le_of_ble_eq_true rfl) (Nat.le_of_ble_eq_true rfl) dX3_lostIn_24 (by rfl) (by rfl)
set_option maxRecDepth 20000 in
set_option maxHeartbeats 2000000 in
theorem a_lostIn {n : Nat} (hn : n ≤ 600) (hx : inB (nI n) (nI 1) (nI 600) = true) (hT : ∀ k, k < n → trOK (tkM (spL (crM s 0 9) 2448 k) 2448) 2448) : Does sz I_X3_lostIn [.ref (sz + 75), .int (nI n)] (patch G 75 4 (mS F s), T) 0 0 (.inl (some (nI (ctL (spL (crM s 0 9) 2448 n) 2448 (-2) 30)))) (patch G 75 4 (mS (put F 0 0 (nI 0)) (spL (crM s 0 9) 2448 n)), T) := by
  refine Does.of (L := [(0, .ref (sz + 75)), (1, .int (nI n))]) (by decide +kernel) (Nat.le_of_ble_eq_true rfl) rfl ⟨rfl, (by simp), ⟨rfl, (by simp), trivial⟩⟩ (fun VV hF => ?_)
  have hX := hF.c
  refine ro_aload_n (i := 0) (q := 1) hX dX3_lostIn_0 rfl rfl rfl ?_
  refine ro_iload_n (i := 1) (q := 2) hX dX3_lostIn_1 rfl rfl rfl ?_
  refine ro_iconst (v := nI 1) (q := 3) hX dX3_lostIn_2 rfl rfl ?_
  refine ro_sipush (v := nI 600) (q := 6) hX dX3_lostIn_3 rfl rfl ?_
  refine ro_callSi (q9 := 9) hX (m_in_t hx) mw_X3_in kl_X3_24 rfl rfl (Nat.le_of_ble_eq_true rfl) ⟨Nat.le_of_ble_eq_true rfl, Nat.le_of_ble_eq_true rfl⟩ dX3_lostIn_6 ⟨Nat.le_of_ble_eq_true rfl, Nat.le_of_ble_eq_true rfl⟩ rfl ?_
  refine ro_if_eq (tgt := 16) (q := 12) hX dX3_lostIn_9 (by decide) rfl (fun q => absurd q (by decide)) (fun _ => ?_)
  refine ro_iconst (v := nI 0) (q := 13) hX dX3_lostIn_12 rfl rfl ?_
  refine ro_goto (tgt := 17) hX dX3_lostIn_13 (by decide) ?_
  refine ro_callVi (q9 := 20) hX (m_holds_0) mw_X3_holds kl_X3_109 (by decide) (fun cy => cell3 (by decide +kernel)) rfl rfl rfl (Nat.le_of_ble_eq_true rfl) ⟨Nat.le_of_ble_eq_true rfl, Nat.le_of_ble_eq_true rfl⟩ dX3_lostIn_17 ⟨Nat.le_of_ble_eq_true rfl, Nat.le_of_ble_eq_true rfl⟩ rfl ?_
  refine ro_if_ne (tgt := 25) (q := 23) hX dX3_lostIn_20 (by decide) rfl (fun _ => ?_) (fun q => absurd q (by decide))
  refine ro_aload_n (i := 0) (q := 26) hX dX3_lostIn_25 rfl rfl rfl ?_
  refine ro_iconst (v := nI 0) (q := 27) hX dX3_lostIn_26 rfl rfl ?_
  refine ro_bipush (v := nI 9) (q := 29) hX dX3_lostIn_27 rfl rfl ?_
  refine ro_callVv (q9 := 32) hX (m_carries (by omega) (by omega)) mw_X3_carries kl_X3_98 (by decide) (fun cy => cell3 (by decide +kernel)) rfl rfl rfl (Nat.le_of_ble_eq_true rfl) ⟨Nat.le_of_ble_eq_true rfl, Nat.le_of_ble_eq_true rfl⟩ dX3_lostIn_29 ⟨Nat.le_of_ble_eq_true rfl, Nat.le_of_ble_eq_true rfl⟩ rfl ?_
  refine ro_iconst (v := nI 0) (q := 33) hX dX3_lostIn_32 rfl rfl ?_
  refine ro_istore_n (i := 2) (q := 34) hX dX3_lostIn_33 rfl (Nat.le_of_ble_eq_true rfl) rfl ?_
  refine vv_LM (L' := [(0, .ref (sz + 75)), (1, .int (nI n)), (2, .int (nI 0))]) (M' := (patch G 75 4 (mS (put F 0 0 (nI 0)) (spL (crM s 0 9) 2448 0)), T)) (by rfl) (by rfl) ?_
  refine down_ind (P := fun k34 => VV 0 0 34 [(0, .ref (sz + 75)), (1, .int (nI n)), (2, .int (nI k34))] [] (patch G 75 4 (mS (put F 0 0 (nI 0)) (spL (crM s 0 9) 2448 k34)), T)) (n) (fun k34 hk34 ih34 => ?_) ?_
  · have ih34 : VV 0 0 34 [(0, .ref (sz + 75)), (1, .int (nI n)), (2, .int (nI (k34 + 1)))] [] (patch G 75 4 (mS (put F 0 0 (nI 0)) (spL (crM s 0 9) 2448 (k34 + 1))), T) := ih34
    show VV 0 0 34 [(0, .ref (sz + 75)), (1, .int (nI n)), (2, .int (nI k34))] [] (patch G 75 4 (mS (put F 0 0 (nI 0)) (spL (crM s 0 9) 2448 k34)), T)
    refine ro_iload_n (i := 2) (q := 35) hX dX3_lostIn_34 rfl rfl rfl ?_
    refine ro_iload_n (i := 1) (q := 36) hX dX3_lostIn_35 rfl rfl rfl ?_
    refine ro_icmp_ge (tgt := 52) (q := 39) hX dX3_lostIn_36 (by decide) rfl (fun q => absurd q (by first | exact ni_nle (by omega) (by omega) | exact ni_lt (by omega) (by omega))) (fun _ => ?_)
    refine ro_aload_n (i := 0) (q := 40) hX dX3_lostIn_39 rfl rfl rfl ?_
    refine ro_sipush (v := nI 2448) (q := 43) hX dX3_lostIn_40 rfl rfl ?_
    refine ro_callVv (q9 := 46) hX (m_secondPasses (by omega) (hT k34 hk34)) mw_X3_secondPasses kl_X3_92 (by decide) (fun cy => cell3 (by decide +kernel)) rfl rfl rfl (Nat.le_of_ble_eq_true rfl) ⟨Nat.le_of_ble_eq_true rfl, Nat.le_of_ble_eq_true rfl⟩ dX3_lostIn_43 ⟨Nat.le_of_ble_eq_true rfl, Nat.le_of_ble_eq_true rfl⟩ rfl ?_
    refine ro_iinc (i := 2) (v := nI (k34 + 1)) (q := 49) hX dX3_lostIn_46 rfl (ni_inc _) (Nat.le_of_ble_eq_true rfl) rfl ?_
    refine ro_goto (tgt := 34) hX dX3_lostIn_49 (by decide) ?_
    exact vv_LM (by rfl) (by rfl) ih34
  · show VV 0 0 34 [(0, .ref (sz + 75)), (1, .int (nI n)), (2, .int (nI n))] [] (patch G 75 4 (mS (put F 0 0 (nI 0)) (spL (crM s 0 9) 2448 n)), T)
    refine ro_iload_n (i := 2) (q := 35) hX dX3_lostIn_34 rfl rfl rfl ?_
    refine ro_iload_n (i := 1) (q := 36) hX dX3_lostIn_35 rfl rfl rfl ?_
    refine ro_icmp_ge (tgt := 52) (q := 39) hX dX3_lostIn_36 (by decide) rfl (fun _ => ?_) (fun q => absurd (by first | exact ni_le (by omega) (by omega) | exact ni_nlt (by omega) (by omega)) q)
    refine ro_aload_n (i := 0) (q := 53) hX dX3_lostIn_52 rfl rfl rfl ?_
    refine ro_sipush (v := nI 2448) (q := 56) hX dX3_lostIn_53 rfl rfl ?_
    refine ro_bipush (v := (-2)) (q := 58) hX dX3_lostIn_56 rfl rfl ?_
    refine ro_callVi (q9 := 61) hX (m_counted (by omega)) mw_X3_counted kl_X3_202 (by decide) (fun cy => cell3 (by decide +kernel)) rfl rfl rfl (Nat.le_of_ble_eq_true rfl) ⟨Nat.le_of_ble_eq_true rfl, Nat.le_of_ble_eq_true rfl⟩ dX3_lostIn_58 ⟨Nat.le_of_ble_eq_true rfl, Nat.le_of_ble_eq_true rfl⟩ rfl ?_
    exact fin_i hF (Nat.le_of_ble_eq_true rfl) (Nat.le_of_ble_eq_true rfl) dX3_lostIn_61 (by rfl) (by rfl)
set_option maxRecDepth 20000 in
set_option maxHeartbeats 2000000 in
theorem a_restsIn {K : Nat} (hK : K ≤ 600) (hr : ∀ j, j < K → reC (spL (crM s 0 9) 2448 j) 2448 6 = false) (hs : K = 600 ∨ reC (spL (crM s 0 9) 2448 K) 2448 6 = true) (hT : ∀ k, k < K → trOK (tkM (spL (crM s 0 9) 2448 k) 2448) 2448) : Does sz I_X3_restsIn [.ref (sz + 75)] (patch G 75 4 (mS F s), T) 0 0 (.inl (some (if reC (spL (crM s 0 9) 2448 K) 2448 6 then nI K else -1))) (patch G 75 4 (mS (put F 0 0 (nI 0)) (spL (crM s 0 9) 2448 K)), T) := by
  refine Does.of (L := [(0, .ref (sz + 75))]) (by decide +kernel) (Nat.le_of_ble_eq_true rfl) rfl ⟨rfl, (by simp), trivial⟩ (fun VV hF => ?_)
  have hX := hF.c
  refine ro_aload_n (i := 0) (q := 1) hX dX3_restsIn_0 rfl rfl rfl ?_
  refine ro_iconst (v := nI 0) (q := 2) hX dX3_restsIn_1 rfl rfl ?_
  refine ro_Npi (j := 0) (q9 := 5) (ty := .int) (by decide) hX rfl rfl rfl kf_X3_20 dX3_restsIn_2 rfl ?_
  refine ro_aload_n (i := 0) (q := 6) hX dX3_restsIn_5 rfl rfl rfl ?_
  refine ro_iconst (v := nI 0) (q := 7) hX dX3_restsIn_6 rfl rfl ?_
  refine ro_bipush (v := nI 9) (q := 9) hX dX3_restsIn_7 rfl rfl ?_
  refine ro_callVv (q9 := 12) hX (m_carries (by omega) (by omega)) mw_X3_carries kl_X3_98 (by decide) (fun cy => cell3 (by decide +kernel)) rfl rfl rfl (Nat.le_of_ble_eq_true rfl) ⟨Nat.le_of_ble_eq_true rfl, Nat.le_of_ble_eq_true rfl⟩ dX3_restsIn_9 ⟨Nat.le_of_ble_eq_true rfl, Nat.le_of_ble_eq_true rfl⟩ rfl ?_
  refine ro_iconst (v := nI 0) (q := 13) hX dX3_restsIn_12 rfl rfl ?_
  refine ro_istore_n (i := 1) (q := 14) hX dX3_restsIn_13 rfl (Nat.le_of_ble_eq_true rfl) rfl ?_
  refine vv_LM (L' := [(0, .ref (sz + 75)), (1, .int (nI 0))]) (M' := (patch G 75 4 (mS (put F 0 0 (nI 0)) (spL (crM s 0 9) 2448 0)), T)) (by rfl) (by rfl) ?_
  refine down_ind (P := fun k14 => VV 0 0 14 [(0, .ref (sz + 75)), (1, .int (nI k14))] [] (patch G 75 4 (mS (put F 0 0 (nI 0)) (spL (crM s 0 9) 2448 k14)), T)) (K) (fun k14 hk14 ih14 => ?_) ?_
  · have ih14 : VV 0 0 14 [(0, .ref (sz + 75)), (1, .int (nI (k14 + 1)))] [] (patch G 75 4 (mS (put F 0 0 (nI 0)) (spL (crM s 0 9) 2448 (k14 + 1))), T) := ih14
    show VV 0 0 14 [(0, .ref (sz + 75)), (1, .int (nI k14))] [] (patch G 75 4 (mS (put F 0 0 (nI 0)) (spL (crM s 0 9) 2448 k14)), T)
    refine ro_iload_n (i := 1) (q := 15) hX dX3_restsIn_14 rfl rfl rfl ?_
    refine ro_sipush (v := nI 600) (q := 18) hX dX3_restsIn_15 rfl rfl ?_
    refine ro_icmp_ge (tgt := 44) (q := 21) hX dX3_restsIn_18 (by decide) rfl (fun q => absurd q (ni_nle (by omega) (by omega))) (fun _ => ?_)
    refine ro_aload_n (i := 0) (q := 22) hX dX3_restsIn_21 rfl rfl rfl ?_
    refine ro_sipush (v := nI 2448) (q := 25) hX dX3_restsIn_22 rfl rfl ?_
    refine ro_callVi (q9 := 28) hX (m_rests (by omega)) mw_X3_rests kl_X3_208 (by decide) (fun cy => cell3 (by decide +kernel)) rfl rfl rfl (Nat.le_of_ble_eq_true rfl) ⟨Nat.le_of_ble_eq_true rfl, Nat.le_of_ble_eq_true rfl⟩ dX3_restsIn_25 ⟨Nat.le_of_ble_eq_true rfl, Nat.le_of_ble_eq_true rfl⟩ rfl ?_
    refine ro_ifb_ne (tgt := 44) (q := 31) hX dX3_restsIn_28 (by decide) rfl (fun q => absurd q (by rw [hr k14 hk14]; decide)) (fun _ => ?_)
    refine ro_aload_n (i := 0) (q := 32) hX dX3_restsIn_31 rfl rfl rfl ?_
    refine ro_sipush (v := nI 2448) (q := 35) hX dX3_restsIn_32 rfl rfl ?_
    refine ro_callVv (q9 := 38) hX (m_secondPasses (by omega) (hT k14 hk14)) mw_X3_secondPasses kl_X3_92 (by decide) (fun cy => cell3 (by decide +kernel)) rfl rfl rfl (Nat.le_of_ble_eq_true rfl) ⟨Nat.le_of_ble_eq_true rfl, Nat.le_of_ble_eq_true rfl⟩ dX3_restsIn_35 ⟨Nat.le_of_ble_eq_true rfl, Nat.le_of_ble_eq_true rfl⟩ rfl ?_
    refine ro_iinc (i := 1) (v := nI (k14 + 1)) (q := 41) hX dX3_restsIn_38 rfl (ni_inc _) (Nat.le_of_ble_eq_true rfl) rfl ?_
    refine ro_goto (tgt := 14) hX dX3_restsIn_41 (by decide) ?_
    exact vv_LM (by rfl) (by rfl) ih14
  · show VV 0 0 14 [(0, .ref (sz + 75)), (1, .int (nI K))] [] (patch G 75 4 (mS (put F 0 0 (nI 0)) (spL (crM s 0 9) 2448 K)), T)
    refine ro_iload_n (i := 1) (q := 15) hX dX3_restsIn_14 rfl rfl rfl ?_
    refine ro_sipush (v := nI 600) (q := 18) hX dX3_restsIn_15 rfl rfl ?_
    refine ro_icmp_ge (tgt := 44) (q := 21) hX dX3_restsIn_18 (by decide) rfl (fun q1 => ?_) (fun q1 => ?_)
    · rw [nI_leI (by omega) (by omega)] at q1
      refine ro_aload_n (i := 0) (q := 45) hX dX3_restsIn_44 rfl rfl rfl ?_
      refine ro_sipush (v := nI 2448) (q := 48) hX dX3_restsIn_45 rfl rfl ?_
      refine ro_callVi (q9 := 51) hX (m_rests (by omega)) mw_X3_rests kl_X3_208 (by decide) (fun cy => cell3 (by decide +kernel)) rfl rfl rfl (Nat.le_of_ble_eq_true rfl) ⟨Nat.le_of_ble_eq_true rfl, Nat.le_of_ble_eq_true rfl⟩ dX3_restsIn_48 ⟨Nat.le_of_ble_eq_true rfl, Nat.le_of_ble_eq_true rfl⟩ rfl ?_
      refine ro_ifb_eq (tgt := 58) (q := 54) hX dX3_restsIn_51 (by decide) rfl (fun q2 => ?_) (fun q2 => ?_)
      · skip
        refine ro_iconst (v := (-1)) (q := 59) hX dX3_restsIn_58 rfl rfl ?_
        exact fin_i hF (Nat.le_of_ble_eq_true rfl) (Nat.le_of_ble_eq_true rfl) dX3_restsIn_59 (by first | with_reducible rfl | (simp [*]; done) | ((repeat' split) <;> first | with_reducible rfl | contradiction | (simp_all; done)) | rfl) (by rfl)
      · skip
        refine ro_iload_n (i := 1) (q := 55) hX dX3_restsIn_54 rfl rfl rfl ?_
        refine ro_goto (tgt := 59) hX dX3_restsIn_55 (by decide) ?_
        exact fin_i hF (Nat.le_of_ble_eq_true rfl) (Nat.le_of_ble_eq_true rfl) dX3_restsIn_59 (by first | with_reducible rfl | (simp [*]; done) | ((repeat' split) <;> first | with_reducible rfl | contradiction | (simp_all; done)) | rfl) (by rfl)
    · rw [nI_leI (by omega) (by omega)] at q1
      refine ro_aload_n (i := 0) (q := 22) hX dX3_restsIn_21 rfl rfl rfl ?_
      refine ro_sipush (v := nI 2448) (q := 25) hX dX3_restsIn_22 rfl rfl ?_
      refine ro_callVi (q9 := 28) hX (m_rests (by omega)) mw_X3_rests kl_X3_208 (by decide) (fun cy => cell3 (by decide +kernel)) rfl rfl rfl (Nat.le_of_ble_eq_true rfl) ⟨Nat.le_of_ble_eq_true rfl, Nat.le_of_ble_eq_true rfl⟩ dX3_restsIn_25 ⟨Nat.le_of_ble_eq_true rfl, Nat.le_of_ble_eq_true rfl⟩ rfl ?_
      refine ro_ifb_ne (tgt := 44) (q := 31) hX dX3_restsIn_28 (by decide) rfl (fun _ => ?_) (fun q => absurd q (by rw [hs.resolve_left (by omega)]; decide))
      refine ro_aload_n (i := 0) (q := 45) hX dX3_restsIn_44 rfl rfl rfl ?_
      refine ro_sipush (v := nI 2448) (q := 48) hX dX3_restsIn_45 rfl rfl ?_
      refine ro_callVi (q9 := 51) hX (m_rests (by omega)) mw_X3_rests kl_X3_208 (by decide) (fun cy => cell3 (by decide +kernel)) rfl rfl rfl (Nat.le_of_ble_eq_true rfl) ⟨Nat.le_of_ble_eq_true rfl, Nat.le_of_ble_eq_true rfl⟩ dX3_restsIn_48 ⟨Nat.le_of_ble_eq_true rfl, Nat.le_of_ble_eq_true rfl⟩ rfl ?_
      refine ro_ifb_eq (tgt := 58) (q := 54) hX dX3_restsIn_51 (by decide) rfl (fun q3 => ?_) (fun q3 => ?_)
      · skip
        refine ro_iconst (v := (-1)) (q := 59) hX dX3_restsIn_58 rfl rfl ?_
        exact fin_i hF (Nat.le_of_ble_eq_true rfl) (Nat.le_of_ble_eq_true rfl) dX3_restsIn_59 (by first | with_reducible rfl | (simp [*]; done) | ((repeat' split) <;> first | with_reducible rfl | contradiction | (simp_all; done)) | rfl) (by rfl)
      · skip
        refine ro_iload_n (i := 1) (q := 55) hX dX3_restsIn_54 rfl rfl rfl ?_
        refine ro_goto (tgt := 59) hX dX3_restsIn_55 (by decide) ?_
        exact fin_i hF (Nat.le_of_ble_eq_true rfl) (Nat.le_of_ble_eq_true rfl) dX3_restsIn_59 (by first | with_reducible rfl | (simp [*]; done) | ((repeat' split) <;> first | with_reducible rfl | contradiction | (simp_all; done)) | rfl) (by rfl)
end
