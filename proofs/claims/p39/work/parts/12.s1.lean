section
variable {sz r : Nat} {G : Nat → Nat → Int32} {T : (Nat → Nat) × Int64} {f : SV}
set_option maxRecDepth 20000 in
set_option maxHeartbeats 2000000 in
theorem s_has {G : Nat → Nat → Int32} {T : (Nat → Nat) × Int64} {s m : Int32} : Does sz I_X2_has [.int s, .int m] (G, T) 0 0 (.inl (some (bi (tb s m)))) (G, T) := by
  refine Does.of (L := [(0, .int s), (1, .int m)]) (by decide +kernel) (Nat.le_of_ble_eq_true rfl) rfl ⟨rfl, (by simp), ⟨rfl, (by simp), trivial⟩⟩ (fun VV hF => ?_)
  have hX := hF.c
  refine ro_iload_n (i := 0) (q := 1) hX dX2_has_0 rfl rfl rfl ?_
  refine ro_iload_n (i := 1) (q := 2) hX dX2_has_1 rfl rfl rfl ?_
  refine ro_ishr (q := 3) hX dX2_has_2 rfl ?_
  refine ro_iconst (v := nI 1) (q := 4) hX dX2_has_3 rfl rfl ?_
  refine ro_iand (q := 5) hX dX2_has_4 rfl ?_
  refine ro_if_eq (tgt := 12) (q := 8) hX dX2_has_5 (by decide) rfl (fun q1 => ?_) (fun q1 => ?_)
  · skip
    refine ro_iconst (v := nI 0) (q := 13) hX dX2_has_12 rfl rfl ?_
    exact fin_z hF (Nat.le_of_ble_eq_true rfl) (Nat.le_of_ble_eq_true rfl) dX2_has_13 rfl (by first | with_reducible rfl | (simp [tb, bi, setL_s, setL_t, setL_0, dropL_0, dropL_c, *]; done) | (simp only [tb, bi, setL_s, setL_t, setL_0, dropL_0, dropL_c]; (repeat' split) <;> first | with_reducible rfl | contradiction | (simp_all; done)) | rfl) (by first | with_reducible rfl | (simp [tb, bi, setL_s, setL_t, setL_0, dropL_0, dropL_c, *]; done) | (simp only [tb, bi, setL_s, setL_t, setL_0, dropL_0, dropL_c]; (repeat' split) <;> first | with_reducible rfl | contradiction | (simp_all; done)) | rfl)
  · skip
    refine ro_iconst (v := nI 1) (q := 9) hX dX2_has_8 rfl rfl ?_
    refine ro_goto (tgt := 13) hX dX2_has_9 (by decide) ?_
    exact fin_z hF (Nat.le_of_ble_eq_true rfl) (Nat.le_of_ble_eq_true rfl) dX2_has_13 rfl (by first | with_reducible rfl | (simp [tb, bi, setL_s, setL_t, setL_0, dropL_0, dropL_c, *]; done) | (simp only [tb, bi, setL_s, setL_t, setL_0, dropL_0, dropL_c]; (repeat' split) <;> first | with_reducible rfl | contradiction | (simp_all; done)) | rfl) (by first | with_reducible rfl | (simp [tb, bi, setL_s, setL_t, setL_0, dropL_0, dropL_c, *]; done) | (simp only [tb, bi, setL_s, setL_t, setL_0, dropL_0, dropL_c]; (repeat' split) <;> first | with_reducible rfl | contradiction | (simp_all; done)) | rfl)
set_option maxRecDepth 20000 in
set_option maxHeartbeats 2000000 in
theorem s_isPage {x : Int32} : Does sz I_X1_isPage [.int x] (G, T) 0 0 (.inl (some (bi (isR x 30)))) (G, T) := by
  refine Does.of (L := [(0, .int x)]) (by decide +kernel) (Nat.le_of_ble_eq_true rfl) rfl ⟨rfl, (by simp), trivial⟩ (fun VV hF => ?_)
  have hX := hF.c
  refine ro_iload_n (i := 0) (q := 1) hX dX1_isPage_0 rfl rfl rfl ?_
  refine ro_if_lt (tgt := 14) (q := 4) hX dX1_isPage_1 (by decide) rfl (fun q1 => ?_) (fun q1 => ?_)
  · skip
    refine ro_iconst (v := nI 0) (q := 15) hX dX1_isPage_14 rfl rfl ?_
    exact fin_z hF (Nat.le_of_ble_eq_true rfl) (Nat.le_of_ble_eq_true rfl) dX1_isPage_15 rfl (by first | with_reducible rfl | (simp [isR, bi, setL_s, setL_t, setL_0, dropL_0, dropL_c, *]; done) | (simp only [isR, bi, setL_s, setL_t, setL_0, dropL_0, dropL_c]; (repeat' split) <;> first | with_reducible rfl | contradiction | (simp_all; done)) | rfl) (by first | with_reducible rfl | (simp [isR, bi, setL_s, setL_t, setL_0, dropL_0, dropL_c, *]; done) | (simp only [isR, bi, setL_s, setL_t, setL_0, dropL_0, dropL_c]; (repeat' split) <;> first | with_reducible rfl | contradiction | (simp_all; done)) | rfl)
  · skip
    refine ro_iload_n (i := 0) (q := 5) hX dX1_isPage_4 rfl rfl rfl ?_
    refine ro_bipush (v := nI 30) (q := 7) hX dX1_isPage_5 rfl rfl ?_
    refine ro_icmp_ge (tgt := 14) (q := 10) hX dX1_isPage_7 (by decide) rfl (fun q2 => ?_) (fun q2 => ?_)
    · skip
      refine ro_iconst (v := nI 0) (q := 15) hX dX1_isPage_14 rfl rfl ?_
      exact fin_z hF (Nat.le_of_ble_eq_true rfl) (Nat.le_of_ble_eq_true rfl) dX1_isPage_15 rfl (by first | with_reducible rfl | (simp [isR, bi, setL_s, setL_t, setL_0, dropL_0, dropL_c, *]; done) | (simp only [isR, bi, setL_s, setL_t, setL_0, dropL_0, dropL_c]; (repeat' split) <;> first | with_reducible rfl | contradiction | (simp_all; done)) | rfl) (by first | with_reducible rfl | (simp [isR, bi, setL_s, setL_t, setL_0, dropL_0, dropL_c, *]; done) | (simp only [isR, bi, setL_s, setL_t, setL_0, dropL_0, dropL_c]; (repeat' split) <;> first | with_reducible rfl | contradiction | (simp_all; done)) | rfl)
    · skip
      refine ro_iconst (v := nI 1) (q := 11) hX dX1_isPage_10 rfl rfl ?_
      refine ro_goto (tgt := 15) hX dX1_isPage_11 (by decide) ?_
      exact fin_z hF (Nat.le_of_ble_eq_true rfl) (Nat.le_of_ble_eq_true rfl) dX1_isPage_15 rfl (by first | with_reducible rfl | (simp [isR, bi, setL_s, setL_t, setL_0, dropL_0, dropL_c, *]; done) | (simp only [isR, bi, setL_s, setL_t, setL_0, dropL_0, dropL_c]; (repeat' split) <;> first | with_reducible rfl | contradiction | (simp_all; done)) | rfl) (by first | with_reducible rfl | (simp [isR, bi, setL_s, setL_t, setL_0, dropL_0, dropL_c, *]; done) | (simp only [isR, bi, setL_s, setL_t, setL_0, dropL_0, dropL_c]; (repeat' split) <;> first | with_reducible rfl | contradiction | (simp_all; done)) | rfl)
set_option maxRecDepth 20000 in
set_option maxHeartbeats 2000000 in
theorem s_isHost {x : Int32} : Does sz I_X1_isHost [.int x] (G, T) 0 0 (.inl (some (bi (isR x 6)))) (G, T) := by
  refine Does.of (L := [(0, .int x)]) (by decide +kernel) (Nat.le_of_ble_eq_true rfl) rfl ⟨rfl, (by simp), trivial⟩ (fun VV hF => ?_)
  have hX := hF.c
  refine ro_iload_n (i := 0) (q := 1) hX dX1_isHost_0 rfl rfl rfl ?_
  refine ro_if_lt (tgt := 14) (q := 4) hX dX1_isHost_1 (by decide) rfl (fun q1 => ?_) (fun q1 => ?_)
  · skip
    refine ro_iconst (v := nI 0) (q := 15) hX dX1_isHost_14 rfl rfl ?_
    exact fin_z hF (Nat.le_of_ble_eq_true rfl) (Nat.le_of_ble_eq_true rfl) dX1_isHost_15 rfl (by first | with_reducible rfl | (simp [isR, bi, setL_s, setL_t, setL_0, dropL_0, dropL_c, *]; done) | (simp only [isR, bi, setL_s, setL_t, setL_0, dropL_0, dropL_c]; (repeat' split) <;> first | with_reducible rfl | contradiction | (simp_all; done)) | rfl) (by first | with_reducible rfl | (simp [isR, bi, setL_s, setL_t, setL_0, dropL_0, dropL_c, *]; done) | (simp only [isR, bi, setL_s, setL_t, setL_0, dropL_0, dropL_c]; (repeat' split) <;> first | with_reducible rfl | contradiction | (simp_all; done)) | rfl)
  · skip
    refine ro_iload_n (i := 0) (q := 5) hX dX1_isHost_4 rfl rfl rfl ?_
    refine ro_bipush (v := nI 6) (q := 7) hX dX1_isHost_5 rfl rfl ?_
    refine ro_icmp_ge (tgt := 14) (q := 10) hX dX1_isHost_7 (by decide) rfl (fun q2 => ?_) (fun q2 => ?_)
    · skip
      refine ro_iconst (v := nI 0) (q := 15) hX dX1_isHost_14 rfl rfl ?_
      exact fin_z hF (Nat.le_of_ble_eq_true rfl) (Nat.le_of_ble_eq_true rfl) dX1_isHost_15 rfl (by first | with_reducible rfl | (simp [isR, bi, setL_s, setL_t, setL_0, dropL_0, dropL_c, *]; done) | (simp only [isR, bi, setL_s, setL_t, setL_0, dropL_0, dropL_c]; (repeat' split) <;> first | with_reducible rfl | contradiction | (simp_all; done)) | rfl) (by first | with_reducible rfl | (simp [isR, bi, setL_s, setL_t, setL_0, dropL_0, dropL_c, *]; done) | (simp only [isR, bi, setL_s, setL_t, setL_0, dropL_0, dropL_c]; (repeat' split) <;> first | with_reducible rfl | contradiction | (simp_all; done)) | rfl)
    · skip
      refine ro_iconst (v := nI 1) (q := 11) hX dX1_isHost_10 rfl rfl ?_
      refine ro_goto (tgt := 15) hX dX1_isHost_11 (by decide) ?_
      exact fin_z hF (Nat.le_of_ble_eq_true rfl) (Nat.le_of_ble_eq_true rfl) dX1_isHost_15 rfl (by first | with_reducible rfl | (simp [isR, bi, setL_s, setL_t, setL_0, dropL_0, dropL_c, *]; done) | (simp only [isR, bi, setL_s, setL_t, setL_0, dropL_0, dropL_c]; (repeat' split) <;> first | with_reducible rfl | contradiction | (simp_all; done)) | rfl) (by first | with_reducible rfl | (simp [isR, bi, setL_s, setL_t, setL_0, dropL_0, dropL_c, *]; done) | (simp only [isR, bi, setL_s, setL_t, setL_0, dropL_0, dropL_c]; (repeat' split) <;> first | with_reducible rfl | contradiction | (simp_all; done)) | rfl)
set_option maxRecDepth 20000 in
set_option maxHeartbeats 2000000 in
theorem s_isPage_t {p : Nat} (hp : p < 30) : Does sz I_X1_isPage [.int (nI p)] (G, T) 0 0 (.inl (some (nI 1))) (G, T) := by
  refine Does.of (L := [(0, .int (nI p))]) (by decide +kernel) (Nat.le_of_ble_eq_true rfl) rfl ⟨rfl, (by simp), trivial⟩ (fun VV hF => ?_)
  have hX := hF.c
  refine ro_iload_n (i := 0) (q := 1) hX dX1_isPage_0 rfl rfl rfl ?_
  refine ro_if_lt (tgt := 14) (q := 4) hX dX1_isPage_1 (by decide) rfl (fun q => absurd q (by first | exact nI_pos (by omega) | exact nI_pos' (by omega))) (fun _ => ?_)
  refine ro_iload_n (i := 0) (q := 5) hX dX1_isPage_4 rfl rfl rfl ?_
  refine ro_bipush (v := nI 30) (q := 7) hX dX1_isPage_5 rfl rfl ?_
  refine ro_icmp_ge (tgt := 14) (q := 10) hX dX1_isPage_7 (by decide) rfl (fun q => absurd q (by first | exact ni_nle (by omega) (by omega) | exact ni_lt (by omega) (by omega) | exact ni_nlt (by omega) (by omega) | exact ni_le (by omega) (by omega) | exact ni_ne (by omega) (by omega) (by omega))) (fun _ => ?_)
  refine ro_iconst (v := nI 1) (q := 11) hX dX1_isPage_10 rfl rfl ?_
  refine ro_goto (tgt := 15) hX dX1_isPage_11 (by decide) ?_
  exact fin_z hF (Nat.le_of_ble_eq_true rfl) (Nat.le_of_ble_eq_true rfl) dX1_isPage_15 rfl (by rfl) (by rfl)
set_option maxRecDepth 20000 in
set_option maxHeartbeats 2000000 in
theorem s_isHost_t {h : Nat} (hh : h < 6) : Does sz I_X1_isHost [.int (nI h)] (G, T) 0 0 (.inl (some (nI 1))) (G, T) := by
  refine Does.of (L := [(0, .int (nI h))]) (by decide +kernel) (Nat.le_of_ble_eq_true rfl) rfl ⟨rfl, (by simp), trivial⟩ (fun VV hF => ?_)
  have hX := hF.c
  refine ro_iload_n (i := 0) (q := 1) hX dX1_isHost_0 rfl rfl rfl ?_
  refine ro_if_lt (tgt := 14) (q := 4) hX dX1_isHost_1 (by decide) rfl (fun q => absurd q (by first | exact nI_pos (by omega) | exact nI_pos' (by omega))) (fun _ => ?_)
  refine ro_iload_n (i := 0) (q := 5) hX dX1_isHost_4 rfl rfl rfl ?_
  refine ro_bipush (v := nI 6) (q := 7) hX dX1_isHost_5 rfl rfl ?_
  refine ro_icmp_ge (tgt := 14) (q := 10) hX dX1_isHost_7 (by decide) rfl (fun q => absurd q (by first | exact ni_nle (by omega) (by omega) | exact ni_lt (by omega) (by omega) | exact ni_nlt (by omega) (by omega) | exact ni_le (by omega) (by omega) | exact ni_ne (by omega) (by omega) (by omega))) (fun _ => ?_)
  refine ro_iconst (v := nI 1) (q := 11) hX dX1_isHost_10 rfl rfl ?_
  refine ro_goto (tgt := 15) hX dX1_isHost_11 (by decide) ?_
  exact fin_z hF (Nat.le_of_ble_eq_true rfl) (Nat.le_of_ble_eq_true rfl) dX1_isHost_15 rfl (by rfl) (by rfl)
set_option maxRecDepth 20000 in
set_option maxHeartbeats 2000000 in
theorem s_isHost_m1 : Does sz I_X1_isHost [.int (-1)] (G, T) 0 0 (.inl (some (nI 0))) (G, T) := by
  refine Does.of (L := [(0, .int (-1))]) (by decide +kernel) (Nat.le_of_ble_eq_true rfl) rfl ⟨rfl, (by simp), trivial⟩ (fun VV hF => ?_)
  have hX := hF.c
  refine ro_iload_n (i := 0) (q := 1) hX dX1_isHost_0 rfl rfl rfl ?_
  refine ro_if_lt (tgt := 14) (q := 4) hX dX1_isHost_1 (by decide) rfl (fun _ => ?_) (fun q => absurd (by decide) q)
  refine ro_iconst (v := nI 0) (q := 15) hX dX1_isHost_14 rfl rfl ?_
  exact fin_z hF (Nat.le_of_ble_eq_true rfl) (Nat.le_of_ble_eq_true rfl) dX1_isHost_15 rfl (by rfl) (by rfl)
set_option maxRecDepth 20000 in
set_option maxHeartbeats 2000000 in
theorem s_bitCount {x : Int32} : Does sz I_J6_bitCount_0f7a4 [.int x] (G, T) 0 0 (.inl (some (bcI x))) (G, T) := by
  refine Does.of (L := [(0, .int x)]) (by decide +kernel) (Nat.le_of_ble_eq_true rfl) rfl ⟨rfl, (by simp), trivial⟩ (fun VV hF => ?_)
  have hX := hF.c
  refine ro_iload_n (i := 0) (q := 1) hX dJ6_bitCount_0f7a4_0 rfl rfl rfl ?_
  refine ro_iload_n (i := 0) (q := 2) hX dJ6_bitCount_0f7a4_1 rfl rfl rfl ?_
  refine ro_iconst (v := nI 1) (q := 3) hX dJ6_bitCount_0f7a4_2 rfl rfl ?_
  refine ro_iushr (q := 4) hX dJ6_bitCount_0f7a4_3 rfl rfl ?_
  refine ro_ldcw (v := nI 1431655765) (q := 7) hX kc_J6_265 dJ6_bitCount_0f7a4_4 rfl ?_
  refine ro_iand (q := 8) hX dJ6_bitCount_0f7a4_7 rfl ?_
  refine ro_isub (q := 9) hX dJ6_bitCount_0f7a4_8 rfl ?_
  refine ro_istore_n (i := 0) (q := 10) hX dJ6_bitCount_0f7a4_9 rfl (Nat.le_of_ble_eq_true rfl) rfl ?_
  refine ro_iload_n (i := 0) (q := 11) hX dJ6_bitCount_0f7a4_10 rfl rfl rfl ?_
  refine ro_ldcw (v := nI 858993459) (q := 14) hX kc_J6_266 dJ6_bitCount_0f7a4_11 rfl ?_
  refine ro_iand (q := 15) hX dJ6_bitCount_0f7a4_14 rfl ?_
  refine ro_iload_n (i := 0) (q := 16) hX dJ6_bitCount_0f7a4_15 rfl rfl rfl ?_
  refine ro_iconst (v := nI 2) (q := 17) hX dJ6_bitCount_0f7a4_16 rfl rfl ?_
  refine ro_iushr (q := 18) hX dJ6_bitCount_0f7a4_17 rfl rfl ?_
  refine ro_ldcw (v := nI 858993459) (q := 21) hX kc_J6_266 dJ6_bitCount_0f7a4_18 rfl ?_
  refine ro_iand (q := 22) hX dJ6_bitCount_0f7a4_21 rfl ?_
  refine ro_iadd (q := 23) hX dJ6_bitCount_0f7a4_22 rfl ?_
  refine ro_istore_n (i := 0) (q := 24) hX dJ6_bitCount_0f7a4_23 rfl (Nat.le_of_ble_eq_true rfl) rfl ?_
  refine ro_iload_n (i := 0) (q := 25) hX dJ6_bitCount_0f7a4_24 rfl rfl rfl ?_
  refine ro_iload_n (i := 0) (q := 26) hX dJ6_bitCount_0f7a4_25 rfl rfl rfl ?_
  refine ro_iconst (v := nI 4) (q := 27) hX dJ6_bitCount_0f7a4_26 rfl rfl ?_
  refine ro_iushr (q := 28) hX dJ6_bitCount_0f7a4_27 rfl rfl ?_
  refine ro_iadd (q := 29) hX dJ6_bitCount_0f7a4_28 rfl ?_
  refine ro_ldcw (v := nI 252645135) (q := 32) hX kc_J6_267 dJ6_bitCount_0f7a4_29 rfl ?_
  refine ro_iand (q := 33) hX dJ6_bitCount_0f7a4_32 rfl ?_
  refine ro_istore_n (i := 0) (q := 34) hX dJ6_bitCount_0f7a4_33 rfl (Nat.le_of_ble_eq_true rfl) rfl ?_
  refine ro_iload_n (i := 0) (q := 35) hX dJ6_bitCount_0f7a4_34 rfl rfl rfl ?_
  refine ro_iload_n (i := 0) (q := 36) hX dJ6_bitCount_0f7a4_35 rfl rfl rfl ?_
  refine ro_bipush (v := nI 8) (q := 38) hX dJ6_bitCount_0f7a4_36 rfl rfl ?_
  refine ro_iushr (q := 39) hX dJ6_bitCount_0f7a4_38 rfl rfl ?_
  refine ro_iadd (q := 40) hX dJ6_bitCount_0f7a4_39 rfl ?_
  refine ro_istore_n (i := 0) (q := 41) hX dJ6_bitCount_0f7a4_40 rfl (Nat.le_of_ble_eq_true rfl) rfl ?_
  refine ro_iload_n (i := 0) (q := 42) hX dJ6_bitCount_0f7a4_41 rfl rfl rfl ?_
  refine ro_iload_n (i := 0) (q := 43) hX dJ6_bitCount_0f7a4_42 rfl rfl rfl ?_
  refine ro_bipush (v := nI 16) (q := 45) hX dJ6_bitCount_0f7a4_43 rfl rfl ?_
  refine ro_iushr (q := 46) hX dJ6_bitCount_0f7a4_45 rfl rfl ?_
  refine ro_iadd (q := 47) hX dJ6_bitCount_0f7a4_46 rfl ?_
  refine ro_istore_n (i := 0) (q := 48) hX dJ6_bitCount_0f7a4_47 rfl (Nat.le_of_ble_eq_true rfl) rfl ?_
  refine ro_iload_n (i := 0) (q := 49) hX dJ6_bitCount_0f7a4_48 rfl rfl rfl ?_
  refine ro_bipush (v := nI 63) (q := 51) hX dJ6_bitCount_0f7a4_49 rfl rfl ?_
  refine ro_iand (q := 52) hX dJ6_bitCount_0f7a4_51 rfl ?_
  exact fin_i hF (Nat.le_of_ble_eq_true rfl) (Nat.le_of_ble_eq_true rfl) dJ6_bitCount_0f7a4_52 (by rfl) (by rfl)
set_option maxRecDepth 20000 in
set_option maxHeartbeats 2000000 in
theorem s_exists (hB : isB r) {p : Nat} (hp : p < 30) : Does sz I_X1_exists [.ref (sz + r), .int (nI p)] (patch G r 7 f, T) 0 0 (.inl (some (bi (exS f p)))) (patch G r 7 f, T) := by
  refine Does.of (L := [(0, .ref (sz + r)), (1, .int (nI p))]) (by decide +kernel) (Nat.le_of_ble_eq_true rfl) rfl ⟨rfl, (by simp), ⟨rfl, (by simp), trivial⟩⟩ (fun VV hF => ?_)
  have hX := hF.c
  refine ro_iload_n (i := 1) (q := 1) hX dX1_exists_0 rfl rfl rfl ?_
  refine ro_callSi (q9 := 4) hX (s_isPage_t (by omega)) mw_X1_isPage kl_X1_64 rfl rfl (Nat.le_of_ble_eq_true rfl) ⟨Nat.le_of_ble_eq_true rfl, Nat.le_of_ble_eq_true rfl⟩ dX1_exists_1 ⟨Nat.le_of_ble_eq_true rfl, Nat.le_of_ble_eq_true rfl⟩ rfl ?_
  refine ro_if_eq (tgt := 22) (q := 7) hX dX1_exists_4 (by decide) rfl (fun q => absurd q (by decide)) (fun _ => ?_)
  refine ro_aload_n (i := 0) (q := 8) hX dX1_exists_7 rfl rfl rfl ?_
  refine ro_Sgi (j := 6) (q9 := 11) ⟨by decide, by decide⟩ hX hB kf_X1_30 dX1_exists_8 rfl ?_
  refine ro_iload_n (i := 1) (q := 12) hX dX1_exists_11 rfl rfl rfl ?_
  refine ro_callSNi (q9 := 15) hX (s_has) mw_X2_has kl_X1_68 rfl rfl (Nat.le_of_ble_eq_true rfl) ⟨Nat.le_of_ble_eq_true rfl, Nat.le_of_ble_eq_true rfl⟩ dX1_exists_12 ⟨Nat.le_of_ble_eq_true rfl, Nat.le_of_ble_eq_true rfl⟩ rfl ?_
  refine ro_ifb_eq (tgt := 22) (q := 18) hX dX1_exists_15 (by decide) rfl (fun q1 => ?_) (fun q1 => ?_)
  · skip
    refine ro_iconst (v := nI 0) (q := 23) hX dX1_exists_22 rfl rfl ?_
    exact fin_z hF (Nat.le_of_ble_eq_true rfl) (Nat.le_of_ble_eq_true rfl) dX1_exists_23 rfl (by first | with_reducible rfl | (simp [exS, bi, setL_s, setL_t, setL_0, dropL_0, dropL_c, *]; done) | (simp only [exS, bi, setL_s, setL_t, setL_0, dropL_0, dropL_c]; (repeat' split) <;> first | with_reducible rfl | contradiction | (simp_all; done)) | rfl) (by first | with_reducible rfl | (simp [exS, bi, setL_s, setL_t, setL_0, dropL_0, dropL_c, *]; done) | (simp only [exS, bi, setL_s, setL_t, setL_0, dropL_0, dropL_c]; (repeat' split) <;> first | with_reducible rfl | contradiction | (simp_all; done)) | rfl)
  · skip
    refine ro_iconst (v := nI 1) (q := 19) hX dX1_exists_18 rfl rfl ?_
    refine ro_goto (tgt := 23) hX dX1_exists_19 (by decide) ?_
    exact fin_z hF (Nat.le_of_ble_eq_true rfl) (Nat.le_of_ble_eq_true rfl) dX1_exists_23 rfl (by first | with_reducible rfl | (simp [exS, bi, setL_s, setL_t, setL_0, dropL_0, dropL_c, *]; done) | (simp only [exS, bi, setL_s, setL_t, setL_0, dropL_0, dropL_c]; (repeat' split) <;> first | with_reducible rfl | contradiction | (simp_all; done)) | rfl) (by first | with_reducible rfl | (simp [exS, bi, setL_s, setL_t, setL_0, dropL_0, dropL_c, *]; done) | (simp only [exS, bi, setL_s, setL_t, setL_0, dropL_0, dropL_c]; (repeat' split) <;> first | with_reducible rfl | contradiction | (simp_all; done)) | rfl)
set_option maxRecDepth 20000 in
set_option maxHeartbeats 2000000 in
theorem s_freshSet (hB : isB r) {p : Nat} (hp : p < 30) : Does sz I_X1_freshSet [.ref (sz + r), .int (nI p)] (patch G r 7 f, T) 0 0 (.inl (some (frS f p 6))) (patch G r 7 f, T) := by
  refine Does.of (L := [(0, .ref (sz + r)), (1, .int (nI p))]) (by decide +kernel) (Nat.le_of_ble_eq_true rfl) rfl ⟨rfl, (by simp), ⟨rfl, (by simp), trivial⟩⟩ (fun VV hF => ?_)
  have hX := hF.c
  refine ro_iconst (v := nI 0) (q := 1) hX dX1_freshSet_0 rfl rfl ?_
  refine ro_istore_n (i := 2) (q := 2) hX dX1_freshSet_1 rfl (Nat.le_of_ble_eq_true rfl) rfl ?_
  refine ro_iconst (v := nI 0) (q := 3) hX dX1_freshSet_2 rfl rfl ?_
  refine ro_istore_n (i := 3) (q := 4) hX dX1_freshSet_3 rfl (Nat.le_of_ble_eq_true rfl) rfl ?_
  refine vv_LM (L' := [(0, .ref (sz + r)), (1, .int (nI p)), (2, .int (frS f p 0)), (3, .int (nI 0))]) (M' := (patch G r 7 f, T)) (by rfl) (by rfl) ?_
  refine down_ind (P := fun k4 => VV 0 0 4 [(0, .ref (sz + r)), (1, .int (nI p)), (2, .int (frS f p k4)), (3, .int (nI k4))] [] (patch G r 7 f, T)) (6) (fun k4 hk4 ih4 => ?_) ?_
  · have ih4 : VV 0 0 4 [(0, .ref (sz + r)), (1, .int (nI p)), (2, .int (frS f p (k4 + 1))), (3, .int (nI (k4 + 1)))] [] (patch G r 7 f, T) := ih4
    show VV 0 0 4 [(0, .ref (sz + r)), (1, .int (nI p)), (2, .int (frS f p k4)), (3, .int (nI k4))] [] (patch G r 7 f, T)
    refine ro_iload_n (i := 3) (q := 5) hX dX1_freshSet_4 rfl rfl rfl ?_
    refine ro_bipush (v := nI 6) (q := 7) hX dX1_freshSet_5 rfl rfl ?_
    refine ro_icmp_ge (tgt := 31) (q := 10) hX dX1_freshSet_7 (by decide) rfl (fun q => absurd q (by first | exact ni_nle (by omega) (by omega) | exact ni_lt (by omega) (by omega))) (fun _ => ?_)
    refine ro_iload_n (i := 2) (q := 11) hX dX1_freshSet_10 rfl rfl rfl ?_
    refine ro_aload_n (i := 0) (q := 12) hX dX1_freshSet_11 rfl rfl rfl ?_
    refine ro_Sga (j := 3) (a := 4) (q9 := 15) ⟨by decide, rfl⟩ hX hB kf_X1_21 dX1_freshSet_12 rfl ?_
    refine ro_iload_n (i := 3) (q := 16) hX dX1_freshSet_15 rfl rfl rfl ?_
    refine ro_Sald (a := 4) (n := k4) (q9 := 17) ⟨by decide, by decide⟩ hX hB rfl (show k4 < 6 from by omega) dX1_freshSet_16 rfl ?_
    refine ro_iload_n (i := 1) (q := 18) hX dX1_freshSet_17 rfl rfl rfl ?_
    refine ro_ishr (q := 19) hX dX1_freshSet_18 rfl ?_
    refine ro_iconst (v := nI 1) (q := 20) hX dX1_freshSet_19 rfl rfl ?_
    refine ro_iand (q := 21) hX dX1_freshSet_20 rfl ?_
    refine ro_iload_n (i := 3) (q := 22) hX dX1_freshSet_21 rfl rfl rfl ?_
    refine ro_ishl (q := 23) hX dX1_freshSet_22 rfl ?_
    refine ro_ior (q := 24) hX dX1_freshSet_23 rfl ?_
    refine ro_istore_n (i := 2) (q := 25) hX dX1_freshSet_24 rfl (Nat.le_of_ble_eq_true rfl) rfl ?_
    refine ro_iinc (i := 3) (v := nI (k4 + 1)) (q := 28) hX dX1_freshSet_25 rfl (ni_inc _) (Nat.le_of_ble_eq_true rfl) rfl ?_
    refine ro_goto (tgt := 4) hX dX1_freshSet_28 (by decide) ?_
    exact vv_LM (by rfl) (by rfl) ih4
  · show VV 0 0 4 [(0, .ref (sz + r)), (1, .int (nI p)), (2, .int (frS f p 6)), (3, .int (nI 6))] [] (patch G r 7 f, T)
    refine ro_iload_n (i := 3) (q := 5) hX dX1_freshSet_4 rfl rfl rfl ?_
    refine ro_bipush (v := nI 6) (q := 7) hX dX1_freshSet_5 rfl rfl ?_
    refine ro_icmp_ge (tgt := 31) (q := 10) hX dX1_freshSet_7 (by decide) rfl (fun _ => ?_) (fun q => absurd (by decide) q)
    refine ro_iload_n (i := 2) (q := 32) hX dX1_freshSet_31 rfl rfl rfl ?_
    exact fin_i hF (Nat.le_of_ble_eq_true rfl) (Nat.le_of_ble_eq_true rfl) dX1_freshSet_32 (by rfl) (by rfl)
set_option maxRecDepth 20000 in
set_option maxHeartbeats 2000000 in
theorem s_copySet (hB : isB r) {p : Nat} (hp : p < 30) : Does sz I_X1_copySet [.ref (sz + r), .int (nI p)] (patch G r 7 f, T) 0 0 (.inl (some (cpS f p))) (patch G r 7 f, T) := by
  refine Does.of (L := [(0, .ref (sz + r)), (1, .int (nI p))]) (by decide +kernel) (Nat.le_of_ble_eq_true rfl) rfl ⟨rfl, (by simp), ⟨rfl, (by simp), trivial⟩⟩ (fun VV hF => ?_)
  have hX := hF.c
  refine ro_aload_n (i := 0) (q := 1) hX dX1_copySet_0 rfl rfl rfl ?_
  refine ro_iload_n (i := 1) (q := 2) hX dX1_copySet_1 rfl rfl rfl ?_
  refine ro_callVi (q9 := 5) hX (s_freshSet hB (by omega)) mw_X1_freshSet kl_X1_86 (isB_lt hB) (fun cy => cell1 (isB_kd hB).2.2.1) rfl rfl rfl (Nat.le_of_ble_eq_true rfl) ⟨Nat.le_of_ble_eq_true rfl, Nat.le_of_ble_eq_true rfl⟩ dX1_copySet_2 ⟨Nat.le_of_ble_eq_true rfl, Nat.le_of_ble_eq_true rfl⟩ rfl ?_
  refine ro_aload_n (i := 0) (q := 6) hX dX1_copySet_5 rfl rfl rfl ?_
  refine ro_Sgi (j := 7) (q9 := 9) ⟨by decide, by decide⟩ hX hB kf_X1_34 dX1_copySet_6 rfl ?_
  refine ro_iand (q := 10) hX dX1_copySet_9 rfl ?_
  exact fin_i hF (Nat.le_of_ble_eq_true rfl) (Nat.le_of_ble_eq_true rfl) dX1_copySet_10 (by rfl) (by rfl)
end
