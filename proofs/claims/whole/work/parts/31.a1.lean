section
variable {sz r : Nat} {G : Nat → Nat → Int32} {T : (Nat → Nat) × Int64} {F : SV} {s : NV}
set_option maxRecDepth 20000 in
set_option maxHeartbeats 2000000 in
theorem m_in {x y z : Int32} : Does sz I_X3_in [.int x, .int y, .int z] (patch G 75 4 (mS F s), T) 0 0 (.inl (some (bi (if x < y then false else if z < x then false else true)))) (patch G 75 4 (mS F s), T) := by
  refine Does.of (L := [(0, .int x), (1, .int y), (2, .int z)]) (by decide +kernel) (Nat.le_of_ble_eq_true rfl) rfl ⟨rfl, (by simp), ⟨rfl, (by simp), ⟨rfl, (by simp), trivial⟩⟩⟩ (fun VV hF => ?_)
  have hX := hF.c
  refine ro_iload_n (i := 0) (q := 1) hX dX3_in_0 rfl rfl rfl ?_
  refine ro_iload_n (i := 1) (q := 2) hX dX3_in_1 rfl rfl rfl ?_
  refine ro_icmp_lt (tgt := 14) (q := 5) hX dX3_in_2 (by decide) rfl (fun q1 => ?_) (fun q1 => ?_)
  · skip
    refine ro_iconst (v := nI 0) (q := 15) hX dX3_in_14 rfl rfl ?_
    exact fin_z hF (Nat.le_of_ble_eq_true rfl) (Nat.le_of_ble_eq_true rfl) dX3_in_15 rfl (by first | with_reducible rfl | (simp [bi, setL_s, setL_t, setL_0, dropL_0, dropL_c, *]; done) | (simp only [bi, setL_s, setL_t, setL_0, dropL_0, dropL_c]; (repeat' split) <;> first | with_reducible rfl | contradiction | (exfalso; omega) | (simp_all; done)) | rfl) (by first | with_reducible rfl | (simp [bi, setL_s, setL_t, setL_0, dropL_0, dropL_c, *]; done) | (simp only [bi, setL_s, setL_t, setL_0, dropL_0, dropL_c]; (repeat' split) <;> first | with_reducible rfl | contradiction | (exfalso; omega) | (simp_all; done)) | rfl)
  · skip
    refine ro_iload_n (i := 0) (q := 6) hX dX3_in_5 rfl rfl rfl ?_
    refine ro_iload_n (i := 2) (q := 7) hX dX3_in_6 rfl rfl rfl ?_
    refine ro_icmp_gt (tgt := 14) (q := 10) hX dX3_in_7 (by decide) rfl (fun q2 => ?_) (fun q2 => ?_)
    · skip
      refine ro_iconst (v := nI 0) (q := 15) hX dX3_in_14 rfl rfl ?_
      exact fin_z hF (Nat.le_of_ble_eq_true rfl) (Nat.le_of_ble_eq_true rfl) dX3_in_15 rfl (by first | with_reducible rfl | (simp [bi, setL_s, setL_t, setL_0, dropL_0, dropL_c, *]; done) | (simp only [bi, setL_s, setL_t, setL_0, dropL_0, dropL_c]; (repeat' split) <;> first | with_reducible rfl | contradiction | (exfalso; omega) | (simp_all; done)) | rfl) (by first | with_reducible rfl | (simp [bi, setL_s, setL_t, setL_0, dropL_0, dropL_c, *]; done) | (simp only [bi, setL_s, setL_t, setL_0, dropL_0, dropL_c]; (repeat' split) <;> first | with_reducible rfl | contradiction | (exfalso; omega) | (simp_all; done)) | rfl)
    · skip
      refine ro_iconst (v := nI 1) (q := 11) hX dX3_in_10 rfl rfl ?_
      refine ro_goto (tgt := 15) hX dX3_in_11 (by decide) ?_
      exact fin_z hF (Nat.le_of_ble_eq_true rfl) (Nat.le_of_ble_eq_true rfl) dX3_in_15 rfl (by first | with_reducible rfl | (simp [bi, setL_s, setL_t, setL_0, dropL_0, dropL_c, *]; done) | (simp only [bi, setL_s, setL_t, setL_0, dropL_0, dropL_c]; (repeat' split) <;> first | with_reducible rfl | contradiction | (exfalso; omega) | (simp_all; done)) | rfl) (by first | with_reducible rfl | (simp [bi, setL_s, setL_t, setL_0, dropL_0, dropL_c, *]; done) | (simp only [bi, setL_s, setL_t, setL_0, dropL_0, dropL_c]; (repeat' split) <;> first | with_reducible rfl | contradiction | (exfalso; omega) | (simp_all; done)) | rfl)
set_option maxRecDepth 20000 in
set_option maxHeartbeats 2000000 in
theorem m_of {b : Nat} (hb : b ≤ 2448) {h : Nat} (hh : h < 6) {w : Nat} (hw : w < 4) : Does sz I_X3_of [.ref (sz + 75), .int (nI b), .int (nI h), .int (nI w)] (patch G 75 4 (mS F s), T) 0 0 (.inl (some (ofM s b h w))) (patch G 75 4 (mS F s), T) := by
  refine Does.of (L := [(0, .ref (sz + 75)), (1, .int (nI b)), (2, .int (nI h)), (3, .int (nI w))]) (by decide +kernel) (Nat.le_of_ble_eq_true rfl) rfl ⟨rfl, (by simp), ⟨rfl, (by simp), ⟨rfl, (by simp), ⟨rfl, (by simp), trivial⟩⟩⟩⟩ (fun VV hF => ?_)
  have hX := hF.c
  refine ro_aload_n (i := 0) (q := 1) hX dX3_of_0 rfl rfl rfl ?_
  refine ro_Nga1 (q9 := 4) hX kf_X3_7 dX3_of_1 rfl ?_
  refine ro_iload_n (i := 1) (q := 5) hX dX3_of_4 rfl rfl rfl ?_
  refine ro_bipush (v := nI 8) (q := 7) hX dX3_of_5 rfl rfl ?_
  refine ro_iadd (q := 8) hX dX3_of_7 rfl ?_
  refine vv_top (y := nI (b + 8)) (nI_add' rfl rfl) ?_
  refine ro_iconst (v := nI 4) (q := 9) hX dX3_of_8 rfl rfl ?_
  refine ro_iload_n (i := 2) (q := 10) hX dX3_of_9 rfl rfl rfl ?_
  refine ro_imul (q := 11) hX dX3_of_10 rfl ?_
  refine vv_top (y := nI (4 * h)) (nI_mul' rfl rfl) ?_
  refine ro_iadd (q := 12) hX dX3_of_11 rfl ?_
  refine vv_top (y := nI (b + 8 + (4 * h))) (nI_add' rfl rfl) ?_
  refine ro_iload_n (i := 3) (q := 13) hX dX3_of_12 rfl rfl rfl ?_
  refine ro_iadd (q := 14) hX dX3_of_13 rfl ?_
  refine vv_top (y := nI (b + 8 + (4 * h) + w)) (nI_add' rfl rfl) ?_
  refine ro_Nsld (n := b + 8 + (4 * h) + w) (q9 := 15) hX rfl (by omega) dX3_of_14 rfl ?_
  exact fin_i hF (Nat.le_of_ble_eq_true rfl) (Nat.le_of_ble_eq_true rfl) dX3_of_15 (by rfl) (by rfl)
set_option maxRecDepth 20000 in
set_option maxHeartbeats 2000000 in
theorem m_lay {b : Nat} (hb : b ≤ 2448) {h : Nat} (hh : h < 6) {w : Nat} (hw : w < 4) {x : Int32} : Does sz I_X3_lay [.ref (sz + 75), .int (nI b), .int (nI h), .int (nI w), .int x] (patch G 75 4 (mS F s), T) 0 0 (.inl none) (patch G 75 4 (mS F (laM s b h w x)), T) := by
  refine Does.of (L := [(0, .ref (sz + 75)), (1, .int (nI b)), (2, .int (nI h)), (3, .int (nI w)), (4, .int x)]) (by decide +kernel) (Nat.le_of_ble_eq_true rfl) rfl ⟨rfl, (by simp), ⟨rfl, (by simp), ⟨rfl, (by simp), ⟨rfl, (by simp), ⟨rfl, (by simp), trivial⟩⟩⟩⟩⟩ (fun VV hF => ?_)
  have hX := hF.c
  refine ro_aload_n (i := 0) (q := 1) hX dX3_lay_0 rfl rfl rfl ?_
  refine ro_Nga1 (q9 := 4) hX kf_X3_7 dX3_lay_1 rfl ?_
  refine ro_iload_n (i := 1) (q := 5) hX dX3_lay_4 rfl rfl rfl ?_
  refine ro_bipush (v := nI 8) (q := 7) hX dX3_lay_5 rfl rfl ?_
  refine ro_iadd (q := 8) hX dX3_lay_7 rfl ?_
  refine vv_top (y := nI (b + 8)) (nI_add' rfl rfl) ?_
  refine ro_iconst (v := nI 4) (q := 9) hX dX3_lay_8 rfl rfl ?_
  refine ro_iload_n (i := 2) (q := 10) hX dX3_lay_9 rfl rfl rfl ?_
  refine ro_imul (q := 11) hX dX3_lay_10 rfl ?_
  refine vv_top (y := nI (4 * h)) (nI_mul' rfl rfl) ?_
  refine ro_iadd (q := 12) hX dX3_lay_11 rfl ?_
  refine vv_top (y := nI (b + 8 + (4 * h))) (nI_add' rfl rfl) ?_
  refine ro_iload_n (i := 3) (q := 13) hX dX3_lay_12 rfl rfl rfl ?_
  refine ro_iadd (q := 14) hX dX3_lay_13 rfl ?_
  refine vv_top (y := nI (b + 8 + (4 * h) + w)) (nI_add' rfl rfl) ?_
  refine ro_iload (i := 4) (q := 16) hX dX3_lay_14 rfl rfl ?_
  refine ro_Nsst (n := b + 8 + (4 * h) + w) (q9 := 17) hX rfl (by omega) dX3_lay_16 rfl ?_
  exact fin_v hF (Nat.le_of_ble_eq_true rfl) (Nat.le_of_ble_eq_true rfl) dX3_lay_17 (by rfl)
set_option maxRecDepth 20000 in
set_option maxHeartbeats 2000000 in
theorem m_replicaOf {b : Nat} (hb : b ≤ 2448) {h : Nat} (hh : h < 6) {p : Nat} (hp : p < 30) : Does sz I_X3_replicaOf [.ref (sz + 75), .int (nI b), .int (nI h), .int (nI p)] (patch G 75 4 (mS F s), T) 0 0 (.inl (some (rpM s b h p))) (patch G 75 4 (mS F s), T) := by
  refine Does.of (L := [(0, .ref (sz + 75)), (1, .int (nI b)), (2, .int (nI h)), (3, .int (nI p))]) (by decide +kernel) (Nat.le_of_ble_eq_true rfl) rfl ⟨rfl, (by simp), ⟨rfl, (by simp), ⟨rfl, (by simp), ⟨rfl, (by simp), trivial⟩⟩⟩⟩ (fun VV hF => ?_)
  have hX := hF.c
  refine ro_aload_n (i := 0) (q := 1) hX dX3_replicaOf_0 rfl rfl rfl ?_
  refine ro_Nga1 (q9 := 4) hX kf_X3_7 dX3_replicaOf_1 rfl ?_
  refine ro_iload_n (i := 1) (q := 5) hX dX3_replicaOf_4 rfl rfl rfl ?_
  refine ro_bipush (v := nI 92) (q := 7) hX dX3_replicaOf_5 rfl rfl ?_
  refine ro_iadd (q := 8) hX dX3_replicaOf_7 rfl ?_
  refine vv_top (y := nI (b + 92)) (nI_add' rfl rfl) ?_
  refine ro_bipush (v := nI 30) (q := 10) hX dX3_replicaOf_8 rfl rfl ?_
  refine ro_iload_n (i := 2) (q := 11) hX dX3_replicaOf_10 rfl rfl rfl ?_
  refine ro_imul (q := 12) hX dX3_replicaOf_11 rfl ?_
  refine vv_top (y := nI (30 * h)) (nI_mul' rfl rfl) ?_
  refine ro_iadd (q := 13) hX dX3_replicaOf_12 rfl ?_
  refine vv_top (y := nI (b + 92 + (30 * h))) (nI_add' rfl rfl) ?_
  refine ro_iload_n (i := 3) (q := 14) hX dX3_replicaOf_13 rfl rfl rfl ?_
  refine ro_iadd (q := 15) hX dX3_replicaOf_14 rfl ?_
  refine vv_top (y := nI (b + 92 + (30 * h) + p)) (nI_add' rfl rfl) ?_
  refine ro_Nsld (n := b + 92 + (30 * h) + p) (q9 := 16) hX rfl (by omega) dX3_replicaOf_15 rfl ?_
  exact fin_i hF (Nat.le_of_ble_eq_true rfl) (Nat.le_of_ble_eq_true rfl) dX3_replicaOf_16 (by rfl) (by rfl)
set_option maxRecDepth 20000 in
set_option maxHeartbeats 2000000 in
theorem m_layReplica {b : Nat} (hb : b ≤ 2448) {h : Nat} (hh : h < 6) {p : Nat} (hp : p < 30) {x : Int32} : Does sz I_X3_layReplica [.ref (sz + 75), .int (nI b), .int (nI h), .int (nI p), .int x] (patch G 75 4 (mS F s), T) 0 0 (.inl none) (patch G 75 4 (mS F (lrM s b h p x)), T) := by
  refine Does.of (L := [(0, .ref (sz + 75)), (1, .int (nI b)), (2, .int (nI h)), (3, .int (nI p)), (4, .int x)]) (by decide +kernel) (Nat.le_of_ble_eq_true rfl) rfl ⟨rfl, (by simp), ⟨rfl, (by simp), ⟨rfl, (by simp), ⟨rfl, (by simp), ⟨rfl, (by simp), trivial⟩⟩⟩⟩⟩ (fun VV hF => ?_)
  have hX := hF.c
  refine ro_aload_n (i := 0) (q := 1) hX dX3_layReplica_0 rfl rfl rfl ?_
  refine ro_Nga1 (q9 := 4) hX kf_X3_7 dX3_layReplica_1 rfl ?_
  refine ro_iload_n (i := 1) (q := 5) hX dX3_layReplica_4 rfl rfl rfl ?_
  refine ro_bipush (v := nI 92) (q := 7) hX dX3_layReplica_5 rfl rfl ?_
  refine ro_iadd (q := 8) hX dX3_layReplica_7 rfl ?_
  refine vv_top (y := nI (b + 92)) (nI_add' rfl rfl) ?_
  refine ro_bipush (v := nI 30) (q := 10) hX dX3_layReplica_8 rfl rfl ?_
  refine ro_iload_n (i := 2) (q := 11) hX dX3_layReplica_10 rfl rfl rfl ?_
  refine ro_imul (q := 12) hX dX3_layReplica_11 rfl ?_
  refine vv_top (y := nI (30 * h)) (nI_mul' rfl rfl) ?_
  refine ro_iadd (q := 13) hX dX3_layReplica_12 rfl ?_
  refine vv_top (y := nI (b + 92 + (30 * h))) (nI_add' rfl rfl) ?_
  refine ro_iload_n (i := 3) (q := 14) hX dX3_layReplica_13 rfl rfl rfl ?_
  refine ro_iadd (q := 15) hX dX3_layReplica_14 rfl ?_
  refine vv_top (y := nI (b + 92 + (30 * h) + p)) (nI_add' rfl rfl) ?_
  refine ro_iload (i := 4) (q := 17) hX dX3_layReplica_15 rfl rfl ?_
  refine ro_Nsst (n := b + 92 + (30 * h) + p) (q9 := 18) hX rfl (by omega) dX3_layReplica_17 rfl ?_
  exact fin_v hF (Nat.le_of_ble_eq_true rfl) (Nat.le_of_ble_eq_true rfl) dX3_layReplica_18 (by rfl)
set_option maxRecDepth 20000 in
set_option maxHeartbeats 2000000 in
theorem m_isThere {b : Nat} (hb : b ≤ 2448) {p : Nat} (hp : p < 30) : Does sz I_X3_isThere [.ref (sz + 75), .int (nI b), .int (nI p)] (patch G 75 4 (mS F s), T) 0 0 (.inl (some (bi (thM s b p)))) (patch G 75 4 (mS F s), T) := by
  refine Does.of (L := [(0, .ref (sz + 75)), (1, .int (nI b)), (2, .int (nI p))]) (by decide +kernel) (Nat.le_of_ble_eq_true rfl) rfl ⟨rfl, (by simp), ⟨rfl, (by simp), ⟨rfl, (by simp), trivial⟩⟩⟩ (fun VV hF => ?_)
  have hX := hF.c
  refine ro_aload_n (i := 0) (q := 1) hX dX3_isThere_0 rfl rfl rfl ?_
  refine ro_Nga1 (q9 := 4) hX kf_X3_7 dX3_isThere_1 rfl ?_
  refine ro_iload_n (i := 1) (q := 5) hX dX3_isThere_4 rfl rfl rfl ?_
  refine ro_bipush (v := nI 32) (q := 7) hX dX3_isThere_5 rfl rfl ?_
  refine ro_iadd (q := 8) hX dX3_isThere_7 rfl ?_
  refine vv_top (y := nI (b + 32)) (nI_add' rfl rfl) ?_
  refine ro_iload_n (i := 2) (q := 9) hX dX3_isThere_8 rfl rfl rfl ?_
  refine ro_iadd (q := 10) hX dX3_isThere_9 rfl ?_
  refine vv_top (y := nI (b + 32 + p)) (nI_add' rfl rfl) ?_
  refine ro_Nsld (n := b + 32 + p) (q9 := 11) hX rfl (by omega) dX3_isThere_10 rfl ?_
  refine ro_if_le (tgt := 18) (q := 14) hX dX3_isThere_11 (by decide) rfl (fun q1 => ?_) (fun q1 => ?_)
  · skip
    refine ro_iconst (v := nI 0) (q := 19) hX dX3_isThere_18 rfl rfl ?_
    exact fin_z hF (Nat.le_of_ble_eq_true rfl) (Nat.le_of_ble_eq_true rfl) dX3_isThere_19 rfl (by first | with_reducible rfl | (simp [thM, bi, setL_s, setL_t, setL_0, dropL_0, dropL_c, *]; done) | (simp only [thM, bi, setL_s, setL_t, setL_0, dropL_0, dropL_c]; (repeat' split) <;> first | with_reducible rfl | contradiction | (exfalso; omega) | (simp_all; done)) | rfl) (by first | with_reducible rfl | (simp [thM, bi, setL_s, setL_t, setL_0, dropL_0, dropL_c, *]; done) | (simp only [thM, bi, setL_s, setL_t, setL_0, dropL_0, dropL_c]; (repeat' split) <;> first | with_reducible rfl | contradiction | (exfalso; omega) | (simp_all; done)) | rfl)
  · skip
    refine ro_iconst (v := nI 1) (q := 15) hX dX3_isThere_14 rfl rfl ?_
    refine ro_goto (tgt := 19) hX dX3_isThere_15 (by decide) ?_
    exact fin_z hF (Nat.le_of_ble_eq_true rfl) (Nat.le_of_ble_eq_true rfl) dX3_isThere_19 rfl (by first | with_reducible rfl | (simp [thM, bi, setL_s, setL_t, setL_0, dropL_0, dropL_c, *]; done) | (simp only [thM, bi, setL_s, setL_t, setL_0, dropL_0, dropL_c]; (repeat' split) <;> first | with_reducible rfl | contradiction | (exfalso; omega) | (simp_all; done)) | rfl) (by first | with_reducible rfl | (simp [thM, bi, setL_s, setL_t, setL_0, dropL_0, dropL_c, *]; done) | (simp only [thM, bi, setL_s, setL_t, setL_0, dropL_0, dropL_c]; (repeat' split) <;> first | with_reducible rfl | contradiction | (exfalso; omega) | (simp_all; done)) | rfl)
set_option maxRecDepth 20000 in
set_option maxHeartbeats 2000000 in
theorem m_isFresh {b : Nat} (hb : b ≤ 2448) {h : Nat} (hh : h < 6) {p : Nat} (hp : p < 30) : Does sz I_X3_isFresh [.ref (sz + 75), .int (nI b), .int (nI h), .int (nI p)] (patch G 75 4 (mS F s), T) 0 0 (.inl (some (bi (fsM s b h p)))) (patch G 75 4 (mS F s), T) := by
  refine Does.of (L := [(0, .ref (sz + 75)), (1, .int (nI b)), (2, .int (nI h)), (3, .int (nI p))]) (by decide +kernel) (Nat.le_of_ble_eq_true rfl) rfl ⟨rfl, (by simp), ⟨rfl, (by simp), ⟨rfl, (by simp), ⟨rfl, (by simp), trivial⟩⟩⟩⟩ (fun VV hF => ?_)
  have hX := hF.c
  refine ro_aload_n (i := 0) (q := 1) hX dX3_isFresh_0 rfl rfl rfl ?_
  refine ro_iload_n (i := 1) (q := 2) hX dX3_isFresh_1 rfl rfl rfl ?_
  refine ro_iload_n (i := 3) (q := 3) hX dX3_isFresh_2 rfl rfl rfl ?_
  refine ro_callVi (q9 := 6) hX (m_isThere (by omega) (by omega)) mw_X3_isThere kl_X3_28 (by decide) (fun cy => cell3 (by decide +kernel)) rfl rfl rfl (Nat.le_of_ble_eq_true rfl) ⟨Nat.le_of_ble_eq_true rfl, Nat.le_of_ble_eq_true rfl⟩ dX3_isFresh_3 ⟨Nat.le_of_ble_eq_true rfl, Nat.le_of_ble_eq_true rfl⟩ rfl ?_
  refine ro_ifb_eq (tgt := 34) (q := 9) hX dX3_isFresh_6 (by decide) rfl (fun q1 => ?_) (fun q1 => ?_)
  · skip
    refine ro_iconst (v := nI 0) (q := 35) hX dX3_isFresh_34 rfl rfl ?_
    exact fin_z hF (Nat.le_of_ble_eq_true rfl) (Nat.le_of_ble_eq_true rfl) dX3_isFresh_35 rfl (by first | with_reducible rfl | (simp [fsM, bi, setL_s, setL_t, setL_0, dropL_0, dropL_c, *]; done) | (simp only [fsM, bi, setL_s, setL_t, setL_0, dropL_0, dropL_c]; (repeat' split) <;> first | with_reducible rfl | contradiction | (exfalso; omega) | (simp_all; done)) | rfl) (by first | with_reducible rfl | (simp [fsM, bi, setL_s, setL_t, setL_0, dropL_0, dropL_c, *]; done) | (simp only [fsM, bi, setL_s, setL_t, setL_0, dropL_0, dropL_c]; (repeat' split) <;> first | with_reducible rfl | contradiction | (exfalso; omega) | (simp_all; done)) | rfl)
  · skip
    refine ro_aload_n (i := 0) (q := 10) hX dX3_isFresh_9 rfl rfl rfl ?_
    refine ro_iload_n (i := 1) (q := 11) hX dX3_isFresh_10 rfl rfl rfl ?_
    refine ro_iload_n (i := 2) (q := 12) hX dX3_isFresh_11 rfl rfl rfl ?_
    refine ro_iload_n (i := 3) (q := 13) hX dX3_isFresh_12 rfl rfl rfl ?_
    refine ro_callVi (q9 := 16) hX (m_replicaOf (by omega) (by omega) (by omega)) mw_X3_replicaOf kl_X3_32 (by decide) (fun cy => cell3 (by decide +kernel)) rfl rfl rfl (Nat.le_of_ble_eq_true rfl) ⟨Nat.le_of_ble_eq_true rfl, Nat.le_of_ble_eq_true rfl⟩ dX3_isFresh_13 ⟨Nat.le_of_ble_eq_true rfl, Nat.le_of_ble_eq_true rfl⟩ rfl ?_
    refine ro_aload_n (i := 0) (q := 17) hX dX3_isFresh_16 rfl rfl rfl ?_
    refine ro_Nga1 (q9 := 20) hX kf_X3_7 dX3_isFresh_17 rfl ?_
    refine ro_iload_n (i := 1) (q := 21) hX dX3_isFresh_20 rfl rfl rfl ?_
    refine ro_bipush (v := nI 32) (q := 23) hX dX3_isFresh_21 rfl rfl ?_
    refine ro_iadd (q := 24) hX dX3_isFresh_23 rfl ?_
    refine vv_top (y := nI (b + 32)) (nI_add' rfl rfl) ?_
    refine ro_iload_n (i := 3) (q := 25) hX dX3_isFresh_24 rfl rfl rfl ?_
    refine ro_iadd (q := 26) hX dX3_isFresh_25 rfl ?_
    refine vv_top (y := nI (b + 32 + p)) (nI_add' rfl rfl) ?_
    refine ro_Nsld (n := b + 32 + p) (q9 := 27) hX rfl (by omega) dX3_isFresh_26 rfl ?_
    refine ro_icmp_ne (tgt := 34) (q := 30) hX dX3_isFresh_27 (by decide) rfl (fun q2 => ?_) (fun q2 => ?_)
    · skip
      refine ro_iconst (v := nI 0) (q := 35) hX dX3_isFresh_34 rfl rfl ?_
      exact fin_z hF (Nat.le_of_ble_eq_true rfl) (Nat.le_of_ble_eq_true rfl) dX3_isFresh_35 rfl (by first | with_reducible rfl | (simp [fsM, bi, setL_s, setL_t, setL_0, dropL_0, dropL_c, *]; done) | (simp only [fsM, bi, setL_s, setL_t, setL_0, dropL_0, dropL_c]; (repeat' split) <;> first | with_reducible rfl | contradiction | (exfalso; omega) | (simp_all; done)) | rfl) (by first | with_reducible rfl | (simp [fsM, bi, setL_s, setL_t, setL_0, dropL_0, dropL_c, *]; done) | (simp only [fsM, bi, setL_s, setL_t, setL_0, dropL_0, dropL_c]; (repeat' split) <;> first | with_reducible rfl | contradiction | (exfalso; omega) | (simp_all; done)) | rfl)
    · skip
      refine ro_iconst (v := nI 1) (q := 31) hX dX3_isFresh_30 rfl rfl ?_
      refine ro_goto (tgt := 35) hX dX3_isFresh_31 (by decide) ?_
      exact fin_z hF (Nat.le_of_ble_eq_true rfl) (Nat.le_of_ble_eq_true rfl) dX3_isFresh_35 rfl (by first | with_reducible rfl | (simp [fsM, bi, setL_s, setL_t, setL_0, dropL_0, dropL_c, *]; done) | (simp only [fsM, bi, setL_s, setL_t, setL_0, dropL_0, dropL_c]; (repeat' split) <;> first | with_reducible rfl | contradiction | (exfalso; omega) | (simp_all; done)) | rfl) (by first | with_reducible rfl | (simp [fsM, bi, setL_s, setL_t, setL_0, dropL_0, dropL_c, *]; done) | (simp only [fsM, bi, setL_s, setL_t, setL_0, dropL_0, dropL_c]; (repeat' split) <;> first | with_reducible rfl | contradiction | (exfalso; omega) | (simp_all; done)) | rfl)
set_option maxRecDepth 20000 in
set_option maxHeartbeats 2000000 in
theorem m_copiesOf {b : Nat} (hb : b ≤ 2448) {p : Nat} (hp : p < 30) : Does sz I_X3_copiesOf [.ref (sz + 75), .int (nI b), .int (nI p)] (patch G 75 4 (mS F s), T) 0 0 (.inl (some (cpM s b p))) (patch G 75 4 (mS F s), T) := by
  refine Does.of (L := [(0, .ref (sz + 75)), (1, .int (nI b)), (2, .int (nI p))]) (by decide +kernel) (Nat.le_of_ble_eq_true rfl) rfl ⟨rfl, (by simp), ⟨rfl, (by simp), ⟨rfl, (by simp), trivial⟩⟩⟩ (fun VV hF => ?_)
  have hX := hF.c
  refine ro_iconst (v := nI 0) (q := 1) hX dX3_copiesOf_0 rfl rfl ?_
  refine ro_istore_n (i := 3) (q := 2) hX dX3_copiesOf_1 rfl (Nat.le_of_ble_eq_true rfl) rfl ?_
  refine ro_iconst (v := nI 0) (q := 3) hX dX3_copiesOf_2 rfl rfl ?_
  refine ro_istore (i := 4) (q := 5) hX dX3_copiesOf_3 (Nat.le_of_ble_eq_true rfl) rfl ?_
  refine vv_LM (L' := [(0, .ref (sz + 75)), (1, .int (nI b)), (2, .int (nI p)), (3, .int (cpML s b p 0)), (4, .int (nI 0))]) (M' := (patch G 75 4 (mS F s), T)) (by first | with_reducible rfl | (simp [cpML, cpMb, setL_s, setL_t, setL_0, dropL_0, dropL_c, *]; done) | (simp only [cpML, cpMb, setL_s, setL_t, setL_0, dropL_0, dropL_c]; (repeat' split) <;> first | with_reducible rfl | contradiction | (exfalso; omega) | (simp_all; done)) | rfl) (by first | with_reducible rfl | (simp [cpML, cpMb, setL_s, setL_t, setL_0, dropL_0, dropL_c, *]; done) | (simp only [cpML, cpMb, setL_s, setL_t, setL_0, dropL_0, dropL_c]; (repeat' split) <;> first | with_reducible rfl | contradiction | (exfalso; omega) | (simp_all; done)) | rfl) ?_
  refine down_ind (P := fun k5 => VV 0 0 5 [(0, .ref (sz + 75)), (1, .int (nI b)), (2, .int (nI p)), (3, .int (cpML s b p k5)), (4, .int (nI k5))] [] (patch G 75 4 (mS F s), T)) (6) (fun k5 hk5 ih5 => ?_) ?_
  · have ih5 : VV 0 0 5 [(0, .ref (sz + 75)), (1, .int (nI b)), (2, .int (nI p)), (3, .int (cpML s b p (k5 + 1))), (4, .int (nI (k5 + 1)))] [] (patch G 75 4 (mS F s), T) := ih5
    show VV 0 0 5 [(0, .ref (sz + 75)), (1, .int (nI b)), (2, .int (nI p)), (3, .int (cpML s b p k5)), (4, .int (nI k5))] [] (patch G 75 4 (mS F s), T)
    refine ro_iload (i := 4) (q := 7) hX dX3_copiesOf_5 rfl rfl ?_
    refine ro_bipush (v := nI 6) (q := 9) hX dX3_copiesOf_7 rfl rfl ?_
    refine ro_icmp_ge (tgt := 52) (q := 12) hX dX3_copiesOf_9 (by decide) rfl (fun q => absurd q (by first | exact ni_nle (by omega) (by omega) | exact ni_lt (by omega) (by omega))) (fun _ => ?_)
    refine ro_iload_n (i := 3) (q := 13) hX dX3_copiesOf_12 rfl rfl rfl ?_
    refine ro_aload_n (i := 0) (q := 14) hX dX3_copiesOf_13 rfl rfl rfl ?_
    refine ro_iload_n (i := 1) (q := 15) hX dX3_copiesOf_14 rfl rfl rfl ?_
    refine ro_iload (i := 4) (q := 17) hX dX3_copiesOf_15 rfl rfl ?_
    refine ro_iconst (v := nI 1) (q := 18) hX dX3_copiesOf_17 rfl rfl ?_
    refine ro_callVi (q9 := 21) hX (m_of (by omega) (by omega) (by omega)) mw_X3_of kl_X3_36 (by decide) (fun cy => cell3 (by decide +kernel)) rfl rfl rfl (Nat.le_of_ble_eq_true rfl) ⟨Nat.le_of_ble_eq_true rfl, Nat.le_of_ble_eq_true rfl⟩ dX3_copiesOf_18 ⟨Nat.le_of_ble_eq_true rfl, Nat.le_of_ble_eq_true rfl⟩ rfl ?_
    refine ro_iconst (v := nI 1) (q := 22) hX dX3_copiesOf_21 rfl rfl ?_
    refine ro_icmp_ne (tgt := 43) (q := 25) hX dX3_copiesOf_22 (by decide) rfl (fun q1 => ?_) (fun q1 => ?_)
    · skip
      refine ro_iconst (v := nI 0) (q := 44) hX dX3_copiesOf_43 rfl rfl ?_
      refine ro_ior (q := 45) hX dX3_copiesOf_44 rfl ?_
      refine ro_istore_n (i := 3) (q := 46) hX dX3_copiesOf_45 rfl (Nat.le_of_ble_eq_true rfl) rfl ?_
      refine ro_iinc (i := 4) (v := nI (k5 + 1)) (q := 49) hX dX3_copiesOf_46 rfl (ni_inc _) (Nat.le_of_ble_eq_true rfl) rfl ?_
      refine ro_goto (tgt := 5) hX dX3_copiesOf_49 (by decide) ?_
      exact vv_LM (by first | with_reducible rfl | (simp [cpML, cpMb, setL_s, setL_t, setL_0, dropL_0, dropL_c, *]; done) | (simp only [cpML, cpMb, setL_s, setL_t, setL_0, dropL_0, dropL_c]; (repeat' split) <;> first | with_reducible rfl | contradiction | (exfalso; omega) | (simp_all; done)) | rfl) (by first | with_reducible rfl | (simp [cpML, cpMb, setL_s, setL_t, setL_0, dropL_0, dropL_c, *]; done) | (simp only [cpML, cpMb, setL_s, setL_t, setL_0, dropL_0, dropL_c]; (repeat' split) <;> first | with_reducible rfl | contradiction | (exfalso; omega) | (simp_all; done)) | rfl) ih5
    · skip
      refine ro_aload_n (i := 0) (q := 26) hX dX3_copiesOf_25 rfl rfl rfl ?_
      refine ro_iload_n (i := 1) (q := 27) hX dX3_copiesOf_26 rfl rfl rfl ?_
      refine ro_iload (i := 4) (q := 29) hX dX3_copiesOf_27 rfl rfl ?_
      refine ro_iload_n (i := 2) (q := 30) hX dX3_copiesOf_29 rfl rfl rfl ?_
      refine ro_callVi (q9 := 33) hX (m_replicaOf (by omega) (by omega) (by omega)) mw_X3_replicaOf kl_X3_32 (by decide) (fun cy => cell3 (by decide +kernel)) rfl rfl rfl (Nat.le_of_ble_eq_true rfl) ⟨Nat.le_of_ble_eq_true rfl, Nat.le_of_ble_eq_true rfl⟩ dX3_copiesOf_30 ⟨Nat.le_of_ble_eq_true rfl, Nat.le_of_ble_eq_true rfl⟩ rfl ?_
      refine ro_if_le (tgt := 43) (q := 36) hX dX3_copiesOf_33 (by decide) rfl (fun q2 => ?_) (fun q2 => ?_)
      · skip
        refine ro_iconst (v := nI 0) (q := 44) hX dX3_copiesOf_43 rfl rfl ?_
        refine ro_ior (q := 45) hX dX3_copiesOf_44 rfl ?_
        refine ro_istore_n (i := 3) (q := 46) hX dX3_copiesOf_45 rfl (Nat.le_of_ble_eq_true rfl) rfl ?_
        refine ro_iinc (i := 4) (v := nI (k5 + 1)) (q := 49) hX dX3_copiesOf_46 rfl (ni_inc _) (Nat.le_of_ble_eq_true rfl) rfl ?_
        refine ro_goto (tgt := 5) hX dX3_copiesOf_49 (by decide) ?_
        exact vv_LM (by first | with_reducible rfl | (simp [cpML, cpMb, setL_s, setL_t, setL_0, dropL_0, dropL_c, *]; done) | (simp only [cpML, cpMb, setL_s, setL_t, setL_0, dropL_0, dropL_c]; (repeat' split) <;> first | with_reducible rfl | contradiction | (exfalso; omega) | (simp_all; done)) | rfl) (by first | with_reducible rfl | (simp [cpML, cpMb, setL_s, setL_t, setL_0, dropL_0, dropL_c, *]; done) | (simp only [cpML, cpMb, setL_s, setL_t, setL_0, dropL_0, dropL_c]; (repeat' split) <;> first | with_reducible rfl | contradiction | (exfalso; omega) | (simp_all; done)) | rfl) ih5
      · skip
        refine ro_iconst (v := nI 1) (q := 37) hX dX3_copiesOf_36 rfl rfl ?_
        refine ro_iload (i := 4) (q := 39) hX dX3_copiesOf_37 rfl rfl ?_
        refine ro_ishl (q := 40) hX dX3_copiesOf_39 rfl ?_
        refine ro_goto (tgt := 44) hX dX3_copiesOf_40 (by decide) ?_
        refine ro_ior (q := 45) hX dX3_copiesOf_44 rfl ?_
        refine ro_istore_n (i := 3) (q := 46) hX dX3_copiesOf_45 rfl (Nat.le_of_ble_eq_true rfl) rfl ?_
        refine ro_iinc (i := 4) (v := nI (k5 + 1)) (q := 49) hX dX3_copiesOf_46 rfl (ni_inc _) (Nat.le_of_ble_eq_true rfl) rfl ?_
        refine ro_goto (tgt := 5) hX dX3_copiesOf_49 (by decide) ?_
        exact vv_LM (by first | with_reducible rfl | (simp [cpML, cpMb, setL_s, setL_t, setL_0, dropL_0, dropL_c, *]; done) | (simp only [cpML, cpMb, setL_s, setL_t, setL_0, dropL_0, dropL_c]; (repeat' split) <;> first | with_reducible rfl | contradiction | (exfalso; omega) | (simp_all; done)) | rfl) (by first | with_reducible rfl | (simp [cpML, cpMb, setL_s, setL_t, setL_0, dropL_0, dropL_c, *]; done) | (simp only [cpML, cpMb, setL_s, setL_t, setL_0, dropL_0, dropL_c]; (repeat' split) <;> first | with_reducible rfl | contradiction | (exfalso; omega) | (simp_all; done)) | rfl) ih5
  · show VV 0 0 5 [(0, .ref (sz + 75)), (1, .int (nI b)), (2, .int (nI p)), (3, .int (cpML s b p 6)), (4, .int (nI 6))] [] (patch G 75 4 (mS F s), T)
    refine ro_iload (i := 4) (q := 7) hX dX3_copiesOf_5 rfl rfl ?_
    refine ro_bipush (v := nI 6) (q := 9) hX dX3_copiesOf_7 rfl rfl ?_
    refine ro_icmp_ge (tgt := 52) (q := 12) hX dX3_copiesOf_9 (by decide) rfl (fun _ => ?_) (fun q => absurd (by decide) q)
    refine ro_iload_n (i := 3) (q := 53) hX dX3_copiesOf_52 rfl rfl rfl ?_
    exact fin_i hF (Nat.le_of_ble_eq_true rfl) (Nat.le_of_ble_eq_true rfl) dX3_copiesOf_53 (by rfl) (by rfl)
set_option maxRecDepth 20000 in
set_option maxHeartbeats 2000000 in
theorem m_ones {x : Int32} : Does sz I_X3_ones [.int x] (patch G 75 4 (mS F s), T) 0 0 (.inl (some (onM x))) (patch G 75 4 (mS F s), T) := by
  refine Does.of (L := [(0, .int x)]) (by decide +kernel) (Nat.le_of_ble_eq_true rfl) rfl ⟨rfl, (by simp), trivial⟩ (fun VV hF => ?_)
  have hX := hF.c
  refine ro_iconst (v := nI 0) (q := 1) hX dX3_ones_0 rfl rfl ?_
  refine ro_istore_n (i := 1) (q := 2) hX dX3_ones_1 rfl (Nat.le_of_ble_eq_true rfl) rfl ?_
  refine ro_iconst (v := nI 0) (q := 3) hX dX3_ones_2 rfl rfl ?_
  refine ro_istore_n (i := 2) (q := 4) hX dX3_ones_3 rfl (Nat.le_of_ble_eq_true rfl) rfl ?_
  refine vv_LM (L' := [(0, .int (x)), (1, .int (onL x 0)), (2, .int (nI 0))]) (M' := (patch G 75 4 (mS F s), T)) (by first | with_reducible rfl | (simp [onL, setL_s, setL_t, setL_0, dropL_0, dropL_c, *]; done) | (simp only [onL, setL_s, setL_t, setL_0, dropL_0, dropL_c]; (repeat' split) <;> first | with_reducible rfl | contradiction | (exfalso; omega) | (simp_all; done)) | rfl) (by first | with_reducible rfl | (simp [onL, setL_s, setL_t, setL_0, dropL_0, dropL_c, *]; done) | (simp only [onL, setL_s, setL_t, setL_0, dropL_0, dropL_c]; (repeat' split) <;> first | with_reducible rfl | contradiction | (exfalso; omega) | (simp_all; done)) | rfl) ?_
  refine down_ind (P := fun k4 => VV 0 0 4 [(0, .int (x)), (1, .int (onL x k4)), (2, .int (nI k4))] [] (patch G 75 4 (mS F s), T)) (6) (fun k4 hk4 ih4 => ?_) ?_
  · have ih4 : VV 0 0 4 [(0, .int (x)), (1, .int (onL x (k4 + 1))), (2, .int (nI (k4 + 1)))] [] (patch G 75 4 (mS F s), T) := ih4
    show VV 0 0 4 [(0, .int (x)), (1, .int (onL x k4)), (2, .int (nI k4))] [] (patch G 75 4 (mS F s), T)
    refine ro_iload_n (i := 2) (q := 5) hX dX3_ones_4 rfl rfl rfl ?_
    refine ro_bipush (v := nI 6) (q := 7) hX dX3_ones_5 rfl rfl ?_
    refine ro_icmp_ge (tgt := 24) (q := 10) hX dX3_ones_7 (by decide) rfl (fun q => absurd q (by first | exact ni_nle (by omega) (by omega) | exact ni_lt (by omega) (by omega))) (fun _ => ?_)
    refine ro_iload_n (i := 1) (q := 11) hX dX3_ones_10 rfl rfl rfl ?_
    refine ro_iload_n (i := 0) (q := 12) hX dX3_ones_11 rfl rfl rfl ?_
    refine ro_iload_n (i := 2) (q := 13) hX dX3_ones_12 rfl rfl rfl ?_
    refine ro_ishr (q := 14) hX dX3_ones_13 rfl ?_
    refine ro_iconst (v := nI 1) (q := 15) hX dX3_ones_14 rfl rfl ?_
    refine ro_iand (q := 16) hX dX3_ones_15 rfl ?_
    refine ro_iadd (q := 17) hX dX3_ones_16 rfl ?_
    refine ro_istore_n (i := 1) (q := 18) hX dX3_ones_17 rfl (Nat.le_of_ble_eq_true rfl) rfl ?_
    refine ro_iinc (i := 2) (v := nI (k4 + 1)) (q := 21) hX dX3_ones_18 rfl (ni_inc _) (Nat.le_of_ble_eq_true rfl) rfl ?_
    refine ro_goto (tgt := 4) hX dX3_ones_21 (by decide) ?_
    exact vv_LM (by first | with_reducible rfl | (simp [onL, setL_s, setL_t, setL_0, dropL_0, dropL_c, *]; done) | (simp only [onL, setL_s, setL_t, setL_0, dropL_0, dropL_c]; (repeat' split) <;> first | with_reducible rfl | contradiction | (exfalso; omega) | (simp_all; done)) | rfl) (by first | with_reducible rfl | (simp [onL, setL_s, setL_t, setL_0, dropL_0, dropL_c, *]; done) | (simp only [onL, setL_s, setL_t, setL_0, dropL_0, dropL_c]; (repeat' split) <;> first | with_reducible rfl | contradiction | (exfalso; omega) | (simp_all; done)) | rfl) ih4
  · show VV 0 0 4 [(0, .int (x)), (1, .int (onL x 6)), (2, .int (nI 6))] [] (patch G 75 4 (mS F s), T)
    refine ro_iload_n (i := 2) (q := 5) hX dX3_ones_4 rfl rfl rfl ?_
    refine ro_bipush (v := nI 6) (q := 7) hX dX3_ones_5 rfl rfl ?_
    refine ro_icmp_ge (tgt := 24) (q := 10) hX dX3_ones_7 (by decide) rfl (fun _ => ?_) (fun q => absurd (by decide) q)
    refine ro_iload_n (i := 1) (q := 25) hX dX3_ones_24 rfl rfl rfl ?_
    exact fin_i hF (Nat.le_of_ble_eq_true rfl) (Nat.le_of_ble_eq_true rfl) dX3_ones_25 (by rfl) (by rfl)
set_option maxRecDepth 20000 in
set_option maxHeartbeats 2000000 in
theorem m_held {b : Nat} (hb : b ≤ 2448) {h : Nat} (hh : h < 6) : Does sz I_X3_held [.ref (sz + 75), .int (nI b), .int (nI h)] (patch G 75 4 (mS F s), T) 0 0 (.inl (some (nI (hdM s b h)))) (patch G 75 4 (mS F s), T) := by
  refine Does.of (L := [(0, .ref (sz + 75)), (1, .int (nI b)), (2, .int (nI h))]) (by decide +kernel) (Nat.le_of_ble_eq_true rfl) rfl ⟨rfl, (by simp), ⟨rfl, (by simp), ⟨rfl, (by simp), trivial⟩⟩⟩ (fun VV hF => ?_)
  have hX := hF.c
  refine ro_iconst (v := nI 0) (q := 1) hX dX3_held_0 rfl rfl ?_
  refine ro_istore_n (i := 3) (q := 2) hX dX3_held_1 rfl (Nat.le_of_ble_eq_true rfl) rfl ?_
  refine ro_iconst (v := nI 0) (q := 3) hX dX3_held_2 rfl rfl ?_
  refine ro_istore (i := 4) (q := 5) hX dX3_held_3 (Nat.le_of_ble_eq_true rfl) rfl ?_
  refine vv_LM (L' := [(0, .ref (sz + 75)), (1, .int (nI b)), (2, .int (nI h)), (3, .int (nI (hdL s b h 0))), (4, .int (nI 0))]) (M' := (patch G 75 4 (mS F s), T)) (by first | with_reducible rfl | (simp [hdL, setL_s, setL_t, setL_0, dropL_0, dropL_c, *]; done) | (simp only [hdL, setL_s, setL_t, setL_0, dropL_0, dropL_c]; (repeat' split) <;> first | with_reducible rfl | contradiction | (exfalso; omega) | (simp_all; done)) | rfl) (by first | with_reducible rfl | (simp [hdL, setL_s, setL_t, setL_0, dropL_0, dropL_c, *]; done) | (simp only [hdL, setL_s, setL_t, setL_0, dropL_0, dropL_c]; (repeat' split) <;> first | with_reducible rfl | contradiction | (exfalso; omega) | (simp_all; done)) | rfl) ?_
  refine down_ind (P := fun k5 => VV 0 0 5 [(0, .ref (sz + 75)), (1, .int (nI b)), (2, .int (nI h)), (3, .int (nI (hdL s b h k5))), (4, .int (nI k5))] [] (patch G 75 4 (mS F s), T)) (30) (fun k5 hk5 ih5 => ?_) ?_
  · have ih5 : VV 0 0 5 [(0, .ref (sz + 75)), (1, .int (nI b)), (2, .int (nI h)), (3, .int (nI (hdL s b h (k5 + 1)))), (4, .int (nI (k5 + 1)))] [] (patch G 75 4 (mS F s), T) := ih5
    show VV 0 0 5 [(0, .ref (sz + 75)), (1, .int (nI b)), (2, .int (nI h)), (3, .int (nI (hdL s b h k5))), (4, .int (nI k5))] [] (patch G 75 4 (mS F s), T)
    refine ro_iload (i := 4) (q := 7) hX dX3_held_5 rfl rfl ?_
    refine ro_bipush (v := nI 30) (q := 9) hX dX3_held_7 rfl rfl ?_
    refine ro_icmp_ge (tgt := 37) (q := 12) hX dX3_held_9 (by decide) rfl (fun q => absurd q (by first | exact ni_nle (by omega) (by omega) | exact ni_lt (by omega) (by omega))) (fun _ => ?_)
    refine ro_iload_n (i := 3) (q := 13) hX dX3_held_12 rfl rfl rfl ?_
    refine ro_aload_n (i := 0) (q := 14) hX dX3_held_13 rfl rfl rfl ?_
    refine ro_iload_n (i := 1) (q := 15) hX dX3_held_14 rfl rfl rfl ?_
    refine ro_iload_n (i := 2) (q := 16) hX dX3_held_15 rfl rfl rfl ?_
    refine ro_iload (i := 4) (q := 18) hX dX3_held_16 rfl rfl ?_
    refine ro_callVi (q9 := 21) hX (m_replicaOf (by omega) (by omega) (by omega)) mw_X3_replicaOf kl_X3_32 (by decide) (fun cy => cell3 (by decide +kernel)) rfl rfl rfl (Nat.le_of_ble_eq_true rfl) ⟨Nat.le_of_ble_eq_true rfl, Nat.le_of_ble_eq_true rfl⟩ dX3_held_18 ⟨Nat.le_of_ble_eq_true rfl, Nat.le_of_ble_eq_true rfl⟩ rfl ?_
    refine ro_if_le (tgt := 28) (q := 24) hX dX3_held_21 (by decide) rfl (fun q1 => ?_) (fun q1 => ?_)
    · skip
      refine ro_iconst (v := nI 0) (q := 29) hX dX3_held_28 rfl rfl ?_
      refine ro_iadd (q := 30) hX dX3_held_29 rfl ?_
      refine vv_top (y := nI (hdL s b h k5 + 0)) (nI_add' rfl rfl) ?_
      refine ro_istore_n (i := 3) (q := 31) hX dX3_held_30 rfl (Nat.le_of_ble_eq_true rfl) rfl ?_
      refine ro_iinc (i := 4) (v := nI (k5 + 1)) (q := 34) hX dX3_held_31 rfl (ni_inc _) (Nat.le_of_ble_eq_true rfl) rfl ?_
      refine ro_goto (tgt := 5) hX dX3_held_34 (by decide) ?_
      exact vv_LM (by first | with_reducible rfl | (simp [hdL, setL_s, setL_t, setL_0, dropL_0, dropL_c, *]; done) | (simp only [hdL, setL_s, setL_t, setL_0, dropL_0, dropL_c]; (repeat' split) <;> first | with_reducible rfl | contradiction | (exfalso; omega) | (simp_all; done)) | rfl) (by first | with_reducible rfl | (simp [hdL, setL_s, setL_t, setL_0, dropL_0, dropL_c, *]; done) | (simp only [hdL, setL_s, setL_t, setL_0, dropL_0, dropL_c]; (repeat' split) <;> first | with_reducible rfl | contradiction | (exfalso; omega) | (simp_all; done)) | rfl) ih5
    · skip
      refine ro_iconst (v := nI 1) (q := 25) hX dX3_held_24 rfl rfl ?_
      refine ro_goto (tgt := 29) hX dX3_held_25 (by decide) ?_
      refine ro_iadd (q := 30) hX dX3_held_29 rfl ?_
      refine vv_top (y := nI (hdL s b h k5 + 1)) (nI_add' rfl rfl) ?_
      refine ro_istore_n (i := 3) (q := 31) hX dX3_held_30 rfl (Nat.le_of_ble_eq_true rfl) rfl ?_
      refine ro_iinc (i := 4) (v := nI (k5 + 1)) (q := 34) hX dX3_held_31 rfl (ni_inc _) (Nat.le_of_ble_eq_true rfl) rfl ?_
      refine ro_goto (tgt := 5) hX dX3_held_34 (by decide) ?_
      exact vv_LM (by first | with_reducible rfl | (simp [hdL, setL_s, setL_t, setL_0, dropL_0, dropL_c, *]; done) | (simp only [hdL, setL_s, setL_t, setL_0, dropL_0, dropL_c]; (repeat' split) <;> first | with_reducible rfl | contradiction | (exfalso; omega) | (simp_all; done)) | rfl) (by first | with_reducible rfl | (simp [hdL, setL_s, setL_t, setL_0, dropL_0, dropL_c, *]; done) | (simp only [hdL, setL_s, setL_t, setL_0, dropL_0, dropL_c]; (repeat' split) <;> first | with_reducible rfl | contradiction | (exfalso; omega) | (simp_all; done)) | rfl) ih5
  · show VV 0 0 5 [(0, .ref (sz + 75)), (1, .int (nI b)), (2, .int (nI h)), (3, .int (nI (hdL s b h 30))), (4, .int (nI 30))] [] (patch G 75 4 (mS F s), T)
    refine ro_iload (i := 4) (q := 7) hX dX3_held_5 rfl rfl ?_
    refine ro_bipush (v := nI 30) (q := 9) hX dX3_held_7 rfl rfl ?_
    refine ro_icmp_ge (tgt := 37) (q := 12) hX dX3_held_9 (by decide) rfl (fun _ => ?_) (fun q => absurd (by decide) q)
    refine ro_iload_n (i := 3) (q := 38) hX dX3_held_37 rfl rfl rfl ?_
    exact fin_i hF (Nat.le_of_ble_eq_true rfl) (Nat.le_of_ble_eq_true rfl) dX3_held_38 (by rfl) (by rfl)
set_option maxRecDepth 20000 in
set_option maxHeartbeats 2000000 in
theorem m_used {b : Nat} (hb : b ≤ 2448) {h : Nat} (hh : h < 6) : Does sz I_X3_used [.ref (sz + 75), .int (nI b), .int (nI h)] (patch G 75 4 (mS F s), T) 0 0 (.inl (some (nI (usM s b h)))) (patch G 75 4 (mS F s), T) := by
  refine Does.of (L := [(0, .ref (sz + 75)), (1, .int (nI b)), (2, .int (nI h))]) (by decide +kernel) (Nat.le_of_ble_eq_true rfl) rfl ⟨rfl, (by simp), ⟨rfl, (by simp), ⟨rfl, (by simp), trivial⟩⟩⟩ (fun VV hF => ?_)
  have hX := hF.c
  refine ro_aload_n (i := 0) (q := 1) hX dX3_used_0 rfl rfl rfl ?_
  refine ro_iload_n (i := 1) (q := 2) hX dX3_used_1 rfl rfl rfl ?_
  refine ro_iload_n (i := 2) (q := 3) hX dX3_used_2 rfl rfl rfl ?_
  refine ro_callVi (q9 := 6) hX (m_held (by omega) (by omega)) mw_X3_held kl_X3_39 (by decide) (fun cy => cell3 (by decide +kernel)) rfl rfl rfl (Nat.le_of_ble_eq_true rfl) ⟨Nat.le_of_ble_eq_true rfl, Nat.le_of_ble_eq_true rfl⟩ dX3_used_3 ⟨Nat.le_of_ble_eq_true rfl, Nat.le_of_ble_eq_true rfl⟩ rfl ?_
  refine ro_aload_n (i := 0) (q := 7) hX dX3_used_6 rfl rfl rfl ?_
  refine ro_Nga1 (q9 := 10) hX kf_X3_7 dX3_used_7 rfl ?_
  refine ro_iload_n (i := 1) (q := 11) hX dX3_used_10 rfl rfl rfl ?_
  refine ro_iconst (v := nI 4) (q := 12) hX dX3_used_11 rfl rfl ?_
  refine ro_iadd (q := 13) hX dX3_used_12 rfl ?_
  refine vv_top (y := nI (b + 4)) (nI_add' rfl rfl) ?_
  refine ro_Nsld (n := b + 4) (q9 := 14) hX rfl (by omega) dX3_used_13 rfl ?_
  refine ro_iconst (v := (-1)) (q := 15) hX dX3_used_14 rfl rfl ?_
  refine ro_icmp_eq (tgt := 35) (q := 18) hX dX3_used_15 (by decide) rfl (fun q1 => ?_) (fun q1 => ?_)
  · skip
    refine ro_iconst (v := nI 0) (q := 36) hX dX3_used_35 rfl rfl ?_
    refine ro_iadd (q := 37) hX dX3_used_36 rfl ?_
    refine vv_top (y := nI (hdM s b h + 0)) (nI_add' rfl rfl) ?_
    exact fin_i hF (Nat.le_of_ble_eq_true rfl) (Nat.le_of_ble_eq_true rfl) dX3_used_37 (by first | with_reducible rfl | (simp [usM, setL_s, setL_t, setL_0, dropL_0, dropL_c, *]; done) | (simp only [usM, setL_s, setL_t, setL_0, dropL_0, dropL_c]; (repeat' split) <;> first | with_reducible rfl | contradiction | (exfalso; omega) | (simp_all; done)) | rfl) (by first | with_reducible rfl | (simp [usM, setL_s, setL_t, setL_0, dropL_0, dropL_c, *]; done) | (simp only [usM, setL_s, setL_t, setL_0, dropL_0, dropL_c]; (repeat' split) <;> first | with_reducible rfl | contradiction | (exfalso; omega) | (simp_all; done)) | rfl)
  · skip
    refine ro_aload_n (i := 0) (q := 19) hX dX3_used_18 rfl rfl rfl ?_
    refine ro_Nga1 (q9 := 22) hX kf_X3_7 dX3_used_19 rfl ?_
    refine ro_iload_n (i := 1) (q := 23) hX dX3_used_22 rfl rfl rfl ?_
    refine ro_bipush (v := nI 6) (q := 25) hX dX3_used_23 rfl rfl ?_
    refine ro_iadd (q := 26) hX dX3_used_25 rfl ?_
    refine vv_top (y := nI (b + 6)) (nI_add' rfl rfl) ?_
    refine ro_Nsld (n := b + 6) (q9 := 27) hX rfl (by omega) dX3_used_26 rfl ?_
    refine ro_iload_n (i := 2) (q := 28) hX dX3_used_27 rfl rfl rfl ?_
    refine ro_icmp_ne (tgt := 35) (q := 31) hX dX3_used_28 (by decide) rfl (fun q2 => ?_) (fun q2 => ?_)
    · skip
      refine ro_iconst (v := nI 0) (q := 36) hX dX3_used_35 rfl rfl ?_
      refine ro_iadd (q := 37) hX dX3_used_36 rfl ?_
      refine vv_top (y := nI (hdM s b h + 0)) (nI_add' rfl rfl) ?_
      exact fin_i hF (Nat.le_of_ble_eq_true rfl) (Nat.le_of_ble_eq_true rfl) dX3_used_37 (by first | with_reducible rfl | (simp [usM, setL_s, setL_t, setL_0, dropL_0, dropL_c, *]; done) | (simp only [usM, setL_s, setL_t, setL_0, dropL_0, dropL_c]; (repeat' split) <;> first | with_reducible rfl | contradiction | (exfalso; omega) | (simp_all; done)) | rfl) (by first | with_reducible rfl | (simp [usM, setL_s, setL_t, setL_0, dropL_0, dropL_c, *]; done) | (simp only [usM, setL_s, setL_t, setL_0, dropL_0, dropL_c]; (repeat' split) <;> first | with_reducible rfl | contradiction | (exfalso; omega) | (simp_all; done)) | rfl)
    · skip
      refine ro_iconst (v := nI 1) (q := 32) hX dX3_used_31 rfl rfl ?_
      refine ro_goto (tgt := 36) hX dX3_used_32 (by decide) ?_
      refine ro_iadd (q := 37) hX dX3_used_36 rfl ?_
      refine vv_top (y := nI (hdM s b h + 1)) (nI_add' rfl rfl) ?_
      exact fin_i hF (Nat.le_of_ble_eq_true rfl) (Nat.le_of_ble_eq_true rfl) dX3_used_37 (by first | with_reducible rfl | (simp [usM, setL_s, setL_t, setL_0, dropL_0, dropL_c, *]; done) | (simp only [usM, setL_s, setL_t, setL_0, dropL_0, dropL_c]; (repeat' split) <;> first | with_reducible rfl | contradiction | (exfalso; omega) | (simp_all; done)) | rfl) (by first | with_reducible rfl | (simp [usM, setL_s, setL_t, setL_0, dropL_0, dropL_c, *]; done) | (simp only [usM, setL_s, setL_t, setL_0, dropL_0, dropL_c]; (repeat' split) <;> first | with_reducible rfl | contradiction | (exfalso; omega) | (simp_all; done)) | rfl)
set_option maxRecDepth 20000 in
set_option maxHeartbeats 2000000 in
theorem m_free {b : Nat} (hb : b ≤ 2448) {h : Nat} (hh : h < 6) : Does sz I_X3_free [.ref (sz + 75), .int (nI b), .int (nI h)] (patch G 75 4 (mS F s), T) 0 0 (.inl (some (feM s b h))) (patch G 75 4 (mS F s), T) := by
  refine Does.of (L := [(0, .ref (sz + 75)), (1, .int (nI b)), (2, .int (nI h))]) (by decide +kernel) (Nat.le_of_ble_eq_true rfl) rfl ⟨rfl, (by simp), ⟨rfl, (by simp), ⟨rfl, (by simp), trivial⟩⟩⟩ (fun VV hF => ?_)
  have hX := hF.c
  refine ro_aload_n (i := 0) (q := 1) hX dX3_free_0 rfl rfl rfl ?_
  refine ro_iload_n (i := 1) (q := 2) hX dX3_free_1 rfl rfl rfl ?_
  refine ro_iload_n (i := 2) (q := 3) hX dX3_free_2 rfl rfl rfl ?_
  refine ro_iconst (v := nI 0) (q := 4) hX dX3_free_3 rfl rfl ?_
  refine ro_callVi (q9 := 7) hX (m_of (by omega) (by omega) (by omega)) mw_X3_of kl_X3_36 (by decide) (fun cy => cell3 (by decide +kernel)) rfl rfl rfl (Nat.le_of_ble_eq_true rfl) ⟨Nat.le_of_ble_eq_true rfl, Nat.le_of_ble_eq_true rfl⟩ dX3_free_4 ⟨Nat.le_of_ble_eq_true rfl, Nat.le_of_ble_eq_true rfl⟩ rfl ?_
  refine ro_iconst (v := nI 1) (q := 8) hX dX3_free_7 rfl rfl ?_
  refine ro_icmp_ne (tgt := 26) (q := 11) hX dX3_free_8 (by decide) rfl (fun q1 => ?_) (fun q1 => ?_)
  · skip
    refine ro_iconst (v := nI 0) (q := 27) hX dX3_free_26 rfl rfl ?_
    refine ro_istore_n (i := 3) (q := 28) hX dX3_free_27 rfl (Nat.le_of_ble_eq_true rfl) rfl ?_
    refine ro_iload_n (i := 3) (q := 29) hX dX3_free_28 rfl rfl rfl ?_
    refine ro_if_eq (tgt := 49) (q := 32) hX dX3_free_29 (by decide) rfl (fun _ => ?_) (fun q => absurd (by decide) q)
    refine ro_iconst (v := nI 0) (q := 50) hX dX3_free_49 rfl rfl ?_
    exact fin_i hF (Nat.le_of_ble_eq_true rfl) (Nat.le_of_ble_eq_true rfl) dX3_free_50 (by first | with_reducible rfl | (simp [feM, leM, setL_s, setL_t, setL_0, dropL_0, dropL_c, *]; done) | (simp only [feM, leM, setL_s, setL_t, setL_0, dropL_0, dropL_c]; (repeat' split) <;> first | with_reducible rfl | contradiction | (exfalso; omega) | (simp_all; done)) | rfl) (by first | with_reducible rfl | (simp [feM, leM, setL_s, setL_t, setL_0, dropL_0, dropL_c, *]; done) | (simp only [feM, leM, setL_s, setL_t, setL_0, dropL_0, dropL_c]; (repeat' split) <;> first | with_reducible rfl | contradiction | (exfalso; omega) | (simp_all; done)) | rfl)
  · skip
    refine ro_aload_n (i := 0) (q := 12) hX dX3_free_11 rfl rfl rfl ?_
    refine ro_iload_n (i := 1) (q := 13) hX dX3_free_12 rfl rfl rfl ?_
    refine ro_iload_n (i := 2) (q := 14) hX dX3_free_13 rfl rfl rfl ?_
    refine ro_iconst (v := nI 1) (q := 15) hX dX3_free_14 rfl rfl ?_
    refine ro_callVi (q9 := 18) hX (m_of (by omega) (by omega) (by omega)) mw_X3_of kl_X3_36 (by decide) (fun cy => cell3 (by decide +kernel)) rfl rfl rfl (Nat.le_of_ble_eq_true rfl) ⟨Nat.le_of_ble_eq_true rfl, Nat.le_of_ble_eq_true rfl⟩ dX3_free_15 ⟨Nat.le_of_ble_eq_true rfl, Nat.le_of_ble_eq_true rfl⟩ rfl ?_
    refine ro_iconst (v := nI 1) (q := 19) hX dX3_free_18 rfl rfl ?_
    refine ro_icmp_ne (tgt := 26) (q := 22) hX dX3_free_19 (by decide) rfl (fun q2 => ?_) (fun q2 => ?_)
    · skip
      refine ro_iconst (v := nI 0) (q := 27) hX dX3_free_26 rfl rfl ?_
      refine ro_istore_n (i := 3) (q := 28) hX dX3_free_27 rfl (Nat.le_of_ble_eq_true rfl) rfl ?_
      refine ro_iload_n (i := 3) (q := 29) hX dX3_free_28 rfl rfl rfl ?_
      refine ro_if_eq (tgt := 49) (q := 32) hX dX3_free_29 (by decide) rfl (fun _ => ?_) (fun q => absurd (by decide) q)
      refine ro_iconst (v := nI 0) (q := 50) hX dX3_free_49 rfl rfl ?_
      exact fin_i hF (Nat.le_of_ble_eq_true rfl) (Nat.le_of_ble_eq_true rfl) dX3_free_50 (by first | with_reducible rfl | (simp [feM, leM, setL_s, setL_t, setL_0, dropL_0, dropL_c, *]; done) | (simp only [feM, leM, setL_s, setL_t, setL_0, dropL_0, dropL_c]; (repeat' split) <;> first | with_reducible rfl | contradiction | (exfalso; omega) | (simp_all; done)) | rfl) (by first | with_reducible rfl | (simp [feM, leM, setL_s, setL_t, setL_0, dropL_0, dropL_c, *]; done) | (simp only [feM, leM, setL_s, setL_t, setL_0, dropL_0, dropL_c]; (repeat' split) <;> first | with_reducible rfl | contradiction | (exfalso; omega) | (simp_all; done)) | rfl)
    · skip
      refine ro_iconst (v := nI 1) (q := 23) hX dX3_free_22 rfl rfl ?_
      refine ro_goto (tgt := 27) hX dX3_free_23 (by decide) ?_
      refine ro_istore_n (i := 3) (q := 28) hX dX3_free_27 rfl (Nat.le_of_ble_eq_true rfl) rfl ?_
      refine ro_iload_n (i := 3) (q := 29) hX dX3_free_28 rfl rfl rfl ?_
      refine ro_if_eq (tgt := 49) (q := 32) hX dX3_free_29 (by decide) rfl (fun q => absurd q (by decide)) (fun _ => ?_)
      refine ro_aload_n (i := 0) (q := 33) hX dX3_free_32 rfl rfl rfl ?_
      refine ro_iload_n (i := 1) (q := 34) hX dX3_free_33 rfl rfl rfl ?_
      refine ro_iload_n (i := 2) (q := 35) hX dX3_free_34 rfl rfl rfl ?_
      refine ro_iconst (v := nI 2) (q := 36) hX dX3_free_35 rfl rfl ?_
      refine ro_callVi (q9 := 39) hX (m_of (by omega) (by omega) (by omega)) mw_X3_of kl_X3_36 (by decide) (fun cy => cell3 (by decide +kernel)) rfl rfl rfl (Nat.le_of_ble_eq_true rfl) ⟨Nat.le_of_ble_eq_true rfl, Nat.le_of_ble_eq_true rfl⟩ dX3_free_36 ⟨Nat.le_of_ble_eq_true rfl, Nat.le_of_ble_eq_true rfl⟩ rfl ?_
      refine ro_aload_n (i := 0) (q := 40) hX dX3_free_39 rfl rfl rfl ?_
      refine ro_iload_n (i := 1) (q := 41) hX dX3_free_40 rfl rfl rfl ?_
      refine ro_iload_n (i := 2) (q := 42) hX dX3_free_41 rfl rfl rfl ?_
      refine ro_callVi (q9 := 45) hX (m_used (by omega) (by omega)) mw_X3_used kl_X3_43 (by decide) (fun cy => cell3 (by decide +kernel)) rfl rfl rfl (Nat.le_of_ble_eq_true rfl) ⟨Nat.le_of_ble_eq_true rfl, Nat.le_of_ble_eq_true rfl⟩ dX3_free_42 ⟨Nat.le_of_ble_eq_true rfl, Nat.le_of_ble_eq_true rfl⟩ rfl ?_
      refine ro_isub (q := 46) hX dX3_free_45 rfl ?_
      refine ro_goto (tgt := 50) hX dX3_free_46 (by decide) ?_
      exact fin_i hF (Nat.le_of_ble_eq_true rfl) (Nat.le_of_ble_eq_true rfl) dX3_free_50 (by first | with_reducible rfl | (simp [feM, leM, setL_s, setL_t, setL_0, dropL_0, dropL_c, *]; done) | (simp only [feM, leM, setL_s, setL_t, setL_0, dropL_0, dropL_c]; (repeat' split) <;> first | with_reducible rfl | contradiction | (exfalso; omega) | (simp_all; done)) | rfl) (by first | with_reducible rfl | (simp [feM, leM, setL_s, setL_t, setL_0, dropL_0, dropL_c, *]; done) | (simp only [feM, leM, setL_s, setL_t, setL_0, dropL_0, dropL_c]; (repeat' split) <;> first | with_reducible rfl | contradiction | (exfalso; omega) | (simp_all; done)) | rfl)
set_option maxRecDepth 20000 in
set_option maxHeartbeats 2000000 in
theorem m_bestHost {b : Nat} (hb : b ≤ 2448) {p : Nat} (hp : p < 30) : Does sz I_X3_bestHost [.ref (sz + 75), .int (nI b), .int (nI p)] (patch G 75 4 (mS F s), T) 0 0 (.inl (some (oN (boM s b p)))) (patch G 75 4 (mS F s), T) := by
  refine Does.of (L := [(0, .ref (sz + 75)), (1, .int (nI b)), (2, .int (nI p))]) (by decide +kernel) (Nat.le_of_ble_eq_true rfl) rfl ⟨rfl, (by simp), ⟨rfl, (by simp), ⟨rfl, (by simp), trivial⟩⟩⟩ (fun VV hF => ?_)
  have hX := hF.c
  refine ro_iconst (v := (-1)) (q := 1) hX dX3_bestHost_0 rfl rfl ?_
  refine ro_istore_n (i := 3) (q := 2) hX dX3_bestHost_1 rfl (Nat.le_of_ble_eq_true rfl) rfl ?_
  refine ro_iconst (v := nI 0) (q := 3) hX dX3_bestHost_2 rfl rfl ?_
  refine ro_istore (i := 4) (q := 5) hX dX3_bestHost_3 (Nat.le_of_ble_eq_true rfl) rfl ?_
  refine ro_iconst (v := nI 0) (q := 6) hX dX3_bestHost_5 rfl rfl ?_
  refine ro_istore (i := 5) (q := 8) hX dX3_bestHost_6 (Nat.le_of_ble_eq_true rfl) rfl ?_
  refine vv_LM (L' := [(0, .ref (sz + 75)), (1, .int (nI b)), (2, .int (nI p)), (3, .int (oN (bhM s b p 0).1)), (4, .int ((bhM s b p 0).2)), (5, .int (nI 0))]) (M' := (patch G 75 4 (mS F s), T)) (by first | with_reducible rfl | (simp [bhM, rbM, oN, setL_s, setL_t, setL_0, dropL_0, dropL_c, *]; done) | (simp only [bhM, rbM, oN, setL_s, setL_t, setL_0, dropL_0, dropL_c]; (repeat' split) <;> first | with_reducible rfl | contradiction | (exfalso; omega) | (simp_all; done)) | rfl) (by first | with_reducible rfl | (simp [bhM, rbM, oN, setL_s, setL_t, setL_0, dropL_0, dropL_c, *]; done) | (simp only [bhM, rbM, oN, setL_s, setL_t, setL_0, dropL_0, dropL_c]; (repeat' split) <;> first | with_reducible rfl | contradiction | (exfalso; omega) | (simp_all; done)) | rfl) ?_
  refine down_ind (P := fun k8 => VV 0 0 8 [(0, .ref (sz + 75)), (1, .int (nI b)), (2, .int (nI p)), (3, .int (oN (bhM s b p k8).1)), (4, .int ((bhM s b p k8).2)), (5, .int (nI k8))] [] (patch G 75 4 (mS F s), T)) (6) (fun k8 hk8 ih8 => ?_) ?_
  · have ih8 : VV 0 0 8 [(0, .ref (sz + 75)), (1, .int (nI b)), (2, .int (nI p)), (3, .int (oN (bhM s b p (k8 + 1)).1)), (4, .int ((bhM s b p (k8 + 1)).2)), (5, .int (nI (k8 + 1)))] [] (patch G 75 4 (mS F s), T) := ih8
    show VV 0 0 8 [(0, .ref (sz + 75)), (1, .int (nI b)), (2, .int (nI p)), (3, .int (oN (bhM s b p k8).1)), (4, .int ((bhM s b p k8).2)), (5, .int (nI k8))] [] (patch G 75 4 (mS F s), T)
    refine ro_iload (i := 5) (q := 10) hX dX3_bestHost_8 rfl rfl ?_
    refine ro_bipush (v := nI 6) (q := 12) hX dX3_bestHost_10 rfl rfl ?_
    refine ro_icmp_ge (tgt := 75) (q := 15) hX dX3_bestHost_12 (by decide) rfl (fun q => absurd q (by first | exact ni_nle (by omega) (by omega) | exact ni_lt (by omega) (by omega))) (fun _ => ?_)
    refine ro_aload_n (i := 0) (q := 16) hX dX3_bestHost_15 rfl rfl rfl ?_
    refine ro_iload_n (i := 1) (q := 17) hX dX3_bestHost_16 rfl rfl rfl ?_
    refine ro_iload (i := 5) (q := 19) hX dX3_bestHost_17 rfl rfl ?_
    refine ro_iload_n (i := 2) (q := 20) hX dX3_bestHost_19 rfl rfl rfl ?_
    refine ro_callVi (q9 := 23) hX (m_replicaOf (by omega) (by omega) (by omega)) mw_X3_replicaOf kl_X3_32 (by decide) (fun cy => cell3 (by decide +kernel)) rfl rfl rfl (Nat.le_of_ble_eq_true rfl) ⟨Nat.le_of_ble_eq_true rfl, Nat.le_of_ble_eq_true rfl⟩ dX3_bestHost_20 ⟨Nat.le_of_ble_eq_true rfl, Nat.le_of_ble_eq_true rfl⟩ rfl ?_
    refine ro_if_le (tgt := 30) (q := 26) hX dX3_bestHost_23 (by decide) rfl (fun q1 => ?_) (fun q1 => ?_)
    · skip
      refine ro_aload_n (i := 0) (q := 31) hX dX3_bestHost_30 rfl rfl rfl ?_
      refine ro_iload_n (i := 1) (q := 32) hX dX3_bestHost_31 rfl rfl rfl ?_
      refine ro_iload (i := 5) (q := 34) hX dX3_bestHost_32 rfl rfl ?_
      refine ro_callVi (q9 := 37) hX (m_free (by omega) (by omega)) mw_X3_free kl_X3_46 (by decide) (fun cy => cell3 (by decide +kernel)) rfl rfl rfl (Nat.le_of_ble_eq_true rfl) ⟨Nat.le_of_ble_eq_true rfl, Nat.le_of_ble_eq_true rfl⟩ dX3_bestHost_34 ⟨Nat.le_of_ble_eq_true rfl, Nat.le_of_ble_eq_true rfl⟩ rfl ?_
      refine ro_istore (i := 6) (q := 39) hX dX3_bestHost_37 (Nat.le_of_ble_eq_true rfl) rfl ?_
      refine ro_iload (i := 6) (q := 41) hX dX3_bestHost_39 rfl rfl ?_
      refine ro_iload (i := 4) (q := 43) hX dX3_bestHost_41 rfl rfl ?_
      refine ro_icmp_le (tgt := 51) (q := 46) hX dX3_bestHost_43 (by decide) rfl (fun q2 => ?_) (fun q2 => ?_)
      · skip
        refine ro_iload_n (i := 3) (q := 52) hX dX3_bestHost_51 rfl rfl rfl ?_
        refine ro_istore_n (i := 3) (q := 53) hX dX3_bestHost_52 rfl (Nat.le_of_ble_eq_true rfl) rfl ?_
        refine ro_iload (i := 6) (q := 55) hX dX3_bestHost_53 rfl rfl ?_
        refine ro_iload (i := 4) (q := 57) hX dX3_bestHost_55 rfl rfl ?_
        refine ro_icmp_le (tgt := 65) (q := 60) hX dX3_bestHost_57 (by decide) rfl (fun q3 => ?_) (fun q3 => ?_)
        · skip
          refine ro_iload (i := 4) (q := 67) hX dX3_bestHost_65 rfl rfl ?_
          refine ro_istore (i := 4) (q := 69) hX dX3_bestHost_67 (Nat.le_of_ble_eq_true rfl) rfl ?_
          refine ro_iinc (i := 5) (v := nI (k8 + 1)) (q := 72) hX dX3_bestHost_69 rfl (ni_inc _) (Nat.le_of_ble_eq_true rfl) rfl ?_
          refine ro_goto (tgt := 8) hX dX3_bestHost_72 (by decide) ?_
          refine ro_drop [6] hX rfl ?_
          exact vv_LM (by first | with_reducible rfl | (simp [bhM, rbM, oN, setL_s, setL_t, setL_0, dropL_0, dropL_c, *]; done) | (simp only [bhM, rbM, oN, setL_s, setL_t, setL_0, dropL_0, dropL_c]; (repeat' split) <;> first | with_reducible rfl | contradiction | (exfalso; omega) | (simp_all; done)) | rfl) (by first | with_reducible rfl | (simp [bhM, rbM, oN, setL_s, setL_t, setL_0, dropL_0, dropL_c, *]; done) | (simp only [bhM, rbM, oN, setL_s, setL_t, setL_0, dropL_0, dropL_c]; (repeat' split) <;> first | with_reducible rfl | contradiction | (exfalso; omega) | (simp_all; done)) | rfl) ih8
        · skip
          refine ro_iload (i := 6) (q := 62) hX dX3_bestHost_60 rfl rfl ?_
          refine ro_goto (tgt := 67) hX dX3_bestHost_62 (by decide) ?_
          refine ro_istore (i := 4) (q := 69) hX dX3_bestHost_67 (Nat.le_of_ble_eq_true rfl) rfl ?_
          refine ro_iinc (i := 5) (v := nI (k8 + 1)) (q := 72) hX dX3_bestHost_69 rfl (ni_inc _) (Nat.le_of_ble_eq_true rfl) rfl ?_
          refine ro_goto (tgt := 8) hX dX3_bestHost_72 (by decide) ?_
          refine ro_drop [6] hX rfl ?_
          exact vv_LM (by first | with_reducible rfl | (simp [bhM, rbM, oN, setL_s, setL_t, setL_0, dropL_0, dropL_c, *]; done) | (simp only [bhM, rbM, oN, setL_s, setL_t, setL_0, dropL_0, dropL_c]; (repeat' split) <;> first | with_reducible rfl | contradiction | (exfalso; omega) | (simp_all; done)) | rfl) (by first | with_reducible rfl | (simp [bhM, rbM, oN, setL_s, setL_t, setL_0, dropL_0, dropL_c, *]; done) | (simp only [bhM, rbM, oN, setL_s, setL_t, setL_0, dropL_0, dropL_c]; (repeat' split) <;> first | with_reducible rfl | contradiction | (exfalso; omega) | (simp_all; done)) | rfl) ih8
      · skip
        refine ro_iload (i := 5) (q := 48) hX dX3_bestHost_46 rfl rfl ?_
        refine ro_goto (tgt := 52) hX dX3_bestHost_48 (by decide) ?_
        refine ro_istore_n (i := 3) (q := 53) hX dX3_bestHost_52 rfl (Nat.le_of_ble_eq_true rfl) rfl ?_
        refine ro_iload (i := 6) (q := 55) hX dX3_bestHost_53 rfl rfl ?_
        refine ro_iload (i := 4) (q := 57) hX dX3_bestHost_55 rfl rfl ?_
        refine ro_icmp_le (tgt := 65) (q := 60) hX dX3_bestHost_57 (by decide) rfl (fun q4 => ?_) (fun q4 => ?_)
        · skip
          refine ro_iload (i := 4) (q := 67) hX dX3_bestHost_65 rfl rfl ?_
          refine ro_istore (i := 4) (q := 69) hX dX3_bestHost_67 (Nat.le_of_ble_eq_true rfl) rfl ?_
          refine ro_iinc (i := 5) (v := nI (k8 + 1)) (q := 72) hX dX3_bestHost_69 rfl (ni_inc _) (Nat.le_of_ble_eq_true rfl) rfl ?_
          refine ro_goto (tgt := 8) hX dX3_bestHost_72 (by decide) ?_
          refine ro_drop [6] hX rfl ?_
          exact vv_LM (by first | with_reducible rfl | (simp [bhM, rbM, oN, setL_s, setL_t, setL_0, dropL_0, dropL_c, *]; done) | (simp only [bhM, rbM, oN, setL_s, setL_t, setL_0, dropL_0, dropL_c]; (repeat' split) <;> first | with_reducible rfl | contradiction | (exfalso; omega) | (simp_all; done)) | rfl) (by first | with_reducible rfl | (simp [bhM, rbM, oN, setL_s, setL_t, setL_0, dropL_0, dropL_c, *]; done) | (simp only [bhM, rbM, oN, setL_s, setL_t, setL_0, dropL_0, dropL_c]; (repeat' split) <;> first | with_reducible rfl | contradiction | (exfalso; omega) | (simp_all; done)) | rfl) ih8
        · skip
          refine ro_iload (i := 6) (q := 62) hX dX3_bestHost_60 rfl rfl ?_
          refine ro_goto (tgt := 67) hX dX3_bestHost_62 (by decide) ?_
          refine ro_istore (i := 4) (q := 69) hX dX3_bestHost_67 (Nat.le_of_ble_eq_true rfl) rfl ?_
          refine ro_iinc (i := 5) (v := nI (k8 + 1)) (q := 72) hX dX3_bestHost_69 rfl (ni_inc _) (Nat.le_of_ble_eq_true rfl) rfl ?_
          refine ro_goto (tgt := 8) hX dX3_bestHost_72 (by decide) ?_
          refine ro_drop [6] hX rfl ?_
          exact vv_LM (by first | with_reducible rfl | (simp [bhM, rbM, oN, setL_s, setL_t, setL_0, dropL_0, dropL_c, *]; done) | (simp only [bhM, rbM, oN, setL_s, setL_t, setL_0, dropL_0, dropL_c]; (repeat' split) <;> first | with_reducible rfl | contradiction | (exfalso; omega) | (simp_all; done)) | rfl) (by first | with_reducible rfl | (simp [bhM, rbM, oN, setL_s, setL_t, setL_0, dropL_0, dropL_c, *]; done) | (simp only [bhM, rbM, oN, setL_s, setL_t, setL_0, dropL_0, dropL_c]; (repeat' split) <;> first | with_reducible rfl | contradiction | (exfalso; omega) | (simp_all; done)) | rfl) ih8
    · skip
      refine ro_iconst (v := nI 0) (q := 27) hX dX3_bestHost_26 rfl rfl ?_
      refine ro_goto (tgt := 37) hX dX3_bestHost_27 (by decide) ?_
      refine ro_istore (i := 6) (q := 39) hX dX3_bestHost_37 (Nat.le_of_ble_eq_true rfl) rfl ?_
      refine ro_iload (i := 6) (q := 41) hX dX3_bestHost_39 rfl rfl ?_
      refine ro_iload (i := 4) (q := 43) hX dX3_bestHost_41 rfl rfl ?_
      refine ro_icmp_le (tgt := 51) (q := 46) hX dX3_bestHost_43 (by decide) rfl (fun q5 => ?_) (fun q5 => ?_)
      · skip
        refine ro_iload_n (i := 3) (q := 52) hX dX3_bestHost_51 rfl rfl rfl ?_
        refine ro_istore_n (i := 3) (q := 53) hX dX3_bestHost_52 rfl (Nat.le_of_ble_eq_true rfl) rfl ?_
        refine ro_iload (i := 6) (q := 55) hX dX3_bestHost_53 rfl rfl ?_
        refine ro_iload (i := 4) (q := 57) hX dX3_bestHost_55 rfl rfl ?_
        refine ro_icmp_le (tgt := 65) (q := 60) hX dX3_bestHost_57 (by decide) rfl (fun q6 => ?_) (fun q6 => ?_)
        · skip
          refine ro_iload (i := 4) (q := 67) hX dX3_bestHost_65 rfl rfl ?_
          refine ro_istore (i := 4) (q := 69) hX dX3_bestHost_67 (Nat.le_of_ble_eq_true rfl) rfl ?_
          refine ro_iinc (i := 5) (v := nI (k8 + 1)) (q := 72) hX dX3_bestHost_69 rfl (ni_inc _) (Nat.le_of_ble_eq_true rfl) rfl ?_
          refine ro_goto (tgt := 8) hX dX3_bestHost_72 (by decide) ?_
          refine ro_drop [6] hX rfl ?_
          exact vv_LM (by first | with_reducible rfl | (simp [bhM, rbM, oN, setL_s, setL_t, setL_0, dropL_0, dropL_c, *]; done) | (simp only [bhM, rbM, oN, setL_s, setL_t, setL_0, dropL_0, dropL_c]; (repeat' split) <;> first | with_reducible rfl | contradiction | (exfalso; omega) | (simp_all; done)) | rfl) (by first | with_reducible rfl | (simp [bhM, rbM, oN, setL_s, setL_t, setL_0, dropL_0, dropL_c, *]; done) | (simp only [bhM, rbM, oN, setL_s, setL_t, setL_0, dropL_0, dropL_c]; (repeat' split) <;> first | with_reducible rfl | contradiction | (exfalso; omega) | (simp_all; done)) | rfl) ih8
        · skip
          refine ro_iload (i := 6) (q := 62) hX dX3_bestHost_60 rfl rfl ?_
          refine ro_goto (tgt := 67) hX dX3_bestHost_62 (by decide) ?_
          refine ro_istore (i := 4) (q := 69) hX dX3_bestHost_67 (Nat.le_of_ble_eq_true rfl) rfl ?_
          refine ro_iinc (i := 5) (v := nI (k8 + 1)) (q := 72) hX dX3_bestHost_69 rfl (ni_inc _) (Nat.le_of_ble_eq_true rfl) rfl ?_
          refine ro_goto (tgt := 8) hX dX3_bestHost_72 (by decide) ?_
          refine ro_drop [6] hX rfl ?_
          exact vv_LM (by first | with_reducible rfl | (simp [bhM, rbM, oN, setL_s, setL_t, setL_0, dropL_0, dropL_c, *]; done) | (simp only [bhM, rbM, oN, setL_s, setL_t, setL_0, dropL_0, dropL_c]; (repeat' split) <;> first | with_reducible rfl | contradiction | (exfalso; omega) | (simp_all; done)) | rfl) (by first | with_reducible rfl | (simp [bhM, rbM, oN, setL_s, setL_t, setL_0, dropL_0, dropL_c, *]; done) | (simp only [bhM, rbM, oN, setL_s, setL_t, setL_0, dropL_0, dropL_c]; (repeat' split) <;> first | with_reducible rfl | contradiction | (exfalso; omega) | (simp_all; done)) | rfl) ih8
      · skip
        refine ro_iload (i := 5) (q := 48) hX dX3_bestHost_46 rfl rfl ?_
        refine ro_goto (tgt := 52) hX dX3_bestHost_48 (by decide) ?_
        refine ro_istore_n (i := 3) (q := 53) hX dX3_bestHost_52 rfl (Nat.le_of_ble_eq_true rfl) rfl ?_
        refine ro_iload (i := 6) (q := 55) hX dX3_bestHost_53 rfl rfl ?_
        refine ro_iload (i := 4) (q := 57) hX dX3_bestHost_55 rfl rfl ?_
        refine ro_icmp_le (tgt := 65) (q := 60) hX dX3_bestHost_57 (by decide) rfl (fun q7 => ?_) (fun q7 => ?_)
        · skip
          refine ro_iload (i := 4) (q := 67) hX dX3_bestHost_65 rfl rfl ?_
          refine ro_istore (i := 4) (q := 69) hX dX3_bestHost_67 (Nat.le_of_ble_eq_true rfl) rfl ?_
          refine ro_iinc (i := 5) (v := nI (k8 + 1)) (q := 72) hX dX3_bestHost_69 rfl (ni_inc _) (Nat.le_of_ble_eq_true rfl) rfl ?_
          refine ro_goto (tgt := 8) hX dX3_bestHost_72 (by decide) ?_
          refine ro_drop [6] hX rfl ?_
          exact vv_LM (by first | with_reducible rfl | (simp [bhM, rbM, oN, setL_s, setL_t, setL_0, dropL_0, dropL_c, *]; done) | (simp only [bhM, rbM, oN, setL_s, setL_t, setL_0, dropL_0, dropL_c]; (repeat' split) <;> first | with_reducible rfl | contradiction | (exfalso; omega) | (simp_all; done)) | rfl) (by first | with_reducible rfl | (simp [bhM, rbM, oN, setL_s, setL_t, setL_0, dropL_0, dropL_c, *]; done) | (simp only [bhM, rbM, oN, setL_s, setL_t, setL_0, dropL_0, dropL_c]; (repeat' split) <;> first | with_reducible rfl | contradiction | (exfalso; omega) | (simp_all; done)) | rfl) ih8
        · skip
          refine ro_iload (i := 6) (q := 62) hX dX3_bestHost_60 rfl rfl ?_
          refine ro_goto (tgt := 67) hX dX3_bestHost_62 (by decide) ?_
          refine ro_istore (i := 4) (q := 69) hX dX3_bestHost_67 (Nat.le_of_ble_eq_true rfl) rfl ?_
          refine ro_iinc (i := 5) (v := nI (k8 + 1)) (q := 72) hX dX3_bestHost_69 rfl (ni_inc _) (Nat.le_of_ble_eq_true rfl) rfl ?_
          refine ro_goto (tgt := 8) hX dX3_bestHost_72 (by decide) ?_
          refine ro_drop [6] hX rfl ?_
          exact vv_LM (by first | with_reducible rfl | (simp [bhM, rbM, oN, setL_s, setL_t, setL_0, dropL_0, dropL_c, *]; done) | (simp only [bhM, rbM, oN, setL_s, setL_t, setL_0, dropL_0, dropL_c]; (repeat' split) <;> first | with_reducible rfl | contradiction | (exfalso; omega) | (simp_all; done)) | rfl) (by first | with_reducible rfl | (simp [bhM, rbM, oN, setL_s, setL_t, setL_0, dropL_0, dropL_c, *]; done) | (simp only [bhM, rbM, oN, setL_s, setL_t, setL_0, dropL_0, dropL_c]; (repeat' split) <;> first | with_reducible rfl | contradiction | (exfalso; omega) | (simp_all; done)) | rfl) ih8
  · show VV 0 0 8 [(0, .ref (sz + 75)), (1, .int (nI b)), (2, .int (nI p)), (3, .int (oN (bhM s b p 6).1)), (4, .int ((bhM s b p 6).2)), (5, .int (nI 6))] [] (patch G 75 4 (mS F s), T)
    refine ro_iload (i := 5) (q := 10) hX dX3_bestHost_8 rfl rfl ?_
    refine ro_bipush (v := nI 6) (q := 12) hX dX3_bestHost_10 rfl rfl ?_
    refine ro_icmp_ge (tgt := 75) (q := 15) hX dX3_bestHost_12 (by decide) rfl (fun _ => ?_) (fun q => absurd (by decide) q)
    refine ro_iload_n (i := 3) (q := 76) hX dX3_bestHost_75 rfl rfl rfl ?_
    exact fin_i hF (Nat.le_of_ble_eq_true rfl) (Nat.le_of_ble_eq_true rfl) dX3_bestHost_76 (by rfl) (by rfl)
set_option maxRecDepth 20000 in
set_option maxHeartbeats 2000000 in
theorem m_statusOf {b : Nat} (hb : b ≤ 2448) {p : Nat} (hp : p < 30) : Does sz I_X3_statusOf [.ref (sz + 75), .int (nI b), .int (nI p)] (patch G 75 4 (mS F s), T) 0 0 (.inl (some (stM s b p))) (patch G 75 4 (mS F s), T) := by
  refine Does.of (L := [(0, .ref (sz + 75)), (1, .int (nI b)), (2, .int (nI p))]) (by decide +kernel) (Nat.le_of_ble_eq_true rfl) rfl ⟨rfl, (by simp), ⟨rfl, (by simp), ⟨rfl, (by simp), trivial⟩⟩⟩ (fun VV hF => ?_)
  have hX := hF.c
  refine ro_aload_n (i := 0) (q := 1) hX dX3_statusOf_0 rfl rfl rfl ?_
  refine ro_iload_n (i := 1) (q := 2) hX dX3_statusOf_1 rfl rfl rfl ?_
  refine ro_iload_n (i := 2) (q := 3) hX dX3_statusOf_2 rfl rfl rfl ?_
  refine ro_callVi (q9 := 6) hX (m_copiesOf (by omega) (by omega)) mw_X3_copiesOf kl_X3_49 (by decide) (fun cy => cell3 (by decide +kernel)) rfl rfl rfl (Nat.le_of_ble_eq_true rfl) ⟨Nat.le_of_ble_eq_true rfl, Nat.le_of_ble_eq_true rfl⟩ dX3_statusOf_3 ⟨Nat.le_of_ble_eq_true rfl, Nat.le_of_ble_eq_true rfl⟩ rfl ?_
  refine ro_callSi (q9 := 9) hX (m_ones) mw_X3_ones kl_X3_52 rfl rfl (Nat.le_of_ble_eq_true rfl) ⟨Nat.le_of_ble_eq_true rfl, Nat.le_of_ble_eq_true rfl⟩ dX3_statusOf_6 ⟨Nat.le_of_ble_eq_true rfl, Nat.le_of_ble_eq_true rfl⟩ rfl ?_
  refine ro_istore_n (i := 3) (q := 10) hX dX3_statusOf_9 rfl (Nat.le_of_ble_eq_true rfl) rfl ?_
  refine ro_iload_n (i := 3) (q := 11) hX dX3_statusOf_10 rfl rfl rfl ?_
  refine ro_if_le (tgt := 25) (q := 14) hX dX3_statusOf_11 (by decide) rfl (fun q1 => ?_) (fun q1 => ?_)
  · skip
    refine ro_iconst (v := nI 0) (q := 26) hX dX3_statusOf_25 rfl rfl ?_
    refine ro_istore (i := 4) (q := 28) hX dX3_statusOf_26 (Nat.le_of_ble_eq_true rfl) rfl ?_
    refine vv_LM (L' := [(0, .ref (sz + 75)), (1, .int (nI b)), (2, .int (nI p)), (3, .int (onM (cpM s b p))), (4, .int (nI 0))]) (M' := (patch G 75 4 (mS F s), T)) (by rfl) (by rfl) ?_
    refine down_ind (P := fun k28 => fsL s b p k28 = false → VV 0 0 28 [(0, .ref (sz + 75)), (1, .int (nI b)), (2, .int (nI p)), (3, .int (onM (cpM s b p))), (4, .int (nI k28))] [] (patch G 75 4 (mS F s), T)) (6) (fun k28 hk28 ih28 hv28 => ?_) (fun hv28 => ?_) rfl
    · have ih28 : fsL s b p (k28 + 1) = false → VV 0 0 28 [(0, .ref (sz + 75)), (1, .int (nI b)), (2, .int (nI p)), (3, .int (onM (cpM s b p))), (4, .int (nI (k28 + 1)))] [] (patch G 75 4 (mS F s), T) := ih28
      show VV 0 0 28 [(0, .ref (sz + 75)), (1, .int (nI b)), (2, .int (nI p)), (3, .int (onM (cpM s b p))), (4, .int (nI k28))] [] (patch G 75 4 (mS F s), T)
      refine ro_iload (i := 4) (q := 30) hX dX3_statusOf_28 rfl rfl ?_
      refine ro_bipush (v := nI 6) (q := 32) hX dX3_statusOf_30 rfl rfl ?_
      refine ro_icmp_ge (tgt := 54) (q := 35) hX dX3_statusOf_32 (by decide) rfl (fun q => absurd q (by first | exact ni_nle (by omega) (by omega) | exact ni_lt (by omega) (by omega))) (fun _ => ?_)
      refine ro_aload_n (i := 0) (q := 36) hX dX3_statusOf_35 rfl rfl rfl ?_
      refine ro_iload_n (i := 1) (q := 37) hX dX3_statusOf_36 rfl rfl rfl ?_
      refine ro_iload (i := 4) (q := 39) hX dX3_statusOf_37 rfl rfl ?_
      refine ro_iload_n (i := 2) (q := 40) hX dX3_statusOf_39 rfl rfl rfl ?_
      refine ro_callVi (q9 := 43) hX (m_isFresh (by omega) (by omega) (by omega)) mw_X3_isFresh kl_X3_56 (by decide) (fun cy => cell3 (by decide +kernel)) rfl rfl rfl (Nat.le_of_ble_eq_true rfl) ⟨Nat.le_of_ble_eq_true rfl, Nat.le_of_ble_eq_true rfl⟩ dX3_statusOf_40 ⟨Nat.le_of_ble_eq_true rfl, Nat.le_of_ble_eq_true rfl⟩ rfl ?_
      refine ro_ifb_eq (tgt := 48) (q := 46) hX dX3_statusOf_43 (by decide) rfl (fun q2 => ?_) (fun q2 => ?_)
      · skip
        refine ro_iinc (i := 4) (v := nI (k28 + 1)) (q := 51) hX dX3_statusOf_48 rfl (ni_inc _) (Nat.le_of_ble_eq_true rfl) rfl ?_
        refine ro_goto (tgt := 28) hX dX3_statusOf_51 (by decide) ?_
        exact vv_LM (by rfl) (by rfl) (ih28 (by simp [fsL, *]))
      · skip
        refine ro_iconst (v := nI 0) (q := 47) hX dX3_statusOf_46 rfl rfl ?_
        exact fin_i hF (Nat.le_of_ble_eq_true rfl) (Nat.le_of_ble_eq_true rfl) dX3_statusOf_47 (by first | with_reducible rfl | (simp [stM, setL_s, setL_t, setL_0, dropL_0, dropL_c, *]; done) | (simp [stM, fsL_at 6 hk28 (by assumption), *]; done) | (simp only [stM, setL_s, setL_t, setL_0, dropL_0, dropL_c]; (repeat' split) <;> first | with_reducible rfl | contradiction | (exfalso; omega) | (simp_all; done)) | rfl) (by first | with_reducible rfl | (simp [stM, setL_s, setL_t, setL_0, dropL_0, dropL_c, *]; done) | (simp [stM, fsL_at 6 hk28 (by assumption), *]; done) | (simp only [stM, setL_s, setL_t, setL_0, dropL_0, dropL_c]; (repeat' split) <;> first | with_reducible rfl | contradiction | (exfalso; omega) | (simp_all; done)) | rfl)
    · show VV 0 0 28 [(0, .ref (sz + 75)), (1, .int (nI b)), (2, .int (nI p)), (3, .int (onM (cpM s b p))), (4, .int (nI 6))] [] (patch G 75 4 (mS F s), T)
      refine ro_iload (i := 4) (q := 30) hX dX3_statusOf_28 rfl rfl ?_
      refine ro_bipush (v := nI 6) (q := 32) hX dX3_statusOf_30 rfl rfl ?_
      refine ro_icmp_ge (tgt := 54) (q := 35) hX dX3_statusOf_32 (by decide) rfl (fun _ => ?_) (fun q => absurd (by decide) q)
      refine ro_bipush (v := (-2)) (q := 56) hX dX3_statusOf_54 rfl rfl ?_
      exact fin_i hF (Nat.le_of_ble_eq_true rfl) (Nat.le_of_ble_eq_true rfl) dX3_statusOf_56 (by first | with_reducible rfl | (simp [stM, setL_s, setL_t, setL_0, dropL_0, dropL_c, *]; done) | (simp [stM, fsL_at 6 hk28 (by assumption), *]; done) | (simp only [stM, setL_s, setL_t, setL_0, dropL_0, dropL_c]; (repeat' split) <;> first | with_reducible rfl | contradiction | (exfalso; omega) | (simp_all; done)) | rfl) (by first | with_reducible rfl | (simp [stM, setL_s, setL_t, setL_0, dropL_0, dropL_c, *]; done) | (simp [stM, fsL_at 6 hk28 (by assumption), *]; done) | (simp only [stM, setL_s, setL_t, setL_0, dropL_0, dropL_c]; (repeat' split) <;> first | with_reducible rfl | contradiction | (exfalso; omega) | (simp_all; done)) | rfl)
  · skip
    refine ro_iload_n (i := 3) (q := 15) hX dX3_statusOf_14 rfl rfl rfl ?_
    refine ro_iconst (v := nI 1) (q := 16) hX dX3_statusOf_15 rfl rfl ?_
    refine ro_icmp_le (tgt := 23) (q := 19) hX dX3_statusOf_16 (by decide) rfl (fun q3 => ?_) (fun q3 => ?_)
    · skip
      refine ro_iconst (v := nI 1) (q := 24) hX dX3_statusOf_23 rfl rfl ?_
      exact fin_i hF (Nat.le_of_ble_eq_true rfl) (Nat.le_of_ble_eq_true rfl) dX3_statusOf_24 (by first | with_reducible rfl | (simp [stM, setL_s, setL_t, setL_0, dropL_0, dropL_c, *]; done) | (simp [stM, fsL_at 6 hk28 (by assumption), *]; done) | (simp only [stM, setL_s, setL_t, setL_0, dropL_0, dropL_c]; (repeat' split) <;> first | with_reducible rfl | contradiction | (exfalso; omega) | (simp_all; done)) | rfl) (by first | with_reducible rfl | (simp [stM, setL_s, setL_t, setL_0, dropL_0, dropL_c, *]; done) | (simp [stM, fsL_at 6 hk28 (by assumption), *]; done) | (simp only [stM, setL_s, setL_t, setL_0, dropL_0, dropL_c]; (repeat' split) <;> first | with_reducible rfl | contradiction | (exfalso; omega) | (simp_all; done)) | rfl)
    · skip
      refine ro_iconst (v := nI 2) (q := 20) hX dX3_statusOf_19 rfl rfl ?_
      refine ro_goto (tgt := 24) hX dX3_statusOf_20 (by decide) ?_
      exact fin_i hF (Nat.le_of_ble_eq_true rfl) (Nat.le_of_ble_eq_true rfl) dX3_statusOf_24 (by first | with_reducible rfl | (simp [stM, setL_s, setL_t, setL_0, dropL_0, dropL_c, *]; done) | (simp [stM, fsL_at 6 hk28 (by assumption), *]; done) | (simp only [stM, setL_s, setL_t, setL_0, dropL_0, dropL_c]; (repeat' split) <;> first | with_reducible rfl | contradiction | (exfalso; omega) | (simp_all; done)) | rfl) (by first | with_reducible rfl | (simp [stM, setL_s, setL_t, setL_0, dropL_0, dropL_c, *]; done) | (simp [stM, fsL_at 6 hk28 (by assumption), *]; done) | (simp only [stM, setL_s, setL_t, setL_0, dropL_0, dropL_c]; (repeat' split) <;> first | with_reducible rfl | contradiction | (exfalso; omega) | (simp_all; done)) | rfl)
set_option maxRecDepth 20000 in
set_option maxHeartbeats 2000000 in
theorem m_counted {b : Nat} (hb : b ≤ 2448) {x : Int32} : Does sz I_X3_counted [.ref (sz + 75), .int (nI b), .int x] (patch G 75 4 (mS F s), T) 0 0 (.inl (some (nI (ctL s b x 30)))) (patch G 75 4 (mS F s), T) := by
  refine Does.of (L := [(0, .ref (sz + 75)), (1, .int (nI b)), (2, .int x)]) (by decide +kernel) (Nat.le_of_ble_eq_true rfl) rfl ⟨rfl, (by simp), ⟨rfl, (by simp), ⟨rfl, (by simp), trivial⟩⟩⟩ (fun VV hF => ?_)
  have hX := hF.c
  refine ro_iconst (v := nI 0) (q := 1) hX dX3_counted_0 rfl rfl ?_
  refine ro_istore_n (i := 3) (q := 2) hX dX3_counted_1 rfl (Nat.le_of_ble_eq_true rfl) rfl ?_
  refine ro_iconst (v := nI 0) (q := 3) hX dX3_counted_2 rfl rfl ?_
  refine ro_istore (i := 4) (q := 5) hX dX3_counted_3 (Nat.le_of_ble_eq_true rfl) rfl ?_
  refine vv_LM (L' := [(0, .ref (sz + 75)), (1, .int (nI b)), (2, .int (x)), (3, .int (nI (ctL s b x 0))), (4, .int (nI 0))]) (M' := (patch G 75 4 (mS F s), T)) (by first | with_reducible rfl | (simp [ctL, setL_s, setL_t, setL_0, dropL_0, dropL_c, *]; done) | (simp only [ctL, setL_s, setL_t, setL_0, dropL_0, dropL_c]; (repeat' split) <;> first | with_reducible rfl | contradiction | (exfalso; omega) | (simp_all; done)) | rfl) (by first | with_reducible rfl | (simp [ctL, setL_s, setL_t, setL_0, dropL_0, dropL_c, *]; done) | (simp only [ctL, setL_s, setL_t, setL_0, dropL_0, dropL_c]; (repeat' split) <;> first | with_reducible rfl | contradiction | (exfalso; omega) | (simp_all; done)) | rfl) ?_
  refine down_ind (P := fun k5 => VV 0 0 5 [(0, .ref (sz + 75)), (1, .int (nI b)), (2, .int (x)), (3, .int (nI (ctL s b x k5))), (4, .int (nI k5))] [] (patch G 75 4 (mS F s), T)) (30) (fun k5 hk5 ih5 => ?_) ?_
  · have ih5 : VV 0 0 5 [(0, .ref (sz + 75)), (1, .int (nI b)), (2, .int (x)), (3, .int (nI (ctL s b x (k5 + 1)))), (4, .int (nI (k5 + 1)))] [] (patch G 75 4 (mS F s), T) := ih5
    show VV 0 0 5 [(0, .ref (sz + 75)), (1, .int (nI b)), (2, .int (x)), (3, .int (nI (ctL s b x k5))), (4, .int (nI k5))] [] (patch G 75 4 (mS F s), T)
    refine ro_iload (i := 4) (q := 7) hX dX3_counted_5 rfl rfl ?_
    refine ro_bipush (v := nI 30) (q := 9) hX dX3_counted_7 rfl rfl ?_
    refine ro_icmp_ge (tgt := 47) (q := 12) hX dX3_counted_9 (by decide) rfl (fun q => absurd q (by first | exact ni_nle (by omega) (by omega) | exact ni_lt (by omega) (by omega))) (fun _ => ?_)
    refine ro_iload_n (i := 3) (q := 13) hX dX3_counted_12 rfl rfl rfl ?_
    refine ro_aload_n (i := 0) (q := 14) hX dX3_counted_13 rfl rfl rfl ?_
    refine ro_iload_n (i := 1) (q := 15) hX dX3_counted_14 rfl rfl rfl ?_
    refine ro_iload (i := 4) (q := 17) hX dX3_counted_15 rfl rfl ?_
    refine ro_callVi (q9 := 20) hX (m_isThere (by omega) (by omega)) mw_X3_isThere kl_X3_28 (by decide) (fun cy => cell3 (by decide +kernel)) rfl rfl rfl (Nat.le_of_ble_eq_true rfl) ⟨Nat.le_of_ble_eq_true rfl, Nat.le_of_ble_eq_true rfl⟩ dX3_counted_17 ⟨Nat.le_of_ble_eq_true rfl, Nat.le_of_ble_eq_true rfl⟩ rfl ?_
    refine ro_ifb_eq (tgt := 38) (q := 23) hX dX3_counted_20 (by decide) rfl (fun q1 => ?_) (fun q1 => ?_)
    · skip
      refine ro_iconst (v := nI 0) (q := 39) hX dX3_counted_38 rfl rfl ?_
      refine ro_iadd (q := 40) hX dX3_counted_39 rfl ?_
      refine vv_top (y := nI (ctL s b x k5 + 0)) (nI_add' rfl rfl) ?_
      refine ro_istore_n (i := 3) (q := 41) hX dX3_counted_40 rfl (Nat.le_of_ble_eq_true rfl) rfl ?_
      refine ro_iinc (i := 4) (v := nI (k5 + 1)) (q := 44) hX dX3_counted_41 rfl (ni_inc _) (Nat.le_of_ble_eq_true rfl) rfl ?_
      refine ro_goto (tgt := 5) hX dX3_counted_44 (by decide) ?_
      exact vv_LM (by first | with_reducible rfl | (simp [ctL, setL_s, setL_t, setL_0, dropL_0, dropL_c, *]; done) | (simp only [ctL, setL_s, setL_t, setL_0, dropL_0, dropL_c]; (repeat' split) <;> first | with_reducible rfl | contradiction | (exfalso; omega) | (simp_all; done)) | rfl) (by first | with_reducible rfl | (simp [ctL, setL_s, setL_t, setL_0, dropL_0, dropL_c, *]; done) | (simp only [ctL, setL_s, setL_t, setL_0, dropL_0, dropL_c]; (repeat' split) <;> first | with_reducible rfl | contradiction | (exfalso; omega) | (simp_all; done)) | rfl) ih5
    · skip
      refine ro_aload_n (i := 0) (q := 24) hX dX3_counted_23 rfl rfl rfl ?_
      refine ro_iload_n (i := 1) (q := 25) hX dX3_counted_24 rfl rfl rfl ?_
      refine ro_iload (i := 4) (q := 27) hX dX3_counted_25 rfl rfl ?_
      refine ro_callVi (q9 := 30) hX (m_statusOf (by omega) (by omega)) mw_X3_statusOf kl_X3_59 (by decide) (fun cy => cell3 (by decide +kernel)) rfl rfl rfl (Nat.le_of_ble_eq_true rfl) ⟨Nat.le_of_ble_eq_true rfl, Nat.le_of_ble_eq_true rfl⟩ dX3_counted_27 ⟨Nat.le_of_ble_eq_true rfl, Nat.le_of_ble_eq_true rfl⟩ rfl ?_
      refine ro_iload_n (i := 2) (q := 31) hX dX3_counted_30 rfl rfl rfl ?_
      refine ro_icmp_ne (tgt := 38) (q := 34) hX dX3_counted_31 (by decide) rfl (fun q2 => ?_) (fun q2 => ?_)
      · skip
        refine ro_iconst (v := nI 0) (q := 39) hX dX3_counted_38 rfl rfl ?_
        refine ro_iadd (q := 40) hX dX3_counted_39 rfl ?_
        refine vv_top (y := nI (ctL s b x k5 + 0)) (nI_add' rfl rfl) ?_
        refine ro_istore_n (i := 3) (q := 41) hX dX3_counted_40 rfl (Nat.le_of_ble_eq_true rfl) rfl ?_
        refine ro_iinc (i := 4) (v := nI (k5 + 1)) (q := 44) hX dX3_counted_41 rfl (ni_inc _) (Nat.le_of_ble_eq_true rfl) rfl ?_
        refine ro_goto (tgt := 5) hX dX3_counted_44 (by decide) ?_
        exact vv_LM (by first | with_reducible rfl | (simp [ctL, setL_s, setL_t, setL_0, dropL_0, dropL_c, *]; done) | (simp only [ctL, setL_s, setL_t, setL_0, dropL_0, dropL_c]; (repeat' split) <;> first | with_reducible rfl | contradiction | (exfalso; omega) | (simp_all; done)) | rfl) (by first | with_reducible rfl | (simp [ctL, setL_s, setL_t, setL_0, dropL_0, dropL_c, *]; done) | (simp only [ctL, setL_s, setL_t, setL_0, dropL_0, dropL_c]; (repeat' split) <;> first | with_reducible rfl | contradiction | (exfalso; omega) | (simp_all; done)) | rfl) ih5
      · skip
        refine ro_iconst (v := nI 1) (q := 35) hX dX3_counted_34 rfl rfl ?_
        refine ro_goto (tgt := 39) hX dX3_counted_35 (by decide) ?_
        refine ro_iadd (q := 40) hX dX3_counted_39 rfl ?_
        refine vv_top (y := nI (ctL s b x k5 + 1)) (nI_add' rfl rfl) ?_
        refine ro_istore_n (i := 3) (q := 41) hX dX3_counted_40 rfl (Nat.le_of_ble_eq_true rfl) rfl ?_
        refine ro_iinc (i := 4) (v := nI (k5 + 1)) (q := 44) hX dX3_counted_41 rfl (ni_inc _) (Nat.le_of_ble_eq_true rfl) rfl ?_
        refine ro_goto (tgt := 5) hX dX3_counted_44 (by decide) ?_
        exact vv_LM (by first | with_reducible rfl | (simp [ctL, setL_s, setL_t, setL_0, dropL_0, dropL_c, *]; done) | (simp only [ctL, setL_s, setL_t, setL_0, dropL_0, dropL_c]; (repeat' split) <;> first | with_reducible rfl | contradiction | (exfalso; omega) | (simp_all; done)) | rfl) (by first | with_reducible rfl | (simp [ctL, setL_s, setL_t, setL_0, dropL_0, dropL_c, *]; done) | (simp only [ctL, setL_s, setL_t, setL_0, dropL_0, dropL_c]; (repeat' split) <;> first | with_reducible rfl | contradiction | (exfalso; omega) | (simp_all; done)) | rfl) ih5
  · show VV 0 0 5 [(0, .ref (sz + 75)), (1, .int (nI b)), (2, .int (x)), (3, .int (nI (ctL s b x 30))), (4, .int (nI 30))] [] (patch G 75 4 (mS F s), T)
    refine ro_iload (i := 4) (q := 7) hX dX3_counted_5 rfl rfl ?_
    refine ro_bipush (v := nI 30) (q := 9) hX dX3_counted_7 rfl rfl ?_
    refine ro_icmp_ge (tgt := 47) (q := 12) hX dX3_counted_9 (by decide) rfl (fun _ => ?_) (fun q => absurd (by decide) q)
    refine ro_iload_n (i := 3) (q := 48) hX dX3_counted_47 rfl rfl rfl ?_
    exact fin_i hF (Nat.le_of_ble_eq_true rfl) (Nat.le_of_ble_eq_true rfl) dX3_counted_48 (by rfl) (by rfl)
set_option maxRecDepth 20000 in
set_option maxHeartbeats 2000000 in
theorem m_clears {b : Nat} (hb : b ≤ 2448) {h : Nat} (hh : h < 6) : Does sz I_X3_clears [.ref (sz + 75), .int (nI b), .int (nI h)] (patch G 75 4 (mS F s), T) 0 0 (.inl (some (nI (hdM s b h)))) (patch G 75 4 (mS F (clM s b h)), T) := by
  refine Does.of (L := [(0, .ref (sz + 75)), (1, .int (nI b)), (2, .int (nI h))]) (by decide +kernel) (Nat.le_of_ble_eq_true rfl) rfl ⟨rfl, (by simp), ⟨rfl, (by simp), ⟨rfl, (by simp), trivial⟩⟩⟩ (fun VV hF => ?_)
  have hX := hF.c
  refine ro_aload_n (i := 0) (q := 1) hX dX3_clears_0 rfl rfl rfl ?_
  refine ro_iload_n (i := 1) (q := 2) hX dX3_clears_1 rfl rfl rfl ?_
  refine ro_iload_n (i := 2) (q := 3) hX dX3_clears_2 rfl rfl rfl ?_
  refine ro_callVi (q9 := 6) hX (m_held (by omega) (by omega)) mw_X3_held kl_X3_39 (by decide) (fun cy => cell3 (by decide +kernel)) rfl rfl rfl (Nat.le_of_ble_eq_true rfl) ⟨Nat.le_of_ble_eq_true rfl, Nat.le_of_ble_eq_true rfl⟩ dX3_clears_3 ⟨Nat.le_of_ble_eq_true rfl, Nat.le_of_ble_eq_true rfl⟩ rfl ?_
  refine ro_istore_n (i := 3) (q := 7) hX dX3_clears_6 rfl (Nat.le_of_ble_eq_true rfl) rfl ?_
  refine ro_iconst (v := nI 0) (q := 8) hX dX3_clears_7 rfl rfl ?_
  refine ro_istore (i := 4) (q := 10) hX dX3_clears_8 (Nat.le_of_ble_eq_true rfl) rfl ?_
  refine vv_LM (L' := [(0, .ref (sz + 75)), (1, .int (nI b)), (2, .int (nI h)), (3, .int (nI (hdM s b h))), (4, .int (nI 0))]) (M' := (patch G 75 4 (mS F (clL s b h 0)), T)) (by rfl) (by rfl) ?_
  refine down_ind (P := fun k10 => VV 0 0 10 [(0, .ref (sz + 75)), (1, .int (nI b)), (2, .int (nI h)), (3, .int (nI (hdM s b h))), (4, .int (nI k10))] [] (patch G 75 4 (mS F (clL s b h k10)), T)) (30) (fun k10 hk10 ih10 => ?_) ?_
  · have ih10 : VV 0 0 10 [(0, .ref (sz + 75)), (1, .int (nI b)), (2, .int (nI h)), (3, .int (nI (hdM s b h))), (4, .int (nI (k10 + 1)))] [] (patch G 75 4 (mS F (clL s b h (k10 + 1))), T) := ih10
    show VV 0 0 10 [(0, .ref (sz + 75)), (1, .int (nI b)), (2, .int (nI h)), (3, .int (nI (hdM s b h))), (4, .int (nI k10))] [] (patch G 75 4 (mS F (clL s b h k10)), T)
    refine ro_iload (i := 4) (q := 12) hX dX3_clears_10 rfl rfl ?_
    refine ro_bipush (v := nI 30) (q := 14) hX dX3_clears_12 rfl rfl ?_
    refine ro_icmp_ge (tgt := 32) (q := 17) hX dX3_clears_14 (by decide) rfl (fun q => absurd q (by first | exact ni_nle (by omega) (by omega) | exact ni_lt (by omega) (by omega))) (fun _ => ?_)
    refine ro_aload_n (i := 0) (q := 18) hX dX3_clears_17 rfl rfl rfl ?_
    refine ro_iload_n (i := 1) (q := 19) hX dX3_clears_18 rfl rfl rfl ?_
    refine ro_iload_n (i := 2) (q := 20) hX dX3_clears_19 rfl rfl rfl ?_
    refine ro_iload (i := 4) (q := 22) hX dX3_clears_20 rfl rfl ?_
    refine ro_iconst (v := nI 0) (q := 23) hX dX3_clears_22 rfl rfl ?_
    refine ro_callVv (q9 := 26) hX (m_layReplica (by omega) (by omega) (by omega)) mw_X3_layReplica kl_X3_62 (by decide) (fun cy => cell3 (by decide +kernel)) rfl rfl rfl (Nat.le_of_ble_eq_true rfl) ⟨Nat.le_of_ble_eq_true rfl, Nat.le_of_ble_eq_true rfl⟩ dX3_clears_23 ⟨Nat.le_of_ble_eq_true rfl, Nat.le_of_ble_eq_true rfl⟩ rfl ?_
    refine ro_iinc (i := 4) (v := nI (k10 + 1)) (q := 29) hX dX3_clears_26 rfl (ni_inc _) (Nat.le_of_ble_eq_true rfl) rfl ?_
    refine ro_goto (tgt := 10) hX dX3_clears_29 (by decide) ?_
    exact vv_LM (by rfl) (by rfl) ih10
  · show VV 0 0 10 [(0, .ref (sz + 75)), (1, .int (nI b)), (2, .int (nI h)), (3, .int (nI (hdM s b h))), (4, .int (nI 30))] [] (patch G 75 4 (mS F (clL s b h 30)), T)
    refine ro_iload (i := 4) (q := 12) hX dX3_clears_10 rfl rfl ?_
    refine ro_bipush (v := nI 30) (q := 14) hX dX3_clears_12 rfl rfl ?_
    refine ro_icmp_ge (tgt := 32) (q := 17) hX dX3_clears_14 (by decide) rfl (fun _ => ?_) (fun q => absurd (by decide) q)
    refine ro_iload_n (i := 3) (q := 33) hX dX3_clears_32 rfl rfl rfl ?_
    exact fin_i hF (Nat.le_of_ble_eq_true rfl) (Nat.le_of_ble_eq_true rfl) dX3_clears_33 (by rfl) (by rfl)
set_option maxRecDepth 20000 in
set_option maxHeartbeats 2000000 in
theorem m_cancels_0 {b : Nat} (hb : b ≤ 2448) {h : Nat} (hh : h < 6) : Does sz I_X3_cancels [.ref (sz + 75), .int (nI b), .int (nI h), .int (nI 0)] (patch G 75 4 (mS F s), T) 0 0 (.inl none) (patch G 75 4 (mS F (caM s b h false)), T) := by
  refine Does.of (L := [(0, .ref (sz + 75)), (1, .int (nI b)), (2, .int (nI h)), (3, .int (nI 0))]) (by decide +kernel) (Nat.le_of_ble_eq_true rfl) rfl ⟨rfl, (by simp), ⟨rfl, (by simp), ⟨rfl, (by simp), ⟨rfl, (by simp), trivial⟩⟩⟩⟩ (fun VV hF => ?_)
  have hX := hF.c
  refine ro_aload_n (i := 0) (q := 1) hX dX3_cancels_0 rfl rfl rfl ?_
  refine ro_Nga1 (q9 := 4) hX kf_X3_7 dX3_cancels_1 rfl ?_
  refine ro_iload_n (i := 1) (q := 5) hX dX3_cancels_4 rfl rfl rfl ?_
  refine ro_bipush (v := nI 6) (q := 7) hX dX3_cancels_5 rfl rfl ?_
  refine ro_iadd (q := 8) hX dX3_cancels_7 rfl ?_
  refine vv_top (y := nI (b + 6)) (nI_add' rfl rfl) ?_
  refine ro_Nsld (n := b + 6) (q9 := 9) hX rfl (by omega) dX3_cancels_8 rfl ?_
  refine ro_iload_n (i := 2) (q := 10) hX dX3_cancels_9 rfl rfl rfl ?_
  refine ro_icmp_eq (tgt := 29) (q := 13) hX dX3_cancels_10 (by decide) rfl (fun q1 => ?_) (fun q1 => ?_)
  · skip
    refine ro_iconst (v := nI 1) (q := 30) hX dX3_cancels_29 rfl rfl ?_
    refine ro_goto (tgt := 34) hX dX3_cancels_30 (by decide) ?_
    refine ro_istore (i := 4) (q := 36) hX dX3_cancels_34 (Nat.le_of_ble_eq_true rfl) rfl ?_
    refine ro_aload_n (i := 0) (q := 37) hX dX3_cancels_36 rfl rfl rfl ?_
    refine ro_Nga1 (q9 := 40) hX kf_X3_7 dX3_cancels_37 rfl ?_
    refine ro_iload_n (i := 1) (q := 41) hX dX3_cancels_40 rfl rfl rfl ?_
    refine ro_iconst (v := nI 4) (q := 42) hX dX3_cancels_41 rfl rfl ?_
    refine ro_iadd (q := 43) hX dX3_cancels_42 rfl ?_
    refine vv_top (y := nI (b + 4)) (nI_add' rfl rfl) ?_
    refine ro_iload (i := 4) (q := 45) hX dX3_cancels_43 rfl rfl ?_
    refine ro_if_eq (tgt := 52) (q := 48) hX dX3_cancels_45 (by decide) rfl (fun q => absurd q (by decide)) (fun _ => ?_)
    refine ro_iconst (v := (-1)) (q := 49) hX dX3_cancels_48 rfl rfl ?_
    refine ro_goto (tgt := 60) hX dX3_cancels_49 (by decide) ?_
    refine ro_Nsst (n := b + 4) (q9 := 61) hX rfl (by omega) dX3_cancels_60 rfl ?_
    exact fin_v hF (Nat.le_of_ble_eq_true rfl) (Nat.le_of_ble_eq_true rfl) dX3_cancels_61 (by first | with_reducible rfl | (simp [caM, setL_s, setL_t, setL_0, dropL_0, dropL_c, *]; done) | (simp only [caM, setL_s, setL_t, setL_0, dropL_0, dropL_c]; (repeat' split) <;> first | with_reducible rfl | contradiction | (exfalso; omega) | (simp_all; done)) | rfl)
  · skip
    refine ro_iload_n (i := 3) (q := 14) hX dX3_cancels_13 rfl rfl rfl ?_
    refine ro_if_eq (tgt := 33) (q := 17) hX dX3_cancels_14 (by decide) rfl (fun _ => ?_) (fun q => absurd (by decide) q)
    refine ro_iconst (v := nI 0) (q := 34) hX dX3_cancels_33 rfl rfl ?_
    refine ro_istore (i := 4) (q := 36) hX dX3_cancels_34 (Nat.le_of_ble_eq_true rfl) rfl ?_
    refine ro_aload_n (i := 0) (q := 37) hX dX3_cancels_36 rfl rfl rfl ?_
    refine ro_Nga1 (q9 := 40) hX kf_X3_7 dX3_cancels_37 rfl ?_
    refine ro_iload_n (i := 1) (q := 41) hX dX3_cancels_40 rfl rfl rfl ?_
    refine ro_iconst (v := nI 4) (q := 42) hX dX3_cancels_41 rfl rfl ?_
    refine ro_iadd (q := 43) hX dX3_cancels_42 rfl ?_
    refine vv_top (y := nI (b + 4)) (nI_add' rfl rfl) ?_
    refine ro_iload (i := 4) (q := 45) hX dX3_cancels_43 rfl rfl ?_
    refine ro_if_eq (tgt := 52) (q := 48) hX dX3_cancels_45 (by decide) rfl (fun _ => ?_) (fun q => absurd (by decide) q)
    refine ro_aload_n (i := 0) (q := 53) hX dX3_cancels_52 rfl rfl rfl ?_
    refine ro_Nga1 (q9 := 56) hX kf_X3_7 dX3_cancels_53 rfl ?_
    refine ro_iload_n (i := 1) (q := 57) hX dX3_cancels_56 rfl rfl rfl ?_
    refine ro_iconst (v := nI 4) (q := 58) hX dX3_cancels_57 rfl rfl ?_
    refine ro_iadd (q := 59) hX dX3_cancels_58 rfl ?_
    refine vv_top (y := nI (b + 4)) (nI_add' rfl rfl) ?_
    refine ro_Nsld (n := b + 4) (q9 := 60) hX rfl (by omega) dX3_cancels_59 rfl ?_
    refine ro_Nsst (n := b + 4) (q9 := 61) hX rfl (by omega) dX3_cancels_60 rfl ?_
    exact fin_v hF (Nat.le_of_ble_eq_true rfl) (Nat.le_of_ble_eq_true rfl) dX3_cancels_61 (by first | with_reducible rfl | (simp [caM, setL_s, setL_t, setL_0, dropL_0, dropL_c, *]; done) | (simp only [caM, setL_s, setL_t, setL_0, dropL_0, dropL_c]; (repeat' split) <;> first | with_reducible rfl | contradiction | (exfalso; omega) | (simp_all; done)) | rfl)
set_option maxRecDepth 20000 in
set_option maxHeartbeats 2000000 in
theorem m_cancels_1 {b : Nat} (hb : b ≤ 2448) {h : Nat} (hh : h < 6) : Does sz I_X3_cancels [.ref (sz + 75), .int (nI b), .int (nI h), .int (nI 1)] (patch G 75 4 (mS F s), T) 0 0 (.inl none) (patch G 75 4 (mS F (caM s b h true)), T) := by
  refine Does.of (L := [(0, .ref (sz + 75)), (1, .int (nI b)), (2, .int (nI h)), (3, .int (nI 1))]) (by decide +kernel) (Nat.le_of_ble_eq_true rfl) rfl ⟨rfl, (by simp), ⟨rfl, (by simp), ⟨rfl, (by simp), ⟨rfl, (by simp), trivial⟩⟩⟩⟩ (fun VV hF => ?_)
  have hX := hF.c
  refine ro_aload_n (i := 0) (q := 1) hX dX3_cancels_0 rfl rfl rfl ?_
  refine ro_Nga1 (q9 := 4) hX kf_X3_7 dX3_cancels_1 rfl ?_
  refine ro_iload_n (i := 1) (q := 5) hX dX3_cancels_4 rfl rfl rfl ?_
  refine ro_bipush (v := nI 6) (q := 7) hX dX3_cancels_5 rfl rfl ?_
  refine ro_iadd (q := 8) hX dX3_cancels_7 rfl ?_
  refine vv_top (y := nI (b + 6)) (nI_add' rfl rfl) ?_
  refine ro_Nsld (n := b + 6) (q9 := 9) hX rfl (by omega) dX3_cancels_8 rfl ?_
  refine ro_iload_n (i := 2) (q := 10) hX dX3_cancels_9 rfl rfl rfl ?_
  refine ro_icmp_eq (tgt := 29) (q := 13) hX dX3_cancels_10 (by decide) rfl (fun q1 => ?_) (fun q1 => ?_)
  · skip
    refine ro_iconst (v := nI 1) (q := 30) hX dX3_cancels_29 rfl rfl ?_
    refine ro_goto (tgt := 34) hX dX3_cancels_30 (by decide) ?_
    refine ro_istore (i := 4) (q := 36) hX dX3_cancels_34 (Nat.le_of_ble_eq_true rfl) rfl ?_
    refine ro_aload_n (i := 0) (q := 37) hX dX3_cancels_36 rfl rfl rfl ?_
    refine ro_Nga1 (q9 := 40) hX kf_X3_7 dX3_cancels_37 rfl ?_
    refine ro_iload_n (i := 1) (q := 41) hX dX3_cancels_40 rfl rfl rfl ?_
    refine ro_iconst (v := nI 4) (q := 42) hX dX3_cancels_41 rfl rfl ?_
    refine ro_iadd (q := 43) hX dX3_cancels_42 rfl ?_
    refine vv_top (y := nI (b + 4)) (nI_add' rfl rfl) ?_
    refine ro_iload (i := 4) (q := 45) hX dX3_cancels_43 rfl rfl ?_
    refine ro_if_eq (tgt := 52) (q := 48) hX dX3_cancels_45 (by decide) rfl (fun q => absurd q (by decide)) (fun _ => ?_)
    refine ro_iconst (v := (-1)) (q := 49) hX dX3_cancels_48 rfl rfl ?_
    refine ro_goto (tgt := 60) hX dX3_cancels_49 (by decide) ?_
    refine ro_Nsst (n := b + 4) (q9 := 61) hX rfl (by omega) dX3_cancels_60 rfl ?_
    exact fin_v hF (Nat.le_of_ble_eq_true rfl) (Nat.le_of_ble_eq_true rfl) dX3_cancels_61 (by first | with_reducible rfl | (simp [caM, setL_s, setL_t, setL_0, dropL_0, dropL_c, *]; done) | (simp only [caM, setL_s, setL_t, setL_0, dropL_0, dropL_c]; (repeat' split) <;> first | with_reducible rfl | contradiction | (exfalso; omega) | (simp_all; done)) | rfl)
  · skip
    refine ro_iload_n (i := 3) (q := 14) hX dX3_cancels_13 rfl rfl rfl ?_
    refine ro_if_eq (tgt := 33) (q := 17) hX dX3_cancels_14 (by decide) rfl (fun q => absurd q (by decide)) (fun _ => ?_)
    refine ro_aload_n (i := 0) (q := 18) hX dX3_cancels_17 rfl rfl rfl ?_
    refine ro_Nga1 (q9 := 21) hX kf_X3_7 dX3_cancels_18 rfl ?_
    refine ro_iload_n (i := 1) (q := 22) hX dX3_cancels_21 rfl rfl rfl ?_
    refine ro_iconst (v := nI 5) (q := 23) hX dX3_cancels_22 rfl rfl ?_
    refine ro_iadd (q := 24) hX dX3_cancels_23 rfl ?_
    refine vv_top (y := nI (b + 5)) (nI_add' rfl rfl) ?_
    refine ro_Nsld (n := b + 5) (q9 := 25) hX rfl (by omega) dX3_cancels_24 rfl ?_
    refine ro_iload_n (i := 2) (q := 26) hX dX3_cancels_25 rfl rfl rfl ?_
    refine ro_icmp_ne (tgt := 33) (q := 29) hX dX3_cancels_26 (by decide) rfl (fun q2 => ?_) (fun q2 => ?_)
    · skip
      refine ro_iconst (v := nI 0) (q := 34) hX dX3_cancels_33 rfl rfl ?_
      refine ro_istore (i := 4) (q := 36) hX dX3_cancels_34 (Nat.le_of_ble_eq_true rfl) rfl ?_
      refine ro_aload_n (i := 0) (q := 37) hX dX3_cancels_36 rfl rfl rfl ?_
      refine ro_Nga1 (q9 := 40) hX kf_X3_7 dX3_cancels_37 rfl ?_
      refine ro_iload_n (i := 1) (q := 41) hX dX3_cancels_40 rfl rfl rfl ?_
      refine ro_iconst (v := nI 4) (q := 42) hX dX3_cancels_41 rfl rfl ?_
      refine ro_iadd (q := 43) hX dX3_cancels_42 rfl ?_
      refine vv_top (y := nI (b + 4)) (nI_add' rfl rfl) ?_
      refine ro_iload (i := 4) (q := 45) hX dX3_cancels_43 rfl rfl ?_
      refine ro_if_eq (tgt := 52) (q := 48) hX dX3_cancels_45 (by decide) rfl (fun _ => ?_) (fun q => absurd (by decide) q)
      refine ro_aload_n (i := 0) (q := 53) hX dX3_cancels_52 rfl rfl rfl ?_
      refine ro_Nga1 (q9 := 56) hX kf_X3_7 dX3_cancels_53 rfl ?_
      refine ro_iload_n (i := 1) (q := 57) hX dX3_cancels_56 rfl rfl rfl ?_
      refine ro_iconst (v := nI 4) (q := 58) hX dX3_cancels_57 rfl rfl ?_
      refine ro_iadd (q := 59) hX dX3_cancels_58 rfl ?_
      refine vv_top (y := nI (b + 4)) (nI_add' rfl rfl) ?_
      refine ro_Nsld (n := b + 4) (q9 := 60) hX rfl (by omega) dX3_cancels_59 rfl ?_
      refine ro_Nsst (n := b + 4) (q9 := 61) hX rfl (by omega) dX3_cancels_60 rfl ?_
      exact fin_v hF (Nat.le_of_ble_eq_true rfl) (Nat.le_of_ble_eq_true rfl) dX3_cancels_61 (by first | with_reducible rfl | (simp [caM, setL_s, setL_t, setL_0, dropL_0, dropL_c, *]; done) | (simp only [caM, setL_s, setL_t, setL_0, dropL_0, dropL_c]; (repeat' split) <;> first | with_reducible rfl | contradiction | (exfalso; omega) | (simp_all; done)) | rfl)
    · skip
      refine ro_iconst (v := nI 1) (q := 30) hX dX3_cancels_29 rfl rfl ?_
      refine ro_goto (tgt := 34) hX dX3_cancels_30 (by decide) ?_
      refine ro_istore (i := 4) (q := 36) hX dX3_cancels_34 (Nat.le_of_ble_eq_true rfl) rfl ?_
      refine ro_aload_n (i := 0) (q := 37) hX dX3_cancels_36 rfl rfl rfl ?_
      refine ro_Nga1 (q9 := 40) hX kf_X3_7 dX3_cancels_37 rfl ?_
      refine ro_iload_n (i := 1) (q := 41) hX dX3_cancels_40 rfl rfl rfl ?_
      refine ro_iconst (v := nI 4) (q := 42) hX dX3_cancels_41 rfl rfl ?_
      refine ro_iadd (q := 43) hX dX3_cancels_42 rfl ?_
      refine vv_top (y := nI (b + 4)) (nI_add' rfl rfl) ?_
      refine ro_iload (i := 4) (q := 45) hX dX3_cancels_43 rfl rfl ?_
      refine ro_if_eq (tgt := 52) (q := 48) hX dX3_cancels_45 (by decide) rfl (fun q => absurd q (by decide)) (fun _ => ?_)
      refine ro_iconst (v := (-1)) (q := 49) hX dX3_cancels_48 rfl rfl ?_
      refine ro_goto (tgt := 60) hX dX3_cancels_49 (by decide) ?_
      refine ro_Nsst (n := b + 4) (q9 := 61) hX rfl (by omega) dX3_cancels_60 rfl ?_
      exact fin_v hF (Nat.le_of_ble_eq_true rfl) (Nat.le_of_ble_eq_true rfl) dX3_cancels_61 (by first | with_reducible rfl | (simp [caM, setL_s, setL_t, setL_0, dropL_0, dropL_c, *]; done) | (simp only [caM, setL_s, setL_t, setL_0, dropL_0, dropL_c]; (repeat' split) <;> first | with_reducible rfl | contradiction | (exfalso; omega) | (simp_all; done)) | rfl)
set_option maxRecDepth 20000 in
set_option maxHeartbeats 2000000 in
theorem m_classOf {b : Nat} (hb : b ≤ 2448) {p : Nat} (hp : p < 30) {h : Nat} (hh : h < 6) : Does sz I_X3_classOf [.ref (sz + 75), .int (nI b), .int (nI p), .int (nI h)] (patch G 75 4 (mS F s), T) 0 0 (.inl (some (nI (clsM s b p h)))) (patch G 75 4 (mS F s), T) := by
  refine Does.of (L := [(0, .ref (sz + 75)), (1, .int (nI b)), (2, .int (nI p)), (3, .int (nI h))]) (by decide +kernel) (Nat.le_of_ble_eq_true rfl) rfl ⟨rfl, (by simp), ⟨rfl, (by simp), ⟨rfl, (by simp), ⟨rfl, (by simp), trivial⟩⟩⟩⟩ (fun VV hF => ?_)
  have hX := hF.c
  refine ro_aload_n (i := 0) (q := 1) hX dX3_classOf_0 rfl rfl rfl ?_
  refine ro_iload_n (i := 1) (q := 2) hX dX3_classOf_1 rfl rfl rfl ?_
  refine ro_iload_n (i := 2) (q := 3) hX dX3_classOf_2 rfl rfl rfl ?_
  refine ro_callVi (q9 := 6) hX (m_copiesOf (by omega) (by omega)) mw_X3_copiesOf kl_X3_49 (by decide) (fun cy => cell3 (by decide +kernel)) rfl rfl rfl (Nat.le_of_ble_eq_true rfl) ⟨Nat.le_of_ble_eq_true rfl, Nat.le_of_ble_eq_true rfl⟩ dX3_classOf_3 ⟨Nat.le_of_ble_eq_true rfl, Nat.le_of_ble_eq_true rfl⟩ rfl ?_
  refine ro_istore (i := 4) (q := 8) hX dX3_classOf_6 (Nat.le_of_ble_eq_true rfl) rfl ?_
  refine ro_iload (i := 4) (q := 10) hX dX3_classOf_8 rfl rfl ?_
  refine ro_iload_n (i := 3) (q := 11) hX dX3_classOf_10 rfl rfl rfl ?_
  refine ro_ishr (q := 12) hX dX3_classOf_11 rfl ?_
  refine ro_iconst (v := nI 1) (q := 13) hX dX3_classOf_12 rfl rfl ?_
  refine ro_iand (q := 14) hX dX3_classOf_13 rfl ?_
  refine ro_if_eq (tgt := 27) (q := 17) hX dX3_classOf_14 (by decide) rfl (fun q1 => ?_) (fun q1 => ?_)
  · skip
    refine ro_iconst (v := nI 0) (q := 28) hX dX3_classOf_27 rfl rfl ?_
    exact fin_i hF (Nat.le_of_ble_eq_true rfl) (Nat.le_of_ble_eq_true rfl) dX3_classOf_28 (by first | with_reducible rfl | (simp [clsM, setL_s, setL_t, setL_0, dropL_0, dropL_c, *]; done) | (simp only [clsM, setL_s, setL_t, setL_0, dropL_0, dropL_c]; (repeat' split) <;> first | with_reducible rfl | contradiction | (exfalso; omega) | (simp_all; done)) | rfl) (by first | with_reducible rfl | (simp [clsM, setL_s, setL_t, setL_0, dropL_0, dropL_c, *]; done) | (simp only [clsM, setL_s, setL_t, setL_0, dropL_0, dropL_c]; (repeat' split) <;> first | with_reducible rfl | contradiction | (exfalso; omega) | (simp_all; done)) | rfl)
  · skip
    refine ro_aload_n (i := 0) (q := 18) hX dX3_classOf_17 rfl rfl rfl ?_
    refine ro_iload_n (i := 1) (q := 19) hX dX3_classOf_18 rfl rfl rfl ?_
    refine ro_iload_n (i := 2) (q := 20) hX dX3_classOf_19 rfl rfl rfl ?_
    refine ro_callVi (q9 := 23) hX (m_bestHost (by omega) (by omega)) mw_X3_bestHost kl_X3_66 (by decide) (fun cy => cell3 (by decide +kernel)) rfl rfl rfl (Nat.le_of_ble_eq_true rfl) ⟨Nat.le_of_ble_eq_true rfl, Nat.le_of_ble_eq_true rfl⟩ dX3_classOf_20 ⟨Nat.le_of_ble_eq_true rfl, Nat.le_of_ble_eq_true rfl⟩ rfl ?_
    refine ro_iconst (v := (-1)) (q := 24) hX dX3_classOf_23 rfl rfl ?_
    refine ro_icmp_ne (tgt := 29) (q := 27) hX dX3_classOf_24 (by decide) rfl (fun q2 => ?_) (fun q2 => ?_)
    · rw [oNm] at q2
      refine ro_aload_n (i := 0) (q := 30) hX dX3_classOf_29 rfl rfl rfl ?_
      refine ro_iload_n (i := 1) (q := 31) hX dX3_classOf_30 rfl rfl rfl ?_
      refine ro_iload_n (i := 3) (q := 32) hX dX3_classOf_31 rfl rfl rfl ?_
      refine ro_iconst (v := nI 0) (q := 33) hX dX3_classOf_32 rfl rfl ?_
      refine ro_callVi (q9 := 36) hX (m_of (by omega) (by omega) (by omega)) mw_X3_of kl_X3_36 (by decide) (fun cy => cell3 (by decide +kernel)) rfl rfl rfl (Nat.le_of_ble_eq_true rfl) ⟨Nat.le_of_ble_eq_true rfl, Nat.le_of_ble_eq_true rfl⟩ dX3_classOf_33 ⟨Nat.le_of_ble_eq_true rfl, Nat.le_of_ble_eq_true rfl⟩ rfl ?_
      refine ro_iconst (v := nI 2) (q := 37) hX dX3_classOf_36 rfl rfl ?_
      refine ro_icmp_ne (tgt := 44) (q := 40) hX dX3_classOf_37 (by decide) rfl (fun q3 => ?_) (fun q3 => ?_)
      · skip
        refine ro_iconst (v := nI 0) (q := 45) hX dX3_classOf_44 rfl rfl ?_
        refine ro_istore (i := 5) (q := 47) hX dX3_classOf_45 (Nat.le_of_ble_eq_true rfl) rfl ?_
        refine ro_iload (i := 4) (q := 49) hX dX3_classOf_47 rfl rfl ?_
        refine ro_callSi (q9 := 52) hX (m_ones) mw_X3_ones kl_X3_52 rfl rfl (Nat.le_of_ble_eq_true rfl) ⟨Nat.le_of_ble_eq_true rfl, Nat.le_of_ble_eq_true rfl⟩ dX3_classOf_49 ⟨Nat.le_of_ble_eq_true rfl, Nat.le_of_ble_eq_true rfl⟩ rfl ?_
        refine ro_iconst (v := nI 1) (q := 53) hX dX3_classOf_52 rfl rfl ?_
        refine ro_icmp_ne (tgt := 69) (q := 56) hX dX3_classOf_53 (by decide) rfl (fun q4 => ?_) (fun q4 => ?_)
        · skip
          refine ro_iload (i := 5) (q := 71) hX dX3_classOf_69 rfl rfl ?_
          refine ro_if_eq (tgt := 78) (q := 74) hX dX3_classOf_71 (by decide) rfl (fun _ => ?_) (fun q => absurd (by decide) q)
          refine ro_iconst (v := nI 0) (q := 79) hX dX3_classOf_78 rfl rfl ?_
          exact fin_i hF (Nat.le_of_ble_eq_true rfl) (Nat.le_of_ble_eq_true rfl) dX3_classOf_79 (by first | with_reducible rfl | (simp [clsM, setL_s, setL_t, setL_0, dropL_0, dropL_c, *]; done) | (simp only [clsM, setL_s, setL_t, setL_0, dropL_0, dropL_c]; (repeat' split) <;> first | with_reducible rfl | contradiction | (exfalso; omega) | (simp_all; done)) | rfl) (by first | with_reducible rfl | (simp [clsM, setL_s, setL_t, setL_0, dropL_0, dropL_c, *]; done) | (simp only [clsM, setL_s, setL_t, setL_0, dropL_0, dropL_c]; (repeat' split) <;> first | with_reducible rfl | contradiction | (exfalso; omega) | (simp_all; done)) | rfl)
        · skip
          refine ro_iload (i := 5) (q := 58) hX dX3_classOf_56 rfl rfl ?_
          refine ro_if_eq (tgt := 65) (q := 61) hX dX3_classOf_58 (by decide) rfl (fun _ => ?_) (fun q => absurd (by decide) q)
          refine ro_iconst (v := nI 2) (q := 66) hX dX3_classOf_65 rfl rfl ?_
          refine ro_goto (tgt := 79) hX dX3_classOf_66 (by decide) ?_
          exact fin_i hF (Nat.le_of_ble_eq_true rfl) (Nat.le_of_ble_eq_true rfl) dX3_classOf_79 (by first | with_reducible rfl | (simp [clsM, setL_s, setL_t, setL_0, dropL_0, dropL_c, *]; done) | (simp only [clsM, setL_s, setL_t, setL_0, dropL_0, dropL_c]; (repeat' split) <;> first | with_reducible rfl | contradiction | (exfalso; omega) | (simp_all; done)) | rfl) (by first | with_reducible rfl | (simp [clsM, setL_s, setL_t, setL_0, dropL_0, dropL_c, *]; done) | (simp only [clsM, setL_s, setL_t, setL_0, dropL_0, dropL_c]; (repeat' split) <;> first | with_reducible rfl | contradiction | (exfalso; omega) | (simp_all; done)) | rfl)
      · skip
        refine ro_iconst (v := nI 1) (q := 41) hX dX3_classOf_40 rfl rfl ?_
        refine ro_goto (tgt := 45) hX dX3_classOf_41 (by decide) ?_
        refine ro_istore (i := 5) (q := 47) hX dX3_classOf_45 (Nat.le_of_ble_eq_true rfl) rfl ?_
        refine ro_iload (i := 4) (q := 49) hX dX3_classOf_47 rfl rfl ?_
        refine ro_callSi (q9 := 52) hX (m_ones) mw_X3_ones kl_X3_52 rfl rfl (Nat.le_of_ble_eq_true rfl) ⟨Nat.le_of_ble_eq_true rfl, Nat.le_of_ble_eq_true rfl⟩ dX3_classOf_49 ⟨Nat.le_of_ble_eq_true rfl, Nat.le_of_ble_eq_true rfl⟩ rfl ?_
        refine ro_iconst (v := nI 1) (q := 53) hX dX3_classOf_52 rfl rfl ?_
        refine ro_icmp_ne (tgt := 69) (q := 56) hX dX3_classOf_53 (by decide) rfl (fun q5 => ?_) (fun q5 => ?_)
        · skip
          refine ro_iload (i := 5) (q := 71) hX dX3_classOf_69 rfl rfl ?_
          refine ro_if_eq (tgt := 78) (q := 74) hX dX3_classOf_71 (by decide) rfl (fun q => absurd q (by decide)) (fun _ => ?_)
          refine ro_iconst (v := nI 3) (q := 75) hX dX3_classOf_74 rfl rfl ?_
          refine ro_goto (tgt := 79) hX dX3_classOf_75 (by decide) ?_
          exact fin_i hF (Nat.le_of_ble_eq_true rfl) (Nat.le_of_ble_eq_true rfl) dX3_classOf_79 (by first | with_reducible rfl | (simp [clsM, setL_s, setL_t, setL_0, dropL_0, dropL_c, *]; done) | (simp only [clsM, setL_s, setL_t, setL_0, dropL_0, dropL_c]; (repeat' split) <;> first | with_reducible rfl | contradiction | (exfalso; omega) | (simp_all; done)) | rfl) (by first | with_reducible rfl | (simp [clsM, setL_s, setL_t, setL_0, dropL_0, dropL_c, *]; done) | (simp only [clsM, setL_s, setL_t, setL_0, dropL_0, dropL_c]; (repeat' split) <;> first | with_reducible rfl | contradiction | (exfalso; omega) | (simp_all; done)) | rfl)
        · skip
          refine ro_iload (i := 5) (q := 58) hX dX3_classOf_56 rfl rfl ?_
          refine ro_if_eq (tgt := 65) (q := 61) hX dX3_classOf_58 (by decide) rfl (fun q => absurd q (by decide)) (fun _ => ?_)
          refine ro_iconst (v := nI 1) (q := 62) hX dX3_classOf_61 rfl rfl ?_
          refine ro_goto (tgt := 79) hX dX3_classOf_62 (by decide) ?_
          exact fin_i hF (Nat.le_of_ble_eq_true rfl) (Nat.le_of_ble_eq_true rfl) dX3_classOf_79 (by first | with_reducible rfl | (simp [clsM, setL_s, setL_t, setL_0, dropL_0, dropL_c, *]; done) | (simp only [clsM, setL_s, setL_t, setL_0, dropL_0, dropL_c]; (repeat' split) <;> first | with_reducible rfl | contradiction | (exfalso; omega) | (simp_all; done)) | rfl) (by first | with_reducible rfl | (simp [clsM, setL_s, setL_t, setL_0, dropL_0, dropL_c, *]; done) | (simp only [clsM, setL_s, setL_t, setL_0, dropL_0, dropL_c]; (repeat' split) <;> first | with_reducible rfl | contradiction | (exfalso; omega) | (simp_all; done)) | rfl)
    · rw [oNm] at q2
      refine ro_iconst (v := nI 0) (q := 28) hX dX3_classOf_27 rfl rfl ?_
      exact fin_i hF (Nat.le_of_ble_eq_true rfl) (Nat.le_of_ble_eq_true rfl) dX3_classOf_28 (by first | with_reducible rfl | (simp [clsM, setL_s, setL_t, setL_0, dropL_0, dropL_c, *]; done) | (simp only [clsM, setL_s, setL_t, setL_0, dropL_0, dropL_c]; (repeat' split) <;> first | with_reducible rfl | contradiction | (exfalso; omega) | (simp_all; done)) | rfl) (by first | with_reducible rfl | (simp [clsM, setL_s, setL_t, setL_0, dropL_0, dropL_c, *]; done) | (simp only [clsM, setL_s, setL_t, setL_0, dropL_0, dropL_c]; (repeat' split) <;> first | with_reducible rfl | contradiction | (exfalso; omega) | (simp_all; done)) | rfl)
end
