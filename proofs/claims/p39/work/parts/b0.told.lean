/-! the law's small methods; what 'told' tells of a State -/
def upN (v : Int32) (n : Nat) : Nat := cN (v &&& nI 2147483647) % n
theorem and_top {v : Int32} : ∃ a, a < 2147483648 ∧ v &&& nI 2147483647 = nI a := by
  refine ⟨(v.toBitVec &&& (nI 2147483647).toBitVec).toNat, ?_, ?_⟩
  · rw [BitVec.toNat_and]
    exact Nat.lt_of_le_of_lt Nat.and_le_right (by decide +kernel)
  · apply Int32.toBitVec_inj.mp
    rw [Int32.toBitVec_and]
    show _ = BitVec.ofNat 32 _
    rw [BitVec.ofNat_toNat, BitVec.setWidth_eq]
def rpV (f : SV) (h p : Nat) : Int32 := if tb (f 4 h) (nI p) then nI 1 else if tb (f 5 h) (nI p) then nI 2 else nI 0
def dlV (f : SV) (h : Nat) : Int32 := if f 1 h = nI 2 then f 3 h - f 0 8 else -1
def cnV (f : SV) (h : Nat) : Int32 := if tb (f 0 7) (nI h) then nI 1 else nI 0
def rdV (f : SV) (p : Nat) : Int32 := if cpS f p = 0 then -7 else f 6 p
def trV (f : SV) (i : Nat) : Int32 := if f 0 11 = -1 then -1 else if i = 0 then f 0 11 else if i = 1 then f 0 12 else if i = 2 then f 0 13 else f 0 14 - f 0 8
def tA (f : SV) : Nat → Int64
  | 0 => 41 + (f 0 8).toInt64
  | k + 1 => 31 * (31 * (31 * (31 * (31 * tA f k + (f 1 k).toInt64) + (usS f k).toInt64) + (rmS f k).toInt64) + (dlV f k).toInt64) + (cnV f k).toInt64
def tC (f : SV) (p : Nat) (a : Int64) : Nat → Int64
  | 0 => a
  | h + 1 => 3 * tC f p a h + (rpV f h p).toInt64
def tB (f : SV) : Nat → Int64
  | 0 => tA f 6
  | p + 1 => tC f p (31 * (31 * tB f p + (stS f p).toInt64) + (rdV f p).toInt64) 6
def tD (f : SV) : Nat → Int64
  | 0 => tB f 10
  | k + 1 => 31 * tD f k + (trV f k).toInt64
def toldV (f : SV) : Int64 := 31 * tD f 4 + (f 0 10).toInt64
section
variable {sz : Nat} {G : Nat → Nat → Int32} {T : (Nat → Nat) × Int64} {f : SV}
theorem x_rep {h : Nat} (hh : h < 6) {p : Nat} (hp : p < 30) : Does sz I_X2_replica [.ref (sz + 0), .int (nI h), .int (nI p)] (patch G 1 7 f, T) 0 0 (.inl (some (rpV f h p))) (patch G 1 7 f, T) := x_replica hh hp
theorem x_dl {h : Nat} (hh : h < 6) : Does sz I_X2_deadlineIn [.ref (sz + 0), .int (nI h)] (patch G 1 7 f, T) 0 0 (.inl (some (dlV f h))) (patch G 1 7 f, T) := x_deadlineIn hh
theorem x_tr {i : Nat} (hi : i < 4) : Does sz I_X2_transfer [.ref (sz + 0), .int (nI i)] (patch G 1 7 f, T) 0 0 (.inl (some (trV f i))) (patch G 1 7 f, T) := by
  have : i = 0 ∨ i = 1 ∨ i = 2 ∨ i = 3 := by omega
  rcases this with rfl | rfl | rfl | rfl
  · exact x_transfer_w0
  · exact x_transfer_w1
  · exact x_transfer_w2
  · exact x_transfer_w3
set_option maxRecDepth 20000 in
set_option maxHeartbeats 2000000 in
theorem l_up {M : Mem} {x : Int32} {n : Nat} (h0 : 0 < n) (hn : n < 2147483648) : Does sz I_L_up [.int x, .int (nI n)] M 0 0 (.inl (some (nI (upN x n)))) M := by
  obtain ⟨a, ha, ea⟩ := and_top (v := x)
  have hne : ¬ nI n = 0 := ni_ne (b := 0) (by omega) hn (by decide)
  have eu : upN x n = a % n := by unfold upN; rw [ea, cN_n ha]
  rw [eu]
  refine Does.of (L := [(0, .int x), (1, .int (nI n))]) (by decide +kernel) (Nat.le_of_ble_eq_true rfl) rfl ⟨rfl, (by simp), ⟨rfl, (by simp), trivial⟩⟩ (fun VV hF => ?_)
  have hX := hF.c
  refine ro_iload_n (i := 0) (q := 1) hX dL_up_0 rfl rfl rfl ?_
  refine ro_ldc (v := nI 2147483647) (q := 3) hX kc_L_8 dL_up_1 rfl ?_
  refine ro_iand (q := 4) hX dL_up_3 rfl ?_
  refine vv_top (y := (nI a)) (ea) ?_
  refine ro_iload_n (i := 1) (q := 5) hX dL_up_4 rfl rfl rfl ?_
  refine ro_irem (v := nI (a % n)) (q := 6) hX dL_up_5 (by first | assumption | exact ni_ne (by omega) (by omega) (by omega)) (nI_rem (by omega) (by omega) (by omega)) rfl ?_
  exact fin_i hF (Nat.le_of_ble_eq_true rfl) (Nat.le_of_ble_eq_true rfl) dL_up_6 (by rfl) rfl
theorem upN_lt {x : Int32} {n : Nat} (h : 0 < n) : upN x n < n := Nat.mod_lt _ h
set_option maxRecDepth 20000 in
set_option maxHeartbeats 2000000 in
theorem l_bits {M : Mem} {x : Int32} : Does sz I_L_bits [.int x] M 0 0 (.inl (some (onM x))) M := by
  refine Does.of (L := [(0, .int x)]) (by decide +kernel) (Nat.le_of_ble_eq_true rfl) rfl ⟨rfl, (by simp), trivial⟩ (fun VV hF => ?_)
  have hX := hF.c
  refine ro_iconst (v := nI 0) (q := 1) hX dL_bits_0 rfl rfl ?_
  refine ro_istore_n (i := 1) (q := 2) hX dL_bits_1 rfl (Nat.le_of_ble_eq_true rfl) rfl ?_
  refine ro_iconst (v := nI 0) (q := 3) hX dL_bits_2 rfl rfl ?_
  refine ro_istore_n (i := 2) (q := 4) hX dL_bits_3 rfl (Nat.le_of_ble_eq_true rfl) rfl ?_
  refine vv_LM (L' := [(0, .int x), (1, .int (onL x 0)), (2, .int (nI 0))]) (M' := M) (by rfl) rfl ?_
  refine down_ind (P := fun k4 => VV 0 0 4 [(0, .int x), (1, .int (onL x k4)), (2, .int (nI k4))] [] M) (6) (fun k4 hk4 ih4 => ?_) ?_
  · have ih4 : VV 0 0 4 [(0, .int x), (1, .int (onL x (k4 + 1))), (2, .int (nI (k4 + 1)))] [] M := ih4
    show VV 0 0 4 [(0, .int x), (1, .int (onL x k4)), (2, .int (nI k4))] [] M
    refine ro_iload_n (i := 2) (q := 5) hX dL_bits_4 rfl rfl rfl ?_
    refine ro_bipush (v := nI 6) (q := 7) hX dL_bits_5 rfl rfl ?_
    refine ro_icmp_ge (tgt := 24) (q := 10) hX dL_bits_7 (by decide) rfl (fun q => absurd q (ni_nle (by omega) (by omega))) (fun _ => ?_)
    refine ro_iload_n (i := 1) (q := 11) hX dL_bits_10 rfl rfl rfl ?_
    refine ro_iload_n (i := 0) (q := 12) hX dL_bits_11 rfl rfl rfl ?_
    refine ro_iload_n (i := 2) (q := 13) hX dL_bits_12 rfl rfl rfl ?_
    refine ro_ishr (q := 14) hX dL_bits_13 rfl ?_
    refine ro_iconst (v := nI 1) (q := 15) hX dL_bits_14 rfl rfl ?_
    refine ro_iand (q := 16) hX dL_bits_15 rfl ?_
    refine ro_iadd (q := 17) hX dL_bits_16 rfl ?_
    refine ro_istore_n (i := 1) (q := 18) hX dL_bits_17 rfl (Nat.le_of_ble_eq_true rfl) rfl ?_
    refine ro_iinc (i := 2) (v := nI (k4 + 1)) (q := 21) hX dL_bits_18 rfl (ni_inc _) (Nat.le_of_ble_eq_true rfl) rfl ?_
    refine ro_goto (tgt := 4) hX dL_bits_21 (by decide) ?_
    exact vv_LM (by rfl) rfl ih4
  · show VV 0 0 4 [(0, .int x), (1, .int (onL x 6)), (2, .int (nI 6))] [] M
    refine ro_iload_n (i := 2) (q := 5) hX dL_bits_4 rfl rfl rfl ?_
    refine ro_bipush (v := nI 6) (q := 7) hX dL_bits_5 rfl rfl ?_
    refine ro_icmp_ge (tgt := 24) (q := 10) hX dL_bits_7 (by decide) rfl (fun _ => ?_) (fun q => absurd (ni_le (by omega) (by omega)) q)
    refine ro_iload_n (i := 1) (q := 25) hX dL_bits_24 rfl rfl rfl ?_
    exact fin_i hF (Nat.le_of_ble_eq_true rfl) (Nat.le_of_ble_eq_true rfl) dL_bits_25 (by rfl) rfl
set_option maxRecDepth 20000 in
set_option maxHeartbeats 2000000 in
theorem l_told (hR : ∀ p, p < 10 → ¬ cpS f p = 0 → reS f p = true) : DoesR sz I_L_told [.ref (sz + 0)] (patch G 1 7 f, T) (fun v M' => v = .long (toldV f) ∧ M' = (patch G 1 7 f, T)) := by
  refine DoesR.of (L := [(0, .ref (sz + 0))]) (by decide +kernel) (Nat.le_of_ble_eq_true rfl) rfl ⟨rfl, (by simp), trivial⟩ (fun VV hF => ?_)
  have hX := hF.c
  refine ro_ldc2 (v := 41) (q := 3) hX kd_L_9 dL_told_0 rfl ?_
  refine ro_aload_n (i := 0) (q := 4) hX dL_told_3 rfl rfl rfl ?_
  refine ro_callVi (q9 := 7) hX (x_time) mw_X2_time kl_L_11 (by decide) (fun cy => cell2 (by decide +kernel)) rfl rfl rfl (Nat.le_of_ble_eq_true rfl) ⟨Nat.le_of_ble_eq_true rfl, Nat.le_of_ble_eq_true rfl⟩ dL_told_4 ⟨Nat.le_of_ble_eq_true rfl, Nat.le_of_ble_eq_true rfl⟩ rfl ?_
  refine ro_i2l (q := 8) hX dL_told_7 rfl rfl ?_
  refine ro_ladd (q := 9) hX dL_told_8 rfl ?_
  refine ro_lstore_n (i := 1) (q := 10) hX dL_told_9 rfl (Nat.le_of_ble_eq_true rfl) rfl (Nat.le_of_ble_eq_true rfl) rfl ?_
  refine ro_iconst (v := nI 0) (q := 11) hX dL_told_10 rfl rfl ?_
  refine ro_istore_n (i := 3) (q := 12) hX dL_told_11 rfl (Nat.le_of_ble_eq_true rfl) rfl ?_
  refine vv_LM (L' := [(0, .ref (sz + 0)), (1, .long (tA f 0)), (3, .int (nI 0))]) (M' := (patch G 1 7 f, T)) (by rfl) rfl ?_
  refine down_ind (P := fun k12 => VV 0 0 12 [(0, .ref (sz + 0)), (1, .long (tA f k12)), (3, .int (nI k12))] [] (patch G 1 7 f, T)) (6) (fun k12 hk12 ih12 => ?_) ?_
  · have ih12 : VV 0 0 12 [(0, .ref (sz + 0)), (1, .long (tA f (k12 + 1))), (3, .int (nI (k12 + 1)))] [] (patch G 1 7 f, T) := ih12
    show VV 0 0 12 [(0, .ref (sz + 0)), (1, .long (tA f k12)), (3, .int (nI k12))] [] (patch G 1 7 f, T)
    refine ro_iload_n (i := 3) (q := 13) hX dL_told_12 rfl rfl rfl ?_
    refine ro_bipush (v := nI 6) (q := 15) hX dL_told_13 rfl rfl ?_
    refine ro_icmp_ge (tgt := 91) (q := 18) hX dL_told_15 (by decide) rfl (fun q => absurd q (ni_nle (by omega) (by omega))) (fun _ => ?_)
    refine ro_ldc2 (v := 31) (q := 21) hX kd_L_17 dL_told_18 rfl ?_
    refine ro_ldc2 (v := 31) (q := 24) hX kd_L_17 dL_told_21 rfl ?_
    refine ro_ldc2 (v := 31) (q := 27) hX kd_L_17 dL_told_24 rfl ?_
    refine ro_lload_n (i := 1) (q := 28) hX dL_told_27 rfl rfl rfl ?_
    refine ro_lmul (q := 29) hX dL_told_28 rfl ?_
    refine ro_aload_n (i := 0) (q := 30) hX dL_told_29 rfl rfl rfl ?_
    refine ro_iload_n (i := 3) (q := 31) hX dL_told_30 rfl rfl rfl ?_
    refine ro_callVi (q9 := 34) hX (x_mode (by omega)) mw_X2_mode kl_L_19 (by decide) (fun cy => cell2 (by decide +kernel)) rfl rfl rfl (Nat.le_of_ble_eq_true rfl) ⟨Nat.le_of_ble_eq_true rfl, Nat.le_of_ble_eq_true rfl⟩ dL_told_31 ⟨Nat.le_of_ble_eq_true rfl, Nat.le_of_ble_eq_true rfl⟩ rfl ?_
    refine ro_i2l (q := 35) hX dL_told_34 rfl rfl ?_
    refine ro_ladd (q := 36) hX dL_told_35 rfl ?_
    refine ro_lmul (q := 37) hX dL_told_36 rfl ?_
    refine ro_aload_n (i := 0) (q := 38) hX dL_told_37 rfl rfl rfl ?_
    refine ro_iload_n (i := 3) (q := 39) hX dL_told_38 rfl rfl rfl ?_
    refine ro_callVi (q9 := 42) hX (x_usedRoom (by omega)) mw_X2_usedRoom kl_L_23 (by decide) (fun cy => cell2 (by decide +kernel)) rfl rfl rfl (Nat.le_of_ble_eq_true rfl) ⟨Nat.le_of_ble_eq_true rfl, Nat.le_of_ble_eq_true rfl⟩ dL_told_39 ⟨Nat.le_of_ble_eq_true rfl, Nat.le_of_ble_eq_true rfl⟩ rfl ?_
    refine ro_i2l (q := 43) hX dL_told_42 rfl rfl ?_
    refine ro_ladd (q := 44) hX dL_told_43 rfl ?_
    refine ro_lmul (q := 45) hX dL_told_44 rfl ?_
    refine ro_aload_n (i := 0) (q := 46) hX dL_told_45 rfl rfl rfl ?_
    refine ro_iload_n (i := 3) (q := 47) hX dL_told_46 rfl rfl rfl ?_
    refine ro_callVi (q9 := 50) hX (x_freeRoom (by omega)) mw_X2_freeRoom kl_L_26 (by decide) (fun cy => cell2 (by decide +kernel)) rfl rfl rfl (Nat.le_of_ble_eq_true rfl) ⟨Nat.le_of_ble_eq_true rfl, Nat.le_of_ble_eq_true rfl⟩ dL_told_47 ⟨Nat.le_of_ble_eq_true rfl, Nat.le_of_ble_eq_true rfl⟩ rfl ?_
    refine ro_i2l (q := 51) hX dL_told_50 rfl rfl ?_
    refine ro_ladd (q := 52) hX dL_told_51 rfl ?_
    refine ro_lstore_n (i := 1) (q := 53) hX dL_told_52 rfl (Nat.le_of_ble_eq_true rfl) rfl (Nat.le_of_ble_eq_true rfl) rfl ?_
    refine ro_ldc2 (v := 31) (q := 56) hX kd_L_17 dL_told_53 rfl ?_
    refine ro_ldc2 (v := 31) (q := 59) hX kd_L_17 dL_told_56 rfl ?_
    refine ro_lload_n (i := 1) (q := 60) hX dL_told_59 rfl rfl rfl ?_
    refine ro_lmul (q := 61) hX dL_told_60 rfl ?_
    refine ro_aload_n (i := 0) (q := 62) hX dL_told_61 rfl rfl rfl ?_
    refine ro_iload_n (i := 3) (q := 63) hX dL_told_62 rfl rfl rfl ?_
    refine ro_callVi (q9 := 66) hX (x_dl (by omega)) mw_X2_deadlineIn kl_L_29 (by decide) (fun cy => cell2 (by decide +kernel)) rfl rfl rfl (Nat.le_of_ble_eq_true rfl) ⟨Nat.le_of_ble_eq_true rfl, Nat.le_of_ble_eq_true rfl⟩ dL_told_63 ⟨Nat.le_of_ble_eq_true rfl, Nat.le_of_ble_eq_true rfl⟩ rfl ?_
    refine ro_i2l (q := 67) hX dL_told_66 rfl rfl ?_
    refine ro_ladd (q := 68) hX dL_told_67 rfl ?_
    refine ro_lmul (q := 69) hX dL_told_68 rfl ?_
    refine ro_aload_n (i := 0) (q := 70) hX dL_told_69 rfl rfl rfl ?_
    refine ro_iload_n (i := 3) (q := 71) hX dL_told_70 rfl rfl rfl ?_
    refine ro_callVi (q9 := 74) hX (x_isConnected (by omega)) mw_X2_isConnected kl_L_32 (by decide) (fun cy => cell2 (by decide +kernel)) rfl rfl rfl (Nat.le_of_ble_eq_true rfl) ⟨Nat.le_of_ble_eq_true rfl, Nat.le_of_ble_eq_true rfl⟩ dL_told_71 ⟨Nat.le_of_ble_eq_true rfl, Nat.le_of_ble_eq_true rfl⟩ rfl ?_
    refine ro_ifb_eq (tgt := 81) (q := 77) hX dL_told_74 (by decide) rfl (fun q74 => ?_) (fun q74 => ?_)
    · skip
      refine ro_iconst (v := nI 0) (q := 82) hX dL_told_81 rfl rfl ?_
      refine vv_top (y := (cnV f k12)) ((by first | rw [cnV, if_pos (by assumption)] | rw [cnV, if_neg (by simp [*])] | rw [rdV, if_pos (by assumption)] | rw [rdV, if_neg (by assumption)])) ?_
      refine ro_i2l (q := 83) hX dL_told_82 rfl rfl ?_
      refine ro_ladd (q := 84) hX dL_told_83 rfl ?_
      refine ro_lstore_n (i := 1) (q := 85) hX dL_told_84 rfl (Nat.le_of_ble_eq_true rfl) rfl (Nat.le_of_ble_eq_true rfl) rfl ?_
      refine ro_iinc (i := 3) (v := nI (k12 + 1)) (q := 88) hX dL_told_85 rfl (ni_inc _) (Nat.le_of_ble_eq_true rfl) rfl ?_
      refine ro_goto (tgt := 12) hX dL_told_88 (by decide) ?_
      exact vv_LM (by rfl) rfl ih12
    · skip
      refine ro_iconst (v := nI 1) (q := 78) hX dL_told_77 rfl rfl ?_
      refine vv_top (y := (cnV f k12)) ((by first | rw [cnV, if_pos (by assumption)] | rw [cnV, if_neg (by simp [*])] | rw [rdV, if_pos (by assumption)] | rw [rdV, if_neg (by assumption)])) ?_
      refine ro_goto (tgt := 82) hX dL_told_78 (by decide) ?_
      refine ro_i2l (q := 83) hX dL_told_82 rfl rfl ?_
      refine ro_ladd (q := 84) hX dL_told_83 rfl ?_
      refine ro_lstore_n (i := 1) (q := 85) hX dL_told_84 rfl (Nat.le_of_ble_eq_true rfl) rfl (Nat.le_of_ble_eq_true rfl) rfl ?_
      refine ro_iinc (i := 3) (v := nI (k12 + 1)) (q := 88) hX dL_told_85 rfl (ni_inc _) (Nat.le_of_ble_eq_true rfl) rfl ?_
      refine ro_goto (tgt := 12) hX dL_told_88 (by decide) ?_
      exact vv_LM (by rfl) rfl ih12
  · show VV 0 0 12 [(0, .ref (sz + 0)), (1, .long (tA f 6)), (3, .int (nI 6))] [] (patch G 1 7 f, T)
    refine ro_iload_n (i := 3) (q := 13) hX dL_told_12 rfl rfl rfl ?_
    refine ro_bipush (v := nI 6) (q := 15) hX dL_told_13 rfl rfl ?_
    refine ro_icmp_ge (tgt := 91) (q := 18) hX dL_told_15 (by decide) rfl (fun _ => ?_) (fun q => absurd (ni_le (by omega) (by omega)) q)
    refine ro_iconst (v := nI 0) (q := 92) hX dL_told_91 rfl rfl ?_
    refine ro_istore_n (i := 3) (q := 93) hX dL_told_92 rfl (Nat.le_of_ble_eq_true rfl) rfl ?_
    refine vv_LM (L' := [(0, .ref (sz + 0)), (1, .long (tB f 0)), (3, .int (nI 0))]) (M' := (patch G 1 7 f, T)) (by rfl) rfl ?_
    refine down_ind (P := fun k93 => VV 0 0 93 [(0, .ref (sz + 0)), (1, .long (tB f k93)), (3, .int (nI k93))] [] (patch G 1 7 f, T)) (10) (fun k93 hk93 ih93 => ?_) ?_
    · have ih93 : VV 0 0 93 [(0, .ref (sz + 0)), (1, .long (tB f (k93 + 1))), (3, .int (nI (k93 + 1)))] [] (patch G 1 7 f, T) := ih93
      show VV 0 0 93 [(0, .ref (sz + 0)), (1, .long (tB f k93)), (3, .int (nI k93))] [] (patch G 1 7 f, T)
      refine ro_iload_n (i := 3) (q := 94) hX dL_told_93 rfl rfl rfl ?_
      refine ro_bipush (v := nI 10) (q := 96) hX dL_told_94 rfl rfl ?_
      refine ro_icmp_ge (tgt := 173) (q := 99) hX dL_told_96 (by decide) rfl (fun q => absurd q (ni_nle (by omega) (by omega))) (fun _ => ?_)
      refine ro_ldc2 (v := 31) (q := 102) hX kd_L_17 dL_told_99 rfl ?_
      refine ro_ldc2 (v := 31) (q := 105) hX kd_L_17 dL_told_102 rfl ?_
      refine ro_lload_n (i := 1) (q := 106) hX dL_told_105 rfl rfl rfl ?_
      refine ro_lmul (q := 107) hX dL_told_106 rfl ?_
      refine ro_aload_n (i := 0) (q := 108) hX dL_told_107 rfl rfl rfl ?_
      refine ro_iload_n (i := 3) (q := 109) hX dL_told_108 rfl rfl rfl ?_
      refine ro_callVi (q9 := 112) hX (x_status (by omega)) mw_X2_status kl_L_36 (by decide) (fun cy => cell2 (by decide +kernel)) rfl rfl rfl (Nat.le_of_ble_eq_true rfl) ⟨Nat.le_of_ble_eq_true rfl, Nat.le_of_ble_eq_true rfl⟩ dL_told_109 ⟨Nat.le_of_ble_eq_true rfl, Nat.le_of_ble_eq_true rfl⟩ rfl ?_
      refine ro_i2l (q := 113) hX dL_told_112 rfl rfl ?_
      refine ro_ladd (q := 114) hX dL_told_113 rfl ?_
      refine ro_lmul (q := 115) hX dL_told_114 rfl ?_
      refine ro_aload_n (i := 0) (q := 116) hX dL_told_115 rfl rfl rfl ?_
      refine ro_iload_n (i := 3) (q := 117) hX dL_told_116 rfl rfl rfl ?_
      refine ro_callVi (q9 := 120) hX (x_copies (by omega)) mw_X2_copies kl_L_39 (by decide) (fun cy => cell2 (by decide +kernel)) rfl rfl rfl (Nat.le_of_ble_eq_true rfl) ⟨Nat.le_of_ble_eq_true rfl, Nat.le_of_ble_eq_true rfl⟩ dL_told_117 ⟨Nat.le_of_ble_eq_true rfl, Nat.le_of_ble_eq_true rfl⟩ rfl ?_
      refine ro_if_eq (tgt := 131) (q := 123) hX dL_told_120 (by decide) rfl (fun q120 => ?_) (fun q120 => ?_)
      · skip
        refine ro_bipush (v := (-7)) (q := 133) hX dL_told_131 rfl rfl ?_
        refine vv_top (y := (rdV f k93)) ((by first | rw [cnV, if_pos (by assumption)] | rw [cnV, if_neg (by simp [*])] | rw [rdV, if_pos (by assumption)] | rw [rdV, if_neg (by assumption)])) ?_
        refine ro_i2l (q := 134) hX dL_told_133 rfl rfl ?_
        refine ro_ladd (q := 135) hX dL_told_134 rfl ?_
        refine ro_lstore_n (i := 1) (q := 136) hX dL_told_135 rfl (Nat.le_of_ble_eq_true rfl) rfl (Nat.le_of_ble_eq_true rfl) rfl ?_
        refine ro_iconst (v := nI 0) (q := 137) hX dL_told_136 rfl rfl ?_
        refine ro_istore (i := 4) (q := 139) hX dL_told_137 (Nat.le_of_ble_eq_true rfl) rfl ?_
        refine vv_LM (L' := [(0, .ref (sz + 0)), (1, .long (tC f k93 (31 * (31 * tB f k93 + (stS f k93).toInt64) + (rdV f k93).toInt64) 0)), (3, .int (nI k93)), (4, .int (nI 0))]) (M' := (patch G 1 7 f, T)) (by rfl) rfl ?_
        refine down_ind (P := fun k139 => VV 0 0 139 [(0, .ref (sz + 0)), (1, .long (tC f k93 (31 * (31 * tB f k93 + (stS f k93).toInt64) + (rdV f k93).toInt64) k139)), (3, .int (nI k93)), (4, .int (nI k139))] [] (patch G 1 7 f, T)) (6) (fun k139 hk139 ih139 => ?_) ?_
        · have ih139 : VV 0 0 139 [(0, .ref (sz + 0)), (1, .long (tC f k93 (31 * (31 * tB f k93 + (stS f k93).toInt64) + (rdV f k93).toInt64) (k139 + 1))), (3, .int (nI k93)), (4, .int (nI (k139 + 1)))] [] (patch G 1 7 f, T) := ih139
          show VV 0 0 139 [(0, .ref (sz + 0)), (1, .long (tC f k93 (31 * (31 * tB f k93 + (stS f k93).toInt64) + (rdV f k93).toInt64) k139)), (3, .int (nI k93)), (4, .int (nI k139))] [] (patch G 1 7 f, T)
          refine ro_iload (i := 4) (q := 141) hX dL_told_139 rfl rfl ?_
          refine ro_bipush (v := nI 6) (q := 143) hX dL_told_141 rfl rfl ?_
          refine ro_icmp_ge (tgt := 167) (q := 146) hX dL_told_143 (by decide) rfl (fun q => absurd q (ni_nle (by omega) (by omega))) (fun _ => ?_)
          refine ro_ldc2 (v := 3) (q := 149) hX kd_L_45 dL_told_146 rfl ?_
          refine ro_lload_n (i := 1) (q := 150) hX dL_told_149 rfl rfl rfl ?_
          refine ro_lmul (q := 151) hX dL_told_150 rfl ?_
          refine ro_aload_n (i := 0) (q := 152) hX dL_told_151 rfl rfl rfl ?_
          refine ro_iload (i := 4) (q := 154) hX dL_told_152 rfl rfl ?_
          refine ro_iload_n (i := 3) (q := 155) hX dL_told_154 rfl rfl rfl ?_
          refine ro_callVi (q9 := 158) hX (x_rep (by omega) (by omega)) mw_X2_replica kl_L_47 (by decide) (fun cy => cell2 (by decide +kernel)) rfl rfl rfl (Nat.le_of_ble_eq_true rfl) ⟨Nat.le_of_ble_eq_true rfl, Nat.le_of_ble_eq_true rfl⟩ dL_told_155 ⟨Nat.le_of_ble_eq_true rfl, Nat.le_of_ble_eq_true rfl⟩ rfl ?_
          refine ro_i2l (q := 159) hX dL_told_158 rfl rfl ?_
          refine ro_ladd (q := 160) hX dL_told_159 rfl ?_
          refine ro_lstore_n (i := 1) (q := 161) hX dL_told_160 rfl (Nat.le_of_ble_eq_true rfl) rfl (Nat.le_of_ble_eq_true rfl) rfl ?_
          refine ro_iinc (i := 4) (v := nI (k139 + 1)) (q := 164) hX dL_told_161 rfl (ni_inc _) (Nat.le_of_ble_eq_true rfl) rfl ?_
          refine ro_goto (tgt := 139) hX dL_told_164 (by decide) ?_
          exact vv_LM (by rfl) rfl ih139
        · show VV 0 0 139 [(0, .ref (sz + 0)), (1, .long (tC f k93 (31 * (31 * tB f k93 + (stS f k93).toInt64) + (rdV f k93).toInt64) 6)), (3, .int (nI k93)), (4, .int (nI 6))] [] (patch G 1 7 f, T)
          refine ro_iload (i := 4) (q := 141) hX dL_told_139 rfl rfl ?_
          refine ro_bipush (v := nI 6) (q := 143) hX dL_told_141 rfl rfl ?_
          refine ro_icmp_ge (tgt := 167) (q := 146) hX dL_told_143 (by decide) rfl (fun _ => ?_) (fun q => absurd (ni_le (by omega) (by omega)) q)
          refine ro_drop [4] hX rfl ?_
          refine ro_iinc (i := 3) (v := nI (k93 + 1)) (q := 170) hX dL_told_167 rfl (ni_inc _) (Nat.le_of_ble_eq_true rfl) rfl ?_
          refine ro_goto (tgt := 93) hX dL_told_170 (by decide) ?_
          exact vv_LM (by rfl) rfl ih93
      · skip
        refine ro_aload_n (i := 0) (q := 124) hX dL_told_123 rfl rfl rfl ?_
        refine ro_iload_n (i := 3) (q := 125) hX dL_told_124 rfl rfl rfl ?_
        refine ro_callVi (q9 := 128) hX (x_read (by omega) (hR _ (by omega) (by assumption))) mw_X2_read kl_L_42 (by decide) (fun cy => cell2 (by decide +kernel)) rfl rfl rfl (Nat.le_of_ble_eq_true rfl) ⟨Nat.le_of_ble_eq_true rfl, Nat.le_of_ble_eq_true rfl⟩ dL_told_125 ⟨Nat.le_of_ble_eq_true rfl, Nat.le_of_ble_eq_true rfl⟩ rfl ?_
        refine vv_top (y := (rdV f k93)) ((by first | rw [cnV, if_pos (by assumption)] | rw [cnV, if_neg (by simp [*])] | rw [rdV, if_pos (by assumption)] | rw [rdV, if_neg (by assumption)])) ?_
        refine ro_goto (tgt := 133) hX dL_told_128 (by decide) ?_
        refine ro_i2l (q := 134) hX dL_told_133 rfl rfl ?_
        refine ro_ladd (q := 135) hX dL_told_134 rfl ?_
        refine ro_lstore_n (i := 1) (q := 136) hX dL_told_135 rfl (Nat.le_of_ble_eq_true rfl) rfl (Nat.le_of_ble_eq_true rfl) rfl ?_
        refine ro_iconst (v := nI 0) (q := 137) hX dL_told_136 rfl rfl ?_
        refine ro_istore (i := 4) (q := 139) hX dL_told_137 (Nat.le_of_ble_eq_true rfl) rfl ?_
        refine vv_LM (L' := [(0, .ref (sz + 0)), (1, .long (tC f k93 (31 * (31 * tB f k93 + (stS f k93).toInt64) + (rdV f k93).toInt64) 0)), (3, .int (nI k93)), (4, .int (nI 0))]) (M' := (patch G 1 7 f, T)) (by rfl) rfl ?_
        refine down_ind (P := fun k139 => VV 0 0 139 [(0, .ref (sz + 0)), (1, .long (tC f k93 (31 * (31 * tB f k93 + (stS f k93).toInt64) + (rdV f k93).toInt64) k139)), (3, .int (nI k93)), (4, .int (nI k139))] [] (patch G 1 7 f, T)) (6) (fun k139 hk139 ih139 => ?_) ?_
        · have ih139 : VV 0 0 139 [(0, .ref (sz + 0)), (1, .long (tC f k93 (31 * (31 * tB f k93 + (stS f k93).toInt64) + (rdV f k93).toInt64) (k139 + 1))), (3, .int (nI k93)), (4, .int (nI (k139 + 1)))] [] (patch G 1 7 f, T) := ih139
          show VV 0 0 139 [(0, .ref (sz + 0)), (1, .long (tC f k93 (31 * (31 * tB f k93 + (stS f k93).toInt64) + (rdV f k93).toInt64) k139)), (3, .int (nI k93)), (4, .int (nI k139))] [] (patch G 1 7 f, T)
          refine ro_iload (i := 4) (q := 141) hX dL_told_139 rfl rfl ?_
          refine ro_bipush (v := nI 6) (q := 143) hX dL_told_141 rfl rfl ?_
          refine ro_icmp_ge (tgt := 167) (q := 146) hX dL_told_143 (by decide) rfl (fun q => absurd q (ni_nle (by omega) (by omega))) (fun _ => ?_)
          refine ro_ldc2 (v := 3) (q := 149) hX kd_L_45 dL_told_146 rfl ?_
          refine ro_lload_n (i := 1) (q := 150) hX dL_told_149 rfl rfl rfl ?_
          refine ro_lmul (q := 151) hX dL_told_150 rfl ?_
          refine ro_aload_n (i := 0) (q := 152) hX dL_told_151 rfl rfl rfl ?_
          refine ro_iload (i := 4) (q := 154) hX dL_told_152 rfl rfl ?_
          refine ro_iload_n (i := 3) (q := 155) hX dL_told_154 rfl rfl rfl ?_
          refine ro_callVi (q9 := 158) hX (x_rep (by omega) (by omega)) mw_X2_replica kl_L_47 (by decide) (fun cy => cell2 (by decide +kernel)) rfl rfl rfl (Nat.le_of_ble_eq_true rfl) ⟨Nat.le_of_ble_eq_true rfl, Nat.le_of_ble_eq_true rfl⟩ dL_told_155 ⟨Nat.le_of_ble_eq_true rfl, Nat.le_of_ble_eq_true rfl⟩ rfl ?_
          refine ro_i2l (q := 159) hX dL_told_158 rfl rfl ?_
          refine ro_ladd (q := 160) hX dL_told_159 rfl ?_
          refine ro_lstore_n (i := 1) (q := 161) hX dL_told_160 rfl (Nat.le_of_ble_eq_true rfl) rfl (Nat.le_of_ble_eq_true rfl) rfl ?_
          refine ro_iinc (i := 4) (v := nI (k139 + 1)) (q := 164) hX dL_told_161 rfl (ni_inc _) (Nat.le_of_ble_eq_true rfl) rfl ?_
          refine ro_goto (tgt := 139) hX dL_told_164 (by decide) ?_
          exact vv_LM (by rfl) rfl ih139
        · show VV 0 0 139 [(0, .ref (sz + 0)), (1, .long (tC f k93 (31 * (31 * tB f k93 + (stS f k93).toInt64) + (rdV f k93).toInt64) 6)), (3, .int (nI k93)), (4, .int (nI 6))] [] (patch G 1 7 f, T)
          refine ro_iload (i := 4) (q := 141) hX dL_told_139 rfl rfl ?_
          refine ro_bipush (v := nI 6) (q := 143) hX dL_told_141 rfl rfl ?_
          refine ro_icmp_ge (tgt := 167) (q := 146) hX dL_told_143 (by decide) rfl (fun _ => ?_) (fun q => absurd (ni_le (by omega) (by omega)) q)
          refine ro_drop [4] hX rfl ?_
          refine ro_iinc (i := 3) (v := nI (k93 + 1)) (q := 170) hX dL_told_167 rfl (ni_inc _) (Nat.le_of_ble_eq_true rfl) rfl ?_
          refine ro_goto (tgt := 93) hX dL_told_170 (by decide) ?_
          exact vv_LM (by rfl) rfl ih93
    · show VV 0 0 93 [(0, .ref (sz + 0)), (1, .long (tB f 10)), (3, .int (nI 10))] [] (patch G 1 7 f, T)
      refine ro_iload_n (i := 3) (q := 94) hX dL_told_93 rfl rfl rfl ?_
      refine ro_bipush (v := nI 10) (q := 96) hX dL_told_94 rfl rfl ?_
      refine ro_icmp_ge (tgt := 173) (q := 99) hX dL_told_96 (by decide) rfl (fun _ => ?_) (fun q => absurd (ni_le (by omega) (by omega)) q)
      refine ro_iconst (v := nI 0) (q := 174) hX dL_told_173 rfl rfl ?_
      refine ro_istore_n (i := 3) (q := 175) hX dL_told_174 rfl (Nat.le_of_ble_eq_true rfl) rfl ?_
      refine vv_LM (L' := [(0, .ref (sz + 0)), (1, .long (tD f 0)), (3, .int (nI 0))]) (M' := (patch G 1 7 f, T)) (by rfl) rfl ?_
      refine down_ind (P := fun k175 => VV 0 0 175 [(0, .ref (sz + 0)), (1, .long (tD f k175)), (3, .int (nI k175))] [] (patch G 1 7 f, T)) (4) (fun k175 hk175 ih175 => ?_) ?_
      · have ih175 : VV 0 0 175 [(0, .ref (sz + 0)), (1, .long (tD f (k175 + 1))), (3, .int (nI (k175 + 1)))] [] (patch G 1 7 f, T) := ih175
        show VV 0 0 175 [(0, .ref (sz + 0)), (1, .long (tD f k175)), (3, .int (nI k175))] [] (patch G 1 7 f, T)
        refine ro_iload_n (i := 3) (q := 176) hX dL_told_175 rfl rfl rfl ?_
        refine ro_iconst (v := nI 4) (q := 177) hX dL_told_176 rfl rfl ?_
        refine ro_icmp_ge (tgt := 199) (q := 180) hX dL_told_177 (by decide) rfl (fun q => absurd q (ni_nle (by omega) (by omega))) (fun _ => ?_)
        refine ro_ldc2 (v := 31) (q := 183) hX kd_L_17 dL_told_180 rfl ?_
        refine ro_lload_n (i := 1) (q := 184) hX dL_told_183 rfl rfl rfl ?_
        refine ro_lmul (q := 185) hX dL_told_184 rfl ?_
        refine ro_aload_n (i := 0) (q := 186) hX dL_told_185 rfl rfl rfl ?_
        refine ro_iload_n (i := 3) (q := 187) hX dL_told_186 rfl rfl rfl ?_
        refine ro_callVi (q9 := 190) hX (x_tr (by omega)) mw_X2_transfer kl_L_51 (by decide) (fun cy => cell2 (by decide +kernel)) rfl rfl rfl (Nat.le_of_ble_eq_true rfl) ⟨Nat.le_of_ble_eq_true rfl, Nat.le_of_ble_eq_true rfl⟩ dL_told_187 ⟨Nat.le_of_ble_eq_true rfl, Nat.le_of_ble_eq_true rfl⟩ rfl ?_
        refine ro_i2l (q := 191) hX dL_told_190 rfl rfl ?_
        refine ro_ladd (q := 192) hX dL_told_191 rfl ?_
        refine ro_lstore_n (i := 1) (q := 193) hX dL_told_192 rfl (Nat.le_of_ble_eq_true rfl) rfl (Nat.le_of_ble_eq_true rfl) rfl ?_
        refine ro_iinc (i := 3) (v := nI (k175 + 1)) (q := 196) hX dL_told_193 rfl (ni_inc _) (Nat.le_of_ble_eq_true rfl) rfl ?_
        refine ro_goto (tgt := 175) hX dL_told_196 (by decide) ?_
        exact vv_LM (by rfl) rfl ih175
      · show VV 0 0 175 [(0, .ref (sz + 0)), (1, .long (tD f 4)), (3, .int (nI 4))] [] (patch G 1 7 f, T)
        refine ro_iload_n (i := 3) (q := 176) hX dL_told_175 rfl rfl rfl ?_
        refine ro_iconst (v := nI 4) (q := 177) hX dL_told_176 rfl rfl ?_
        refine ro_icmp_ge (tgt := 199) (q := 180) hX dL_told_177 (by decide) rfl (fun _ => ?_) (fun q => absurd (ni_le (by omega) (by omega)) q)
        refine ro_ldc2 (v := 31) (q := 202) hX kd_L_17 dL_told_199 rfl ?_
        refine ro_lload_n (i := 1) (q := 203) hX dL_told_202 rfl rfl rfl ?_
        refine ro_lmul (q := 204) hX dL_told_203 rfl ?_
        refine ro_aload_n (i := 0) (q := 205) hX dL_told_204 rfl rfl rfl ?_
        refine ro_callVi (q9 := 208) hX (x_completedTransfers) mw_X2_completedTransfers kl_L_54 (by decide) (fun cy => cell2 (by decide +kernel)) rfl rfl rfl (Nat.le_of_ble_eq_true rfl) ⟨Nat.le_of_ble_eq_true rfl, Nat.le_of_ble_eq_true rfl⟩ dL_told_205 ⟨Nat.le_of_ble_eq_true rfl, Nat.le_of_ble_eq_true rfl⟩ rfl ?_
        refine ro_i2l (q := 209) hX dL_told_208 rfl rfl ?_
        refine ro_ladd (q := 210) hX dL_told_209 rfl ?_
        exact fin_lR hF dL_told_210 ⟨rfl, rfl⟩
end
