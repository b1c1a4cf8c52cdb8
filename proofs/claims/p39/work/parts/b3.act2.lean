section
variable {VV : VT} {sz : Nat} {x y v : Int32} {G : Nat → Nat → Int32} {T : (Nat → Nat) × Int64} {f g : SV} {M' : Mem} {B M : Nat}
set_option maxRecDepth 20000 in
set_option maxHeartbeats 2000000 in
theorem at_head (hX : Ctx VV sz RL cL_act (roomOf I_L_act 0 0) 7) (kk : VV 0 0 53 [(0, .ref (sz + 0)), (1, .int x), (2, .int y), (3, .int (nI (upN y 6))), (4, .int (nI (upN (y >>> (nI 3 &&& 31)) 10))), (5, .int (sumS f 6))] [.int (nI (upN x 16))] (patch G 1 7 f, T)) : VV 0 0 0 [(0, .ref (sz + 0)), (1, .int x), (2, .int y)] [] (patch G 1 7 f, T) := by
  refine ro_iload_n (i := 2) (q := 1) hX dL_act_0 rfl rfl rfl ?_
  refine ro_bipush (v := nI 6) (q := 3) hX dL_act_1 rfl rfl ?_
  refine ro_callSi (q9 := 6) hX (l_up (x := y) (n := 6) (by decide) (by decide)) mw_L_up kl_L_57 rfl rfl (Nat.le_of_ble_eq_true rfl) ⟨Nat.le_of_ble_eq_true rfl, Nat.le_of_ble_eq_true rfl⟩ dL_act_3 ⟨Nat.le_of_ble_eq_true rfl, Nat.le_of_ble_eq_true rfl⟩ rfl ?_
  refine ro_istore_n (i := 3) (q := 7) hX dL_act_6 rfl (Nat.le_of_ble_eq_true rfl) rfl ?_
  refine ro_iload_n (i := 2) (q := 8) hX dL_act_7 rfl rfl rfl ?_
  refine ro_iconst (v := nI 3) (q := 9) hX dL_act_8 rfl rfl ?_
  refine ro_ishr (q := 10) hX dL_act_9 rfl ?_
  refine ro_bipush (v := nI 10) (q := 12) hX dL_act_10 rfl rfl ?_
  refine ro_callSi (q9 := 15) hX (l_up (x := y >>> ((nI 3) &&& 31)) (n := 10) (by decide) (by decide)) mw_L_up kl_L_57 rfl rfl (Nat.le_of_ble_eq_true rfl) ⟨Nat.le_of_ble_eq_true rfl, Nat.le_of_ble_eq_true rfl⟩ dL_act_12 ⟨Nat.le_of_ble_eq_true rfl, Nat.le_of_ble_eq_true rfl⟩ rfl ?_
  refine ro_istore (i := 4) (q := 17) hX dL_act_15 (Nat.le_of_ble_eq_true rfl) rfl ?_
  refine ro_iconst (v := nI 0) (q := 18) hX dL_act_17 rfl rfl ?_
  refine ro_istore (i := 5) (q := 20) hX dL_act_18 (Nat.le_of_ble_eq_true rfl) rfl ?_
  refine ro_iconst (v := nI 0) (q := 21) hX dL_act_20 rfl rfl ?_
  refine ro_istore (i := 6) (q := 23) hX dL_act_21 (Nat.le_of_ble_eq_true rfl) rfl ?_
  refine vv_LM (L' := [(0, .ref (sz + 0)), (1, .int x), (2, .int y), (3, .int (nI (upN y 6))), (4, .int (nI (upN (y >>> (nI 3 &&& 31)) 10))), (5, .int (sumS f 0)), (6, .int (nI 0))]) (M' := (patch G 1 7 f, T)) (by rfl) rfl ?_
  refine down_ind (P := fun k23 => VV 0 0 23 [(0, .ref (sz + 0)), (1, .int x), (2, .int y), (3, .int (nI (upN y 6))), (4, .int (nI (upN (y >>> (nI 3 &&& 31)) 10))), (5, .int (sumS f k23)), (6, .int (nI k23))] [] (patch G 1 7 f, T)) (6) (fun k23 hk23 ih23 => ?_) ?_
  · have ih23 : VV 0 0 23 [(0, .ref (sz + 0)), (1, .int x), (2, .int y), (3, .int (nI (upN y 6))), (4, .int (nI (upN (y >>> (nI 3 &&& 31)) 10))), (5, .int (sumS f (k23 + 1))), (6, .int (nI (k23 + 1)))] [] (patch G 1 7 f, T) := ih23
    show VV 0 0 23 [(0, .ref (sz + 0)), (1, .int x), (2, .int y), (3, .int (nI (upN y 6))), (4, .int (nI (upN (y >>> (nI 3 &&& 31)) 10))), (5, .int (sumS f k23)), (6, .int (nI k23))] [] (patch G 1 7 f, T)
    refine ro_iload (i := 6) (q := 25) hX dL_act_23 rfl rfl ?_
    refine ro_bipush (v := nI 6) (q := 27) hX dL_act_25 rfl rfl ?_
    refine ro_icmp_ge (tgt := 47) (q := 30) hX dL_act_27 (by decide) rfl (fun q => absurd q (ni_nle (by omega) (by omega))) (fun _ => ?_)
    refine ro_iload (i := 5) (q := 32) hX dL_act_30 rfl rfl ?_
    refine ro_aload_n (i := 0) (q := 33) hX dL_act_32 rfl rfl rfl ?_
    refine ro_iload (i := 6) (q := 35) hX dL_act_33 rfl rfl ?_
    refine ro_callVi (q9 := 38) hX (x_freeRoom (by omega)) mw_X2_freeRoom kl_L_26 (by decide) (fun cy => cell2 (by decide +kernel)) rfl rfl rfl (Nat.le_of_ble_eq_true rfl) ⟨Nat.le_of_ble_eq_true rfl, Nat.le_of_ble_eq_true rfl⟩ dL_act_35 ⟨Nat.le_of_ble_eq_true rfl, Nat.le_of_ble_eq_true rfl⟩ rfl ?_
    refine ro_iadd (q := 39) hX dL_act_38 rfl ?_
    refine ro_istore (i := 5) (q := 41) hX dL_act_39 (Nat.le_of_ble_eq_true rfl) rfl ?_
    refine ro_iinc (i := 6) (v := nI (k23 + 1)) (q := 44) hX dL_act_41 rfl (ni_inc _) (Nat.le_of_ble_eq_true rfl) rfl ?_
    refine ro_goto (tgt := 23) hX dL_act_44 (by decide) ?_
    exact vv_LM (by rfl) rfl ih23
  · show VV 0 0 23 [(0, .ref (sz + 0)), (1, .int x), (2, .int y), (3, .int (nI (upN y 6))), (4, .int (nI (upN (y >>> (nI 3 &&& 31)) 10))), (5, .int (sumS f 6)), (6, .int (nI 6))] [] (patch G 1 7 f, T)
    refine ro_iload (i := 6) (q := 25) hX dL_act_23 rfl rfl ?_
    refine ro_bipush (v := nI 6) (q := 27) hX dL_act_25 rfl rfl ?_
    refine ro_icmp_ge (tgt := 47) (q := 30) hX dL_act_27 (by decide) rfl (fun _ => ?_) (fun q => absurd (ni_le (by omega) (by omega)) q)
    refine ro_drop [6] hX rfl ?_
    refine ro_iload_n (i := 1) (q := 48) hX dL_act_47 rfl rfl rfl ?_
    refine ro_bipush (v := nI 16) (q := 50) hX dL_act_48 rfl rfl ?_
    refine ro_callSi (q9 := 53) hX (l_up (x := x) (n := 16) (by decide) (by decide)) mw_L_up kl_L_57 rfl rfl (Nat.le_of_ble_eq_true rfl) ⟨Nat.le_of_ble_eq_true rfl, Nat.le_of_ble_eq_true rfl⟩ dL_act_50 ⟨Nat.le_of_ble_eq_true rfl, Nat.le_of_ble_eq_true rfl⟩ rfl ?_
    exact vv_LM (by rfl) rfl (kk)
set_option maxRecDepth 20000 in
set_option maxHeartbeats 2000000 in
theorem at_sw0 (hX : Ctx VV sz RL cL_act (roomOf I_L_act 0 0) 7) {h p : Nat} (hs : upN x 16 = 0) (kk : VV 0 0 116 [(0, .ref (sz + 0)), (1, .int x), (2, .int y), (3, .int (nI h)), (4, .int (nI p)), (5, .int (sumS f 6))] [] (patch G 1 7 f, T)) : VV 0 0 53 [(0, .ref (sz + 0)), (1, .int x), (2, .int y), (3, .int (nI h)), (4, .int (nI p)), (5, .int (sumS f 6))] [.int (nI (upN x 16))] (patch G 1 7 f, T) := by
  rw [hs]
  exact ro_tableIn (tgt := 116) (off := 63) hX dL_act_53 (by decide) (by decide) (by decide +kernel) (by decide) kk
set_option maxRecDepth 20000 in
set_option maxHeartbeats 2000000 in
theorem at_sw1 (hX : Ctx VV sz RL cL_act (roomOf I_L_act 0 0) 7) {h p : Nat} (hs : upN x 16 = 1) (kk : VV 0 0 116 [(0, .ref (sz + 0)), (1, .int x), (2, .int y), (3, .int (nI h)), (4, .int (nI p)), (5, .int (sumS f 6))] [] (patch G 1 7 f, T)) : VV 0 0 53 [(0, .ref (sz + 0)), (1, .int x), (2, .int y), (3, .int (nI h)), (4, .int (nI p)), (5, .int (sumS f 6))] [.int (nI (upN x 16))] (patch G 1 7 f, T) := by
  rw [hs]
  exact ro_tableIn (tgt := 116) (off := 63) hX dL_act_53 (by decide) (by decide) (by decide +kernel) (by decide) kk
set_option maxRecDepth 20000 in
set_option maxHeartbeats 2000000 in
theorem at_sw2 (hX : Ctx VV sz RL cL_act (roomOf I_L_act 0 0) 7) {h p : Nat} (hs : upN x 16 = 2) (kk : VV 0 0 116 [(0, .ref (sz + 0)), (1, .int x), (2, .int y), (3, .int (nI h)), (4, .int (nI p)), (5, .int (sumS f 6))] [] (patch G 1 7 f, T)) : VV 0 0 53 [(0, .ref (sz + 0)), (1, .int x), (2, .int y), (3, .int (nI h)), (4, .int (nI p)), (5, .int (sumS f 6))] [.int (nI (upN x 16))] (patch G 1 7 f, T) := by
  rw [hs]
  exact ro_tableIn (tgt := 116) (off := 63) hX dL_act_53 (by decide) (by decide) (by decide +kernel) (by decide) kk
set_option maxRecDepth 20000 in
set_option maxHeartbeats 2000000 in
theorem at_sw3 (hX : Ctx VV sz RL cL_act (roomOf I_L_act 0 0) 7) {h p : Nat} (hs : upN x 16 = 3) (kk : VV 0 0 116 [(0, .ref (sz + 0)), (1, .int x), (2, .int y), (3, .int (nI h)), (4, .int (nI p)), (5, .int (sumS f 6))] [] (patch G 1 7 f, T)) : VV 0 0 53 [(0, .ref (sz + 0)), (1, .int x), (2, .int y), (3, .int (nI h)), (4, .int (nI p)), (5, .int (sumS f 6))] [.int (nI (upN x 16))] (patch G 1 7 f, T) := by
  rw [hs]
  exact ro_tableIn (tgt := 116) (off := 63) hX dL_act_53 (by decide) (by decide) (by decide +kernel) (by decide) kk
set_option maxRecDepth 20000 in
set_option maxHeartbeats 2000000 in
theorem at_sw4 (hX : Ctx VV sz RL cL_act (roomOf I_L_act 0 0) 7) {h p : Nat} (hs : upN x 16 = 4) (kk : VV 0 0 191 [(0, .ref (sz + 0)), (1, .int x), (2, .int y), (3, .int (nI h)), (4, .int (nI p)), (5, .int (sumS f 6))] [] (patch G 1 7 f, T)) : VV 0 0 53 [(0, .ref (sz + 0)), (1, .int x), (2, .int y), (3, .int (nI h)), (4, .int (nI p)), (5, .int (sumS f 6))] [.int (nI (upN x 16))] (patch G 1 7 f, T) := by
  rw [hs]
  exact ro_tableIn (tgt := 191) (off := 138) hX dL_act_53 (by decide) (by decide) (by decide +kernel) (by decide) kk
set_option maxRecDepth 20000 in
set_option maxHeartbeats 2000000 in
theorem at_sw5 (hX : Ctx VV sz RL cL_act (roomOf I_L_act 0 0) 7) {h p : Nat} (hs : upN x 16 = 5) (kk : VV 0 0 216 [(0, .ref (sz + 0)), (1, .int x), (2, .int y), (3, .int (nI h)), (4, .int (nI p)), (5, .int (sumS f 6))] [] (patch G 1 7 f, T)) : VV 0 0 53 [(0, .ref (sz + 0)), (1, .int x), (2, .int y), (3, .int (nI h)), (4, .int (nI p)), (5, .int (sumS f 6))] [.int (nI (upN x 16))] (patch G 1 7 f, T) := by
  rw [hs]
  exact ro_tableIn (tgt := 216) (off := 163) hX dL_act_53 (by decide) (by decide) (by decide +kernel) (by decide) kk
set_option maxRecDepth 20000 in
set_option maxHeartbeats 2000000 in
theorem at_sw6 (hX : Ctx VV sz RL cL_act (roomOf I_L_act 0 0) 7) {h p : Nat} (hs : upN x 16 = 6) (kk : VV 0 0 229 [(0, .ref (sz + 0)), (1, .int x), (2, .int y), (3, .int (nI h)), (4, .int (nI p)), (5, .int (sumS f 6))] [] (patch G 1 7 f, T)) : VV 0 0 53 [(0, .ref (sz + 0)), (1, .int x), (2, .int y), (3, .int (nI h)), (4, .int (nI p)), (5, .int (sumS f 6))] [.int (nI (upN x 16))] (patch G 1 7 f, T) := by
  rw [hs]
  exact ro_tableIn (tgt := 229) (off := 176) hX dL_act_53 (by decide) (by decide) (by decide +kernel) (by decide) kk
set_option maxRecDepth 20000 in
set_option maxHeartbeats 2000000 in
theorem at_sw7 (hX : Ctx VV sz RL cL_act (roomOf I_L_act 0 0) 7) {h p : Nat} (hs : upN x 16 = 7) (kk : VV 0 0 229 [(0, .ref (sz + 0)), (1, .int x), (2, .int y), (3, .int (nI h)), (4, .int (nI p)), (5, .int (sumS f 6))] [] (patch G 1 7 f, T)) : VV 0 0 53 [(0, .ref (sz + 0)), (1, .int x), (2, .int y), (3, .int (nI h)), (4, .int (nI p)), (5, .int (sumS f 6))] [.int (nI (upN x 16))] (patch G 1 7 f, T) := by
  rw [hs]
  exact ro_tableIn (tgt := 229) (off := 176) hX dL_act_53 (by decide) (by decide) (by decide +kernel) (by decide) kk
set_option maxRecDepth 20000 in
set_option maxHeartbeats 2000000 in
theorem at_sw8 (hX : Ctx VV sz RL cL_act (roomOf I_L_act 0 0) 7) {h p : Nat} (hs : upN x 16 = 8) (kk : VV 0 0 255 [(0, .ref (sz + 0)), (1, .int x), (2, .int y), (3, .int (nI h)), (4, .int (nI p)), (5, .int (sumS f 6))] [] (patch G 1 7 f, T)) : VV 0 0 53 [(0, .ref (sz + 0)), (1, .int x), (2, .int y), (3, .int (nI h)), (4, .int (nI p)), (5, .int (sumS f 6))] [.int (nI (upN x 16))] (patch G 1 7 f, T) := by
  rw [hs]
  exact ro_tableIn (tgt := 255) (off := 202) hX dL_act_53 (by decide) (by decide) (by decide +kernel) (by decide) kk
set_option maxRecDepth 20000 in
set_option maxHeartbeats 2000000 in
theorem at_sw9 (hX : Ctx VV sz RL cL_act (roomOf I_L_act 0 0) 7) {h p : Nat} (hs : upN x 16 = 9) (kk : VV 0 0 277 [(0, .ref (sz + 0)), (1, .int x), (2, .int y), (3, .int (nI h)), (4, .int (nI p)), (5, .int (sumS f 6))] [] (patch G 1 7 f, T)) : VV 0 0 53 [(0, .ref (sz + 0)), (1, .int x), (2, .int y), (3, .int (nI h)), (4, .int (nI p)), (5, .int (sumS f 6))] [.int (nI (upN x 16))] (patch G 1 7 f, T) := by
  rw [hs]
  exact ro_tableIn (tgt := 277) (off := 224) hX dL_act_53 (by decide) (by decide) (by decide +kernel) (by decide) kk
set_option maxRecDepth 20000 in
set_option maxHeartbeats 2000000 in
theorem at_sw10 (hX : Ctx VV sz RL cL_act (roomOf I_L_act 0 0) 7) {h p : Nat} (hs : upN x 16 = 10) (kk : VV 0 0 325 [(0, .ref (sz + 0)), (1, .int x), (2, .int y), (3, .int (nI h)), (4, .int (nI p)), (5, .int (sumS f 6))] [] (patch G 1 7 f, T)) : VV 0 0 53 [(0, .ref (sz + 0)), (1, .int x), (2, .int y), (3, .int (nI h)), (4, .int (nI p)), (5, .int (sumS f 6))] [.int (nI (upN x 16))] (patch G 1 7 f, T) := by
  rw [hs]
  exact ro_tableIn (tgt := 325) (off := 272) hX dL_act_53 (by decide) (by decide) (by decide +kernel) (by decide) kk
set_option maxRecDepth 20000 in
set_option maxHeartbeats 2000000 in
theorem at_sw11 (hX : Ctx VV sz RL cL_act (roomOf I_L_act 0 0) 7) {h p : Nat} (hs : upN x 16 = 11) (kk : VV 0 0 366 [(0, .ref (sz + 0)), (1, .int x), (2, .int y), (3, .int (nI h)), (4, .int (nI p)), (5, .int (sumS f 6))] [] (patch G 1 7 f, T)) : VV 0 0 53 [(0, .ref (sz + 0)), (1, .int x), (2, .int y), (3, .int (nI h)), (4, .int (nI p)), (5, .int (sumS f 6))] [.int (nI (upN x 16))] (patch G 1 7 f, T) := by
  rw [hs]
  exact ro_tableIn (tgt := 366) (off := 313) hX dL_act_53 (by decide) (by decide) (by decide +kernel) (by decide) kk
set_option maxRecDepth 20000 in
set_option maxHeartbeats 2000000 in
theorem at_sw12 (hX : Ctx VV sz RL cL_act (roomOf I_L_act 0 0) 7) {h p : Nat} (hs : upN x 16 = 12) (kk : VV 0 0 387 [(0, .ref (sz + 0)), (1, .int x), (2, .int y), (3, .int (nI h)), (4, .int (nI p)), (5, .int (sumS f 6))] [] (patch G 1 7 f, T)) : VV 0 0 53 [(0, .ref (sz + 0)), (1, .int x), (2, .int y), (3, .int (nI h)), (4, .int (nI p)), (5, .int (sumS f 6))] [.int (nI (upN x 16))] (patch G 1 7 f, T) := by
  rw [hs]
  exact ro_tableOut (tgt := 387) hX dL_act_53 (by decide) (by decide) kk
set_option maxRecDepth 20000 in
set_option maxHeartbeats 2000000 in
theorem at_sw13 (hX : Ctx VV sz RL cL_act (roomOf I_L_act 0 0) 7) {h p : Nat} (hs : upN x 16 = 13) (kk : VV 0 0 387 [(0, .ref (sz + 0)), (1, .int x), (2, .int y), (3, .int (nI h)), (4, .int (nI p)), (5, .int (sumS f 6))] [] (patch G 1 7 f, T)) : VV 0 0 53 [(0, .ref (sz + 0)), (1, .int x), (2, .int y), (3, .int (nI h)), (4, .int (nI p)), (5, .int (sumS f 6))] [.int (nI (upN x 16))] (patch G 1 7 f, T) := by
  rw [hs]
  exact ro_tableOut (tgt := 387) hX dL_act_53 (by decide) (by decide) kk
set_option maxRecDepth 20000 in
set_option maxHeartbeats 2000000 in
theorem at_sw14 (hX : Ctx VV sz RL cL_act (roomOf I_L_act 0 0) 7) {h p : Nat} (hs : upN x 16 = 14) (kk : VV 0 0 387 [(0, .ref (sz + 0)), (1, .int x), (2, .int y), (3, .int (nI h)), (4, .int (nI p)), (5, .int (sumS f 6))] [] (patch G 1 7 f, T)) : VV 0 0 53 [(0, .ref (sz + 0)), (1, .int x), (2, .int y), (3, .int (nI h)), (4, .int (nI p)), (5, .int (sumS f 6))] [.int (nI (upN x 16))] (patch G 1 7 f, T) := by
  rw [hs]
  exact ro_tableOut (tgt := 387) hX dL_act_53 (by decide) (by decide) kk
set_option maxRecDepth 20000 in
set_option maxHeartbeats 2000000 in
theorem at_sw15 (hX : Ctx VV sz RL cL_act (roomOf I_L_act 0 0) 7) {h p : Nat} (hs : upN x 16 = 15) (kk : VV 0 0 387 [(0, .ref (sz + 0)), (1, .int x), (2, .int y), (3, .int (nI h)), (4, .int (nI p)), (5, .int (sumS f 6))] [] (patch G 1 7 f, T)) : VV 0 0 53 [(0, .ref (sz + 0)), (1, .int x), (2, .int y), (3, .int (nI h)), (4, .int (nI p)), (5, .int (sumS f 6))] [.int (nI (upN x 16))] (patch G 1 7 f, T) := by
  rw [hs]
  exact ro_tableOut (tgt := 387) hX dL_act_53 (by decide) (by decide) kk
end
/-! what a good State says of the pool's answers -/
theorem st_none {f : SV} {p : Nat} : stS f p = -1 ↔ exS f p = false := by
  unfold stS
  cases h : exS f p with
  | false => simp
  | true =>
    rw [if_pos rfl]
    refine ⟨fun e => ?_, fun e => by cases e⟩
    exfalso
    (repeat' split at e) <;> first | exact absurd e (ni_m1 (by decide)) | exact absurd e (by decide)
section
variable {f : SV} {B M : Nat}
theorem good_rm (hf : GoodS f B M) {h : Nat} (hh : h < 6) : ∃ c, c ≤ 20 ∧ rmS f h = nI c := by
  obtain ⟨⟨s, hS, hJ, h6⟩, hX⟩ := hf
  rw [sim_rm hS hh]
  unfold feM
  cases hl : leM s 0 h with
  | false => exact ⟨0, by decide, by rw [if_neg (by decide)]⟩
  | true =>
    rw [if_pos rfl]
    obtain ⟨c, c1, c2, c3⟩ := (hJ.2.2.2.1 h hh).2.2 (le_spec hl).1
    exact ⟨c - usM s 0 h, by omega, by rw [c2, ni_sub c3]⟩
theorem sum_0 (hf : GoodS f B M) (hz : ∀ h, h < 6 → rmS f h ≤ 0) : ∀ k, k ≤ 6 → sumS f k = nI 0 := by
  intro k
  induction k with
  | zero => intro _; rfl
  | succ k ih =>
    intro hk
    obtain ⟨c, c1, c2⟩ := good_rm hf (h := k) (by omega)
    have h1 := hz k (by omega)
    rw [c2, ni_le0 (by omega)] at h1
    rw [sumS, ih (by omega), c2, h1]
    rfl
theorem bh_none {s : NV} {b p : Nat} : ∀ k, (bhM s b p k).1 = none → (bhM s b p k).2 = nI 0 ∧ ∀ h, h < k → rbM s b p h ≤ nI 0 := by
  intro k
  induction k with
  | zero => intro _; exact ⟨rfl, fun h hh => absurd hh (Nat.not_lt_zero h)⟩
  | succ k ih =>
    intro e
    rw [bhM] at e ⊢
    split at e
    · rename_i h1
      rw [if_pos h1]
      obtain ⟨i1, i2⟩ := ih e
      refine ⟨i1, fun h hh => ?_⟩
      by_cases q : h = k
      · subst q; rw [i1] at h1; exact h1
      · exact i2 h (by omega)
    · cases e
theorem good_add (hf : GoodS f B M) {p : Nat} (hp : p < 30) (he : exS f p = false) (hr : ¬ sumS f 6 ≤ 0) : caddS f p = true := by
  have hex : ∃ h, h < 6 ∧ ¬ rmS f h ≤ 0 := Classical.byContradiction fun hn => hr (by
    have hz : ∀ h, h < 6 → rmS f h ≤ 0 := fun h hh => Classical.byContradiction fun q => hn ⟨h, hh, q⟩
    rw [sum_0 hf hz 6 (Nat.le_refl 6)]
    decide)
  obtain ⟨h, hh, hpos⟩ := hex
  obtain ⟨⟨s, hS, hJ, h6⟩, hX⟩ := hf
  unfold caddS
  rw [he, sim_bo hS hp, Bool.not_false, Bool.true_and]
  cases hb : boM s 0 p with
  | some u => rfl
  | none =>
    exfalso
    have h1 := (bh_none (s := s) (b := 0) (p := p) 6 hb).2 h hh
    rw [nI_0] at h1
    have hth : thM s 0 p = false := by
      have := (hS.2.2.2.2.2.1 p hp).1
      rw [← this]; exact he
    rw [sim_rm hS hh] at hpos
    unfold rbM at h1
    by_cases hr0 : rpM s 0 h p ≤ 0
    · rw [if_pos hr0] at h1
      exact hpos h1
    · rw [if_neg hr0] at h1
      by_cases hl : leM s 0 h = true
      · have h2 := hJ.2.1 h hh p hp (le_spec hl).2 hr0
        have h3 := fs_th h2
        rw [hth] at h3
        cases h3
      · apply hpos
        unfold feM
        rw [if_neg hl, nI_0]
        exact Int32.le_refl 0
end

section
variable {f g : SV} {B M : Nat}
def ActAt (f g : SV) (x y : Int32) (v : Nat) (f' : SV) : Prop := ∀ (sz : Nat) (G : Nat → Nat → Int32) (T : (Nat → Nat) × Int64) (n : Nat) (VV : VT), WorldS G T n g → CtxF VV sz RL cL_act (some .int) (roomOf I_L_act 0 0) 7 (.inl (some (nI v))) (patch (rmG G f T n) 1 7 f', rmT T n) 0 0 → VV 0 0 53 [(0, .ref (sz + 0)), (1, .int x), (2, .int y), (3, .int (nI (upN y 6))), (4, .int (nI (upN (y >>> (nI 3 &&& 31)) 10))), (5, .int (sumS f 6))] [.int (nI (upN x 16))] (patch G 1 7 f, T)
theorem act_of {x y : Int32} {I : MI} {As : List Value} (h : OpOk f g B M I As) (k : ∀ (v : Nat) (f' : SV) (sz : Nat) (G : Nat → Nat → Int32) (T : (Nat → Nat) × Int64) (n : Nat) (VV : VT), WorldS G T n g → CtxF VV sz RL cL_act (some .int) (roomOf I_L_act 0 0) 7 (.inl (some (nI v))) (patch (rmG G f T n) 1 7 f', rmT T n) 0 0 → Does sz I (.ref (sz + 0) :: As) (patch G 1 7 f, T) 0 0 (.inl (some (nI v))) (patch (rmG G f T n) 1 7 f', rmT T n) → VV 0 0 53 [(0, .ref (sz + 0)), (1, .int x), (2, .int y), (3, .int (nI (upN y 6))), (4, .int (nI (upN (y >>> (nI 3 &&& 31)) 10))), (5, .int (sumS f 6))] [.int (nI (upN x 16))] (patch G 1 7 f, T)) : OpOk f g B M I_L_act [.int x, .int y] := by
  obtain ⟨v, f', hv, hG, hD⟩ := h
  refine ⟨v, f', hv, hG, fun sz G T n hW => ?_⟩
  refine Does.of (L := [(0, .ref (sz + 0)), (1, .int x), (2, .int y)]) (by decide +kernel) (Nat.le_of_ble_eq_true rfl) rfl ⟨rfl, (by simp), ⟨rfl, (by simp), ⟨rfl, (by simp), trivial⟩⟩⟩ (fun VV hF => ?_)
  exact at_head hF.c (k v f' sz G T n VV hW hF (hD sz G T n hW))
theorem act_ok (hf : GoodS f B M) (hg : GoodS g B M) (hB : B < 500000) (hM : M ≤ 500000) (x y : Int32) : OpOk f g B M I_L_act [.int x, .int y] := by
  have hh : upN y 6 < 6 := upN_lt (by decide)
  have hp : upN (y >>> (nI 3 &&& 31)) 10 < 10 := upN_lt (by decide)
  have hx : upN x 16 < 16 := upN_lt (by decide)
  have hv : upN (y >>> (nI 7 &&& 31)) 10000 < 10000 := upN_lt (by decide)
  have l6 : upN (y >>> (nI 3 &&& 31)) 6 < 6 := upN_lt (by decide)
  have l50 : upN (y >>> (nI 3 &&& 31)) 50 < 50 := upN_lt (by decide)
  have l12 : upN y 12 < 12 := upN_lt (by decide)
  have l5 : upN y 5 < 5 := upN_lt (by decide)
  have l40 : upN y 40 < 40 := upN_lt (by decide)
  have l4 : upN y 4 < 4 := upN_lt (by decide)
  generalize hP : upN (y >>> (nI 3 &&& 31)) 10 = p at hp
  generalize hH : upN y 6 = h at hh
  have c0 : ∀ i, i = 0 ∨ i = 1 ∨ i = 2 ∨ i = 3 → upN x 16 = i → OpOk f g B M I_L_act [.int x, .int y] := by
    intro i hi he
    by_cases hs : stS f p = -1
    · by_cases hr : sumS f 6 ≤ 0
      · refine act_of (ok_pass hf hM (k := 1) (by omega)) fun v f' sz G T n VV hW hF hD => ?_
        rw [hP, hH]
        rcases hi with rfl | rfl | rfl | rfl
        · exact at_sw0 hF.c he (at_pass1 hF hh hp hs hr hD)
        · exact at_sw1 hF.c he (at_pass1 hF hh hp hs hr hD)
        · exact at_sw2 hF.c he (at_pass1 hF hh hp hs hr hD)
        · exact at_sw3 hF.c he (at_pass1 hF hh hp hs hr hD)
      · refine act_of (ok_store hf hB hM (p := p) (by omega) hv (good_add hf (by omega) (st_none.mp hs) hr)) fun v f' sz G T n VV hW hF hD => ?_
        rw [hP, hH]
        rcases hi with rfl | rfl | rfl | rfl
        · exact at_sw0 hF.c he (at_store hF hh hp hs hr hD)
        · exact at_sw1 hF.c he (at_store hF hh hp hs hr hD)
        · exact at_sw2 hF.c he (at_store hF hh hp hs hr hD)
        · exact at_sw3 hF.c he (at_store hF hh hp hs hr hD)
    · have hex : exS f p = true := by
        cases q : exS f p with
        | true => rfl
        | false => exact absurd (st_none.mpr q) hs
      by_cases hr : cpS f p = 0
      · refine act_of (ok_remove hf hM (p := p) (by omega) hex) fun v f' sz G T n VV hW hF hD => ?_
        rw [hP, hH]
        rcases hi with rfl | rfl | rfl | rfl
        · exact at_sw0 hF.c he (at_remove hF hh hp hs hr hD)
        · exact at_sw1 hF.c he (at_remove hF hh hp hs hr hD)
        · exact at_sw2 hF.c he (at_remove hF hh hp hs hr hD)
        · exact at_sw3 hF.c he (at_remove hF hh hp hs hr hD)
      · refine act_of (ok_write hf hB hM (p := p) (by omega) hv (by unfold reS; rw [hex, decide_eq_true hr]; rfl)) fun v f' sz G T n VV hW hF hD => ?_
        rw [hP, hH]
        rcases hi with rfl | rfl | rfl | rfl
        · exact at_sw0 hF.c he (at_write hF hh hp hs hr hD)
        · exact at_sw1 hF.c he (at_write hF hh hp hs hr hD)
        · exact at_sw2 hF.c he (at_write hF hh hp hs hr hD)
        · exact at_sw3 hF.c he (at_write hF hh hp hs hr hD)
  have cd : ∀ i, i = 12 ∨ i = 13 ∨ i = 14 ∨ i = 15 → upN x 16 = i → OpOk f g B M I_L_act [.int x, .int y] := by
    intro i hi he
    cases hs : tb (f 0 7) (nI h) with
    | false =>
      refine act_of (ok_reconnect hf hM hh hs) fun v f' sz G T n VV hW hF hD => ?_
      rw [hP, hH]
      rcases hi with rfl | rfl | rfl | rfl
      · exact at_sw12 hF.c he (at_recon2 hF hh hp hs hD)
      · exact at_sw13 hF.c he (at_recon2 hF hh hp hs hD)
      · exact at_sw14 hF.c he (at_recon2 hF hh hp hs hD)
      · exact at_sw15 hF.c he (at_recon2 hF hh hp hs hD)
    | true =>
      by_cases hr : f 1 h = 0
      · refine act_of (ok_lend hf hM hh (c := 1 + upN (y >>> (nI 3 &&& 31)) 6) (by omega) (by unfold cbegS; rw [decide_eq_true hr, hs]; rfl)) fun v f' sz G T n VV hW hF hD => ?_
        rw [hP, hH]
        rcases hi with rfl | rfl | rfl | rfl
        · exact at_sw12 hF.c he (at_lend2 hF hh hp hs hr hD)
        · exact at_sw13 hF.c he (at_lend2 hF hh hp hs hr hD)
        · exact at_sw14 hF.c he (at_lend2 hF hh hp hs hr hD)
        · exact at_sw15 hF.c he (at_lend2 hF hh hp hs hr hD)
      · refine act_of (ok_pass hf hM (k := 1 + upN y 4) (by omega)) fun v f' sz G T n VV hW hF hD => ?_
        rw [hP, hH]
        rcases hi with rfl | rfl | rfl | rfl
        · exact at_sw12 hF.c he (at_pass4 hF hh hp hs hr hD)
        · exact at_sw13 hF.c he (at_pass4 hF hh hp hs hr hD)
        · exact at_sw14 hF.c he (at_pass4 hF hh hp hs hr hD)
        · exact at_sw15 hF.c he (at_pass4 hF hh hp hs hr hD)
  have c67 : ∀ i, i = 6 ∨ i = 7 → upN x 16 = i → OpOk f g B M I_L_act [.int x, .int y] := by
    intro i hi he
    by_cases hs : (y >>> (nI 9 &&& 31)) &&& nI 1 = 0
    · refine act_of (ok_pass hf hM (k := 1 + upN y 5) (by omega)) fun v f' sz G T n VV hW hF hD => ?_
      rw [hP, hH]
      rcases hi with rfl | rfl
      · exact at_sw6 hF.c he (at_pass5 hF hh hp hs hD)
      · exact at_sw7 hF.c he (at_pass5 hF hh hp hs hD)
    · refine act_of (ok_pass hf hM (k := 1 + upN y 40) (by omega)) fun v f' sz G T n VV hW hF hD => ?_
      rw [hP, hH]
      rcases hi with rfl | rfl
      · exact at_sw6 hF.c he (at_pass40 hF hh hp hs hD)
      · exact at_sw7 hF.c he (at_pass40 hF hh hp hs hD)
  have hi : (upN x 16 = 0 ∨ upN x 16 = 1 ∨ upN x 16 = 2 ∨ upN x 16 = 3) ∨ (upN x 16 = 12 ∨ upN x 16 = 13 ∨ upN x 16 = 14 ∨ upN x 16 = 15) ∨ (upN x 16 = 6 ∨ upN x 16 = 7) ∨ upN x 16 = 4 ∨ upN x 16 = 5 ∨ upN x 16 = 8 ∨ upN x 16 = 9 ∨ upN x 16 = 10 ∨ upN x 16 = 11 := by omega
  rcases hi with hi | hi | hi | he | he | he | he | he | he
  · exact c0 _ hi rfl
  · exact cd _ hi rfl
  · exact c67 _ hi rfl
  · by_cases hs : stS f p = -1
    · refine act_of (ok_pass hf hM (k := 2) (by omega)) fun v f' sz G T n VV hW hF hD => ?_
      rw [hP, hH]
      exact at_sw4 hF.c he (at_pass2 hF hh hp hs hD)
    · have hex : exS f p = true := by
        cases q : exS f p with
        | true => rfl
        | false => exact absurd (st_none.mpr q) hs
      refine act_of (ok_remove hf hM (p := p) (by omega) hex) fun v f' sz G T n VV hW hF hD => ?_
      rw [hP, hH]
      exact at_sw4 hF.c he (at_remove2 hF hh hp hs hD)
  · refine act_of (ok_stt hf hM (k := 1 + upN y 12) (by omega)) fun v f' sz G T n VV hW hF hD => ?_
    rw [hP, hH]
    exact at_sw5 hF.c he (at_stt hF hh hp hD)
  · by_cases hs : f 1 h = 0
    · refine act_of (ok_pass hf hM (k := 3) (by omega)) fun v f' sz G T n VV hW hF hD => ?_
      rw [hP, hH]
      exact at_sw8 hF.c he (at_pass3 hF hh hp hs hD)
    · refine act_of (ok_crash hf hM hh (by unfold cbrkS; exact decide_eq_true hs)) fun v f' sz G T n VV hW hF hD => ?_
      rw [hP, hH]
      exact at_sw8 hF.c he (at_crash hF hh hp hs hD)
  · cases hs : tb (f 0 7) (nI h) with
    | false =>
      refine act_of (ok_reconnect hf hM hh hs) fun v f' sz G T n VV hW hF hD => ?_
      rw [hP, hH]
      exact at_sw9 hF.c he (at_recon hF hh hp hs hD)
    | true =>
      by_cases hr : f 1 h = 0
      · refine act_of (ok_lend hf hM hh (c := 1 + upN (y >>> (nI 3 &&& 31)) 6) (by omega) (by unfold cbegS; rw [decide_eq_true hr, hs]; rfl)) fun v f' sz G T n VV hW hF hD => ?_
        rw [hP, hH]
        exact at_sw9 hF.c he (at_lend hF hh hp hs hr hD)
      · refine act_of (ok_disconnect hf hM hh (by unfold cdetS; rw [decide_eq_true hr, hs]; rfl)) fun v f' sz G T n VV hW hF hD => ?_
        rw [hP, hH]
        exact at_sw9 hF.c he (at_disc hF hh hp hs hr hD)
  · cases hs : tb (f 0 7) (nI h) with
    | false =>
      refine act_of (ok_pass hf hM (k := 1) (by omega)) fun v f' sz G T n VV hW hF hD => ?_
      rw [hP, hH]
      exact at_sw10 hF.c he (at_pass1c hF hh hp hs hD)
    | true =>
      by_cases hr : f 1 h = nI 1
      · refine act_of (ok_recall hf hM hh (c := 1 + upN (y >>> (nI 3 &&& 31)) 50) (by omega) (by unfold opS; rw [decide_eq_true hr, hs]; rfl)) fun v f' sz G T n VV hW hF hD => ?_
        rw [hP, hH]
        exact at_sw10 hF.c he (at_recall hF hh hp hs hr hD)
      · refine act_of (ok_pass hf hM (k := 1) (by omega)) fun v f' sz G T n VV hW hF hD => ?_
        rw [hP, hH]
        exact at_sw10 hF.c he (at_pass1d hF hh hp hs hr hD)
  · by_cases hs : y &&& nI 7 = 0
    · refine act_of (ok_restore hg hM) fun v f' sz G T n VV hW hF hD => ?_
      rw [hP, hH]
      exact at_sw11 hF.c he (at_restore hF hh hp hs hD)
    · refine act_of (ok_pass hf hM (k := 1) (by omega)) fun v f' sz G T n VV hW hF hD => ?_
      rw [hP, hH]
      exact at_sw11 hF.c he (at_pass1e hF hh hp hs hD)
end
