section
variable {sz r : Nat} {G : Nat → Nat → Int32} {T : (Nat → Nat) × Int64} {f : SV}
set_option maxRecDepth 20000 in
set_option maxHeartbeats 2000000 in
theorem p_reqIndex_t {M : Mem} {x : Int32} {m : Nat} (hx : isR x m = true) : Does sz I_X2_requireIndex [.int x, .int (nI m)] M 0 0 (.inl none) M := by
  refine Does.of (L := [(0, .int x), (1, .int (nI m))]) (by decide +kernel) (Nat.le_of_ble_eq_true rfl) rfl ⟨rfl, (by simp), ⟨rfl, (by simp), trivial⟩⟩ (fun VV hF => ?_)
  have hX := hF.c
  refine ro_iload_n (i := 0) (q := 1) hX dX2_requireIndex_0 rfl rfl rfl ?_
  refine ro_if_lt (tgt := 9) (q := 4) hX dX2_requireIndex_1 (by decide) rfl (fun q => absurd q ((isR_p hx).1)) (fun _ => ?_)
  refine ro_iload_n (i := 0) (q := 5) hX dX2_requireIndex_4 rfl rfl rfl ?_
  refine ro_iload_n (i := 1) (q := 6) hX dX2_requireIndex_5 rfl rfl rfl ?_
  refine ro_icmp_lt (tgt := 19) (q := 9) hX dX2_requireIndex_6 (by decide) rfl (fun _ => ?_) (fun q => absurd ((isR_p hx).2) q)
  exact fin_v hF (Nat.le_of_ble_eq_true rfl) (Nat.le_of_ble_eq_true rfl) dX2_requireIndex_19 (by rfl)
set_option maxRecDepth 20000 in
set_option maxHeartbeats 2000000 in
theorem p_reqRange_t {M : Mem} {x y z : Int32} (hx : inB x y z = true) : Does sz I_X2_requireRange [.int x, .int y, .int z] M 0 0 (.inl none) M := by
  refine Does.of (L := [(0, .int x), (1, .int y), (2, .int z)]) (by decide +kernel) (Nat.le_of_ble_eq_true rfl) rfl ⟨rfl, (by simp), ⟨rfl, (by simp), ⟨rfl, (by simp), trivial⟩⟩⟩ (fun VV hF => ?_)
  have hX := hF.c
  refine ro_iload_n (i := 0) (q := 1) hX dX2_requireRange_0 rfl rfl rfl ?_
  refine ro_iload_n (i := 1) (q := 2) hX dX2_requireRange_1 rfl rfl rfl ?_
  refine ro_icmp_lt (tgt := 10) (q := 5) hX dX2_requireRange_2 (by decide) rfl (fun q => absurd q ((inB_p hx).1)) (fun _ => ?_)
  refine ro_iload_n (i := 0) (q := 6) hX dX2_requireRange_5 rfl rfl rfl ?_
  refine ro_iload_n (i := 2) (q := 7) hX dX2_requireRange_6 rfl rfl rfl ?_
  refine ro_icmp_le (tgt := 20) (q := 10) hX dX2_requireRange_7 (by decide) rfl (fun _ => ?_) (fun q => absurd ((inB_p hx).2) q)
  exact fin_v hF (Nat.le_of_ble_eq_true rfl) (Nat.le_of_ble_eq_true rfl) dX2_requireRange_20 (by rfl)
set_option maxRecDepth 20000 in
set_option maxHeartbeats 2000000 in
theorem p_reqState_t {M : Mem} {b : Bool} (hb : b = true) : Does sz I_X2_requireState [.int (bi b)] M 0 0 (.inl none) M := by
  refine Does.of (L := [(0, .int (bi b))]) (by decide +kernel) (Nat.le_of_ble_eq_true rfl) rfl ⟨rfl, (by simp), trivial⟩ (fun VV hF => ?_)
  have hX := hF.c
  refine ro_iload_n (i := 0) (q := 1) hX dX2_requireState_0 rfl rfl rfl ?_
  refine ro_if_ne (tgt := 14) (q := 4) hX dX2_requireState_1 (by decide) rfl (fun _ => ?_) (fun q => absurd q (bi_n.mpr hb))
  exact fin_v hF (Nat.le_of_ble_eq_true rfl) (Nat.le_of_ble_eq_true rfl) dX2_requireState_14 (by rfl)
set_option maxRecDepth 20000 in
set_option maxHeartbeats 2000000 in
theorem p_reqPage_t {M : Mem} {x : Int32} (hx : isR x 30 = true) : Does sz I_X2_requirePage [.int x] M 0 0 (.inl none) M := by
  refine Does.of (L := [(0, .int x)]) (by decide +kernel) (Nat.le_of_ble_eq_true rfl) rfl ⟨rfl, (by simp), trivial⟩ (fun VV hF => ?_)
  have hX := hF.c
  refine ro_iload_n (i := 0) (q := 1) hX dX2_requirePage_0 rfl rfl rfl ?_
  refine ro_bipush (v := nI 30) (q := 3) hX dX2_requirePage_1 rfl rfl ?_
  refine ro_callSv (q9 := 6) hX (p_reqIndex_t hx) mw_X2_requireIndex kl_X2_162 rfl rfl (Nat.le_of_ble_eq_true rfl) ⟨Nat.le_of_ble_eq_true rfl, Nat.le_of_ble_eq_true rfl⟩ dX2_requirePage_3 ⟨Nat.le_of_ble_eq_true rfl, Nat.le_of_ble_eq_true rfl⟩ rfl ?_
  exact fin_v hF (Nat.le_of_ble_eq_true rfl) (Nat.le_of_ble_eq_true rfl) dX2_requirePage_6 (by rfl)
set_option maxRecDepth 20000 in
set_option maxHeartbeats 2000000 in
theorem p_reqHost_t {M : Mem} {x : Int32} (hx : isR x 6 = true) : Does sz I_X2_requireHost [.int x] M 0 0 (.inl none) M := by
  refine Does.of (L := [(0, .int x)]) (by decide +kernel) (Nat.le_of_ble_eq_true rfl) rfl ⟨rfl, (by simp), trivial⟩ (fun VV hF => ?_)
  have hX := hF.c
  refine ro_iload_n (i := 0) (q := 1) hX dX2_requireHost_0 rfl rfl rfl ?_
  refine ro_bipush (v := nI 6) (q := 3) hX dX2_requireHost_1 rfl rfl ?_
  refine ro_callSv (q9 := 6) hX (p_reqIndex_t hx) mw_X2_requireIndex kl_X2_162 rfl rfl (Nat.le_of_ble_eq_true rfl) ⟨Nat.le_of_ble_eq_true rfl, Nat.le_of_ble_eq_true rfl⟩ dX2_requireHost_3 ⟨Nat.le_of_ble_eq_true rfl, Nat.le_of_ble_eq_true rfl⟩ rfl ?_
  exact fin_v hF (Nat.le_of_ble_eq_true rfl) (Nat.le_of_ble_eq_true rfl) dX2_requireHost_6 (by rfl)
end
