section
variable {sz r : Nat} {G : Nat → Nat → Int32} {T : (Nat → Nat) × Int64} {F : SV} {s : NV}
set_option maxRecDepth 20000 in
set_option maxHeartbeats 2000000 in
theorem m_holds_0 : Does sz I_X3_holds [.ref (sz + 75), .int (nI 0)] (patch G 75 4 (mS F s), T) 0 0 (.inl (some (nI 1))) (patch G 75 4 (mS (put F 0 0 (nI 0)) s), T) := by
  refine Does.of (L := [(0, .ref (sz + 75)), (1, .int (nI 0))]) (by decide +kernel) (Nat.le_of_ble_eq_true rfl) rfl ⟨rfl, (by simp), ⟨rfl, (by simp), trivial⟩⟩ (fun VV hF => ?_)
  have hX := hF.c
  refine ro_aload_n (i := 0) (q := 1) hX dX3_holds_0 rfl rfl rfl ?_
  refine ro_iload_n (i := 1) (q := 2) hX dX3_holds_1 rfl rfl rfl ?_
  refine ro_Npi (j := 0) (q9 := 5) (ty := .int) (by decide) hX rfl rfl rfl kf_X3_20 dX3_holds_2 rfl ?_
  refine ro_iload_n (i := 1) (q := 6) hX dX3_holds_5 rfl rfl rfl ?_
  refine ro_if_ne (tgt := 13) (q := 9) hX dX3_holds_6 (by decide) rfl (fun q => absurd (by decide) q) (fun _ => ?_)
  refine ro_iconst (v := nI 1) (q := 10) hX dX3_holds_9 rfl rfl ?_
  refine ro_goto (tgt := 14) hX dX3_holds_10 (by decide) ?_
  exact fin_z hF (Nat.le_of_ble_eq_true rfl) (Nat.le_of_ble_eq_true rfl) dX3_holds_14 rfl (by rfl) (by rfl)
set_option maxRecDepth 20000 in
set_option maxHeartbeats 2000000 in
theorem m_holds_1 : Does sz I_X3_holds [.ref (sz + 75), .int (nI 1)] (patch G 75 4 (mS F s), T) 0 0 (.inl (some (nI 0))) (patch G 75 4 (mS (put F 0 0 (nI 1)) s), T) := by
  refine Does.of (L := [(0, .ref (sz + 75)), (1, .int (nI 1))]) (by decide +kernel) (Nat.le_of_ble_eq_true rfl) rfl ⟨rfl, (by simp), ⟨rfl, (by simp), trivial⟩⟩ (fun VV hF => ?_)
  have hX := hF.c
  refine ro_aload_n (i := 0) (q := 1) hX dX3_holds_0 rfl rfl rfl ?_
  refine ro_iload_n (i := 1) (q := 2) hX dX3_holds_1 rfl rfl rfl ?_
  refine ro_Npi (j := 0) (q9 := 5) (ty := .int) (by decide) hX rfl rfl rfl kf_X3_20 dX3_holds_2 rfl ?_
  refine ro_iload_n (i := 1) (q := 6) hX dX3_holds_5 rfl rfl rfl ?_
  refine ro_if_ne (tgt := 13) (q := 9) hX dX3_holds_6 (by decide) rfl (fun _ => ?_) (fun q => absurd q (by decide))
  refine ro_iconst (v := nI 0) (q := 14) hX dX3_holds_13 rfl rfl ?_
  exact fin_z hF (Nat.le_of_ble_eq_true rfl) (Nat.le_of_ble_eq_true rfl) dX3_holds_14 rfl (by rfl) (by rfl)
set_option maxRecDepth 20000 in
set_option maxHeartbeats 2000000 in
theorem m_holds_2 : Does sz I_X3_holds [.ref (sz + 75), .int (nI 2)] (patch G 75 4 (mS F s), T) 0 0 (.inl (some (nI 0))) (patch G 75 4 (mS (put F 0 0 (nI 2)) s), T) := by
  refine Does.of (L := [(0, .ref (sz + 75)), (1, .int (nI 2))]) (by decide +kernel) (Nat.le_of_ble_eq_true rfl) rfl ⟨rfl, (by simp), ⟨rfl, (by simp), trivial⟩⟩ (fun VV hF => ?_)
  have hX := hF.c
  refine ro_aload_n (i := 0) (q := 1) hX dX3_holds_0 rfl rfl rfl ?_
  refine ro_iload_n (i := 1) (q := 2) hX dX3_holds_1 rfl rfl rfl ?_
  refine ro_Npi (j := 0) (q9 := 5) (ty := .int) (by decide) hX rfl rfl rfl kf_X3_20 dX3_holds_2 rfl ?_
  refine ro_iload_n (i := 1) (q := 6) hX dX3_holds_5 rfl rfl rfl ?_
  refine ro_if_ne (tgt := 13) (q := 9) hX dX3_holds_6 (by decide) rfl (fun _ => ?_) (fun q => absurd q (by decide))
  refine ro_iconst (v := nI 0) (q := 14) hX dX3_holds_13 rfl rfl ?_
  exact fin_z hF (Nat.le_of_ble_eq_true rfl) (Nat.le_of_ble_eq_true rfl) dX3_holds_14 rfl (by rfl) (by rfl)
set_option maxRecDepth 20000 in
set_option maxHeartbeats 2000000 in
theorem m_holds_3 : Does sz I_X3_holds [.ref (sz + 75), .int (nI 3)] (patch G 75 4 (mS F s), T) 0 0 (.inl (some (nI 0))) (patch G 75 4 (mS (put F 0 0 (nI 3)) s), T) := by
  refine Does.of (L := [(0, .ref (sz + 75)), (1, .int (nI 3))]) (by decide +kernel) (Nat.le_of_ble_eq_true rfl) rfl ⟨rfl, (by simp), ⟨rfl, (by simp), trivial⟩⟩ (fun VV hF => ?_)
  have hX := hF.c
  refine ro_aload_n (i := 0) (q := 1) hX dX3_holds_0 rfl rfl rfl ?_
  refine ro_iload_n (i := 1) (q := 2) hX dX3_holds_1 rfl rfl rfl ?_
  refine ro_Npi (j := 0) (q9 := 5) (ty := .int) (by decide) hX rfl rfl rfl kf_X3_20 dX3_holds_2 rfl ?_
  refine ro_iload_n (i := 1) (q := 6) hX dX3_holds_5 rfl rfl rfl ?_
  refine ro_if_ne (tgt := 13) (q := 9) hX dX3_holds_6 (by decide) rfl (fun _ => ?_) (fun q => absurd q (by decide))
  refine ro_iconst (v := nI 0) (q := 14) hX dX3_holds_13 rfl rfl ?_
  exact fin_z hF (Nat.le_of_ble_eq_true rfl) (Nat.le_of_ble_eq_true rfl) dX3_holds_14 rfl (by rfl) (by rfl)
theorem m_in_t {x y z : Int32} (h : inB x y z = true) : Does sz I_X3_in [.int x, .int y, .int z] (patch G 75 4 (mS F s), T) 0 0 (.inl (some (nI 1))) (patch G 75 4 (mS F s), T) := Does.M (m_in (x := x) (y := y) (z := z)) rfl (by show Sum.inl (some (bi (inB x y z))) = _; rw [h]; rfl) rfl
theorem m_in_f {x y z : Int32} (h : inB x y z = false) : Does sz I_X3_in [.int x, .int y, .int z] (patch G 75 4 (mS F s), T) 0 0 (.inl (some (nI 0))) (patch G 75 4 (mS F s), T) := Does.M (m_in (x := x) (y := y) (z := z)) rfl (by show Sum.inl (some (bi (inB x y z))) = _; rw [h]; rfl) rfl
set_option maxRecDepth 20000 in
set_option maxHeartbeats 2000000 in
theorem m_isPage0 {x : Int32} : Does sz I_X3_isPage [.int x] (patch G 75 4 (mS F s), T) 0 0 (.inl (some (bi (inB x (nI 0) (nI 29))))) (patch G 75 4 (mS F s), T) := by
  refine Does.of (L := [(0, .int x)]) (by decide +kernel) (Nat.le_of_ble_eq_true rfl) rfl ⟨rfl, (by simp), trivial⟩ (fun VV hF => ?_)
  have hX := hF.c
  refine ro_iload_n (i := 0) (q := 1) hX dX3_isPage_0 rfl rfl rfl ?_
  refine ro_iconst (v := nI 0) (q := 2) hX dX3_isPage_1 rfl rfl ?_
  refine ro_bipush (v := nI 29) (q := 4) hX dX3_isPage_2 rfl rfl ?_
  refine ro_callSi (q9 := 7) hX (m_in) mw_X3_in kl_X3_24 rfl rfl (Nat.le_of_ble_eq_true rfl) ⟨Nat.le_of_ble_eq_true rfl, Nat.le_of_ble_eq_true rfl⟩ dX3_isPage_4 ⟨Nat.le_of_ble_eq_true rfl, Nat.le_of_ble_eq_true rfl⟩ rfl ?_
  exact fin_z hF (Nat.le_of_ble_eq_true rfl) (Nat.le_of_ble_eq_true rfl) dX3_isPage_7 (bi_nar _) (by rfl) (by rfl)
theorem m_isPage_t {p : Nat} (hp : p < 30) : Does sz I_X3_isPage [.int (nI p)] (patch G 75 4 (mS F s), T) 0 0 (.inl (some (nI 1))) (patch G 75 4 (mS F s), T) := Does.M (m_isPage0 (x := nI p)) rfl (by rw [isR_in (n := 30) (by decide) (by decide), isR_t hp (by decide)]; rfl) rfl
theorem m_isPage_f {x : Int32} (hx : isR x 30 = false) : Does sz I_X3_isPage [.int x] (patch G 75 4 (mS F s), T) 0 0 (.inl (some (nI 0))) (patch G 75 4 (mS F s), T) := Does.M (m_isPage0 (x := x)) rfl (by rw [isR_in (n := 30) (by decide) (by decide), hx]; rfl) rfl
set_option maxRecDepth 20000 in
set_option maxHeartbeats 2000000 in
theorem m_isHost0 {x : Int32} : Does sz I_X3_isHost [.int x] (patch G 75 4 (mS F s), T) 0 0 (.inl (some (bi (inB x (nI 0) (nI 5))))) (patch G 75 4 (mS F s), T) := by
  refine Does.of (L := [(0, .int x)]) (by decide +kernel) (Nat.le_of_ble_eq_true rfl) rfl ⟨rfl, (by simp), trivial⟩ (fun VV hF => ?_)
  have hX := hF.c
  refine ro_iload_n (i := 0) (q := 1) hX dX3_isHost_0 rfl rfl rfl ?_
  refine ro_iconst (v := nI 0) (q := 2) hX dX3_isHost_1 rfl rfl ?_
  refine ro_iconst (v := nI 5) (q := 3) hX dX3_isHost_2 rfl rfl ?_
  refine ro_callSi (q9 := 6) hX (m_in) mw_X3_in kl_X3_24 rfl rfl (Nat.le_of_ble_eq_true rfl) ⟨Nat.le_of_ble_eq_true rfl, Nat.le_of_ble_eq_true rfl⟩ dX3_isHost_3 ⟨Nat.le_of_ble_eq_true rfl, Nat.le_of_ble_eq_true rfl⟩ rfl ?_
  exact fin_z hF (Nat.le_of_ble_eq_true rfl) (Nat.le_of_ble_eq_true rfl) dX3_isHost_6 (bi_nar _) (by rfl) (by rfl)
theorem m_isHost_t {p : Nat} (hp : p < 6) : Does sz I_X3_isHost [.int (nI p)] (patch G 75 4 (mS F s), T) 0 0 (.inl (some (nI 1))) (patch G 75 4 (mS F s), T) := Does.M (m_isHost0 (x := nI p)) rfl (by rw [isR_in (n := 6) (by decide) (by decide), isR_t hp (by decide)]; rfl) rfl
theorem m_isHost_f {x : Int32} (hx : isR x 6 = false) : Does sz I_X3_isHost [.int x] (patch G 75 4 (mS F s), T) 0 0 (.inl (some (nI 0))) (patch G 75 4 (mS F s), T) := Does.M (m_isHost0 (x := x)) rfl (by rw [isR_in (n := 6) (by decide) (by decide), hx]; rfl) rfl
theorem m_keeps {v : Nat} (hv : v ≤ 6) (hF9 : F 0 2 = nI v) : Does sz I_X3_keeps [.ref (sz + 75)] (patch G 75 4 (mS F s), T) 0 0 (.inl none) (patch G 75 4 (mS (put F 0 2 (nI (kpV v))) (kpS s v)), T) := by
  by_cases h6 : v < 6
  · exact Does.M (m_keeps_l h6 hF9) rfl rfl (by rw [kpV, kpS, if_pos h6, if_pos h6])
  · have e : v = 6 := by omega
    subst e
    exact Does.M (m_keeps_6 hF9) rfl rfl rfl
set_option maxRecDepth 20000 in
set_option maxHeartbeats 2000000 in
theorem a_store_1 {x y : Int32} (hx : isR x 30 = false) : Does sz I_X3_store [.ref (sz + 75), .int x, .int y] (patch G 75 4 (mS F s), T) 0 0 (.inl (some (nI 0))) (patch G 75 4 (mS (put F 0 0 (nI 1)) s), T) := by
  refine Does.of (L := [(0, .ref (sz + 75)), (1, .int x), (2, .int y)]) (by decide +kernel) (Nat.le_of_ble_eq_true rfl) rfl ⟨rfl, (by simp), ⟨rfl, (by simp), ⟨rfl, (by simp), trivial⟩⟩⟩ (fun VV hF => ?_)
  have hX := hF.c
  refine ro_iload_n (i := 1) (q := 1) hX dX3_store_0 rfl rfl rfl ?_
  refine ro_callSi (q9 := 4) hX (m_isPage_f hx) mw_X3_isPage kl_X3_102 rfl rfl (Nat.le_of_ble_eq_true rfl) ⟨Nat.le_of_ble_eq_true rfl, Nat.le_of_ble_eq_true rfl⟩ dX3_store_1 ⟨Nat.le_of_ble_eq_true rfl, Nat.le_of_ble_eq_true rfl⟩ rfl ?_
  refine ro_istore_n (i := 3) (q := 5) hX dX3_store_4 rfl (Nat.le_of_ble_eq_true rfl) rfl ?_
  refine ro_aload_n (i := 0) (q := 6) hX dX3_store_5 rfl rfl rfl ?_
  refine ro_iload_n (i := 3) (q := 7) hX dX3_store_6 rfl rfl rfl ?_
  refine ro_if_ne (tgt := 14) (q := 10) hX dX3_store_7 (by decide) rfl (fun q => absurd (by decide) q) (fun _ => ?_)
  refine ro_iconst (v := nI 1) (q := 11) hX dX3_store_10 rfl rfl ?_
  refine ro_goto (tgt := 42) hX dX3_store_11 (by decide) ?_
  refine ro_callVi (q9 := 45) hX (m_holds_1) mw_X3_holds kl_X3_109 (by decide) (fun cy => cell3 (by decide +kernel)) rfl rfl rfl (Nat.le_of_ble_eq_true rfl) ⟨Nat.le_of_ble_eq_true rfl, Nat.le_of_ble_eq_true rfl⟩ dX3_store_42 ⟨Nat.le_of_ble_eq_true rfl, Nat.le_of_ble_eq_true rfl⟩ rfl ?_
  refine ro_if_ne (tgt := 50) (q := 48) hX dX3_store_45 (by decide) rfl (fun q => absurd (by decide) q) (fun _ => ?_)
  refine ro_iconst (v := nI 0) (q := 49) hX dX3_store_48 rfl rfl ?_
  exact fin_i hF (Nat.le_of_ble_eq_true rfl) (Nat.le_of_ble_eq_true rfl) dX3_store_49 (by rfl) (by rfl)
set_option maxRecDepth 20000 in
set_option maxHeartbeats 2000000 in
theorem a_store_2 {p : Nat} (hp : p < 30) {y : Int32} (hy : inB y (nI 0) (nI 9999) = false) : Does sz I_X3_store [.ref (sz + 75), .int (nI p), .int y] (patch G 75 4 (mS F s), T) 0 0 (.inl (some (nI 0))) (patch G 75 4 (mS (put F 0 0 (nI 2)) s), T) := by
  refine Does.of (L := [(0, .ref (sz + 75)), (1, .int (nI p)), (2, .int y)]) (by decide +kernel) (Nat.le_of_ble_eq_true rfl) rfl ⟨rfl, (by simp), ⟨rfl, (by simp), ⟨rfl, (by simp), trivial⟩⟩⟩ (fun VV hF => ?_)
  have hX := hF.c
  refine ro_iload_n (i := 1) (q := 1) hX dX3_store_0 rfl rfl rfl ?_
  refine ro_callSi (q9 := 4) hX (m_isPage_t (by omega)) mw_X3_isPage kl_X3_102 rfl rfl (Nat.le_of_ble_eq_true rfl) ⟨Nat.le_of_ble_eq_true rfl, Nat.le_of_ble_eq_true rfl⟩ dX3_store_1 ⟨Nat.le_of_ble_eq_true rfl, Nat.le_of_ble_eq_true rfl⟩ rfl ?_
  refine ro_istore_n (i := 3) (q := 5) hX dX3_store_4 rfl (Nat.le_of_ble_eq_true rfl) rfl ?_
  refine ro_aload_n (i := 0) (q := 6) hX dX3_store_5 rfl rfl rfl ?_
  refine ro_iload_n (i := 3) (q := 7) hX dX3_store_6 rfl rfl rfl ?_
  refine ro_if_ne (tgt := 14) (q := 10) hX dX3_store_7 (by decide) rfl (fun _ => ?_) (fun q => absurd q (by decide))
  refine ro_iload_n (i := 2) (q := 15) hX dX3_store_14 rfl rfl rfl ?_
  refine ro_iconst (v := nI 0) (q := 16) hX dX3_store_15 rfl rfl ?_
  refine ro_sipush (v := nI 9999) (q := 19) hX dX3_store_16 rfl rfl ?_
  refine ro_callSi (q9 := 22) hX (m_in_f hy) mw_X3_in kl_X3_24 rfl rfl (Nat.le_of_ble_eq_true rfl) ⟨Nat.le_of_ble_eq_true rfl, Nat.le_of_ble_eq_true rfl⟩ dX3_store_19 ⟨Nat.le_of_ble_eq_true rfl, Nat.le_of_ble_eq_true rfl⟩ rfl ?_
  refine ro_if_ne (tgt := 29) (q := 25) hX dX3_store_22 (by decide) rfl (fun q => absurd (by decide) q) (fun _ => ?_)
  refine ro_iconst (v := nI 2) (q := 26) hX dX3_store_25 rfl rfl ?_
  refine ro_goto (tgt := 42) hX dX3_store_26 (by decide) ?_
  refine ro_callVi (q9 := 45) hX (m_holds_2) mw_X3_holds kl_X3_109 (by decide) (fun cy => cell3 (by decide +kernel)) rfl rfl rfl (Nat.le_of_ble_eq_true rfl) ⟨Nat.le_of_ble_eq_true rfl, Nat.le_of_ble_eq_true rfl⟩ dX3_store_42 ⟨Nat.le_of_ble_eq_true rfl, Nat.le_of_ble_eq_true rfl⟩ rfl ?_
  refine ro_if_ne (tgt := 50) (q := 48) hX dX3_store_45 (by decide) rfl (fun q => absurd (by decide) q) (fun _ => ?_)
  refine ro_iconst (v := nI 0) (q := 49) hX dX3_store_48 rfl rfl ?_
  exact fin_i hF (Nat.le_of_ble_eq_true rfl) (Nat.le_of_ble_eq_true rfl) dX3_store_49 (by rfl) (by rfl)
set_option maxRecDepth 20000 in
set_option maxHeartbeats 2000000 in
theorem a_store_3 {p : Nat} (hp : p < 30) {y : Int32} (hy : inB y (nI 0) (nI 9999) = true) (hc : csM s p = false) : Does sz I_X3_store [.ref (sz + 75), .int (nI p), .int y] (patch G 75 4 (mS F s), T) 0 0 (.inl (some (nI 0))) (patch G 75 4 (mS (put F 0 0 (nI 3)) s), T) := by
  refine Does.of (L := [(0, .ref (sz + 75)), (1, .int (nI p)), (2, .int y)]) (by decide +kernel) (Nat.le_of_ble_eq_true rfl) rfl ⟨rfl, (by simp), ⟨rfl, (by simp), ⟨rfl, (by simp), trivial⟩⟩⟩ (fun VV hF => ?_)
  have hX := hF.c
  refine ro_iload_n (i := 1) (q := 1) hX dX3_store_0 rfl rfl rfl ?_
  refine ro_callSi (q9 := 4) hX (m_isPage_t (by omega)) mw_X3_isPage kl_X3_102 rfl rfl (Nat.le_of_ble_eq_true rfl) ⟨Nat.le_of_ble_eq_true rfl, Nat.le_of_ble_eq_true rfl⟩ dX3_store_1 ⟨Nat.le_of_ble_eq_true rfl, Nat.le_of_ble_eq_true rfl⟩ rfl ?_
  refine ro_istore_n (i := 3) (q := 5) hX dX3_store_4 rfl (Nat.le_of_ble_eq_true rfl) rfl ?_
  refine ro_aload_n (i := 0) (q := 6) hX dX3_store_5 rfl rfl rfl ?_
  refine ro_iload_n (i := 3) (q := 7) hX dX3_store_6 rfl rfl rfl ?_
  refine ro_if_ne (tgt := 14) (q := 10) hX dX3_store_7 (by decide) rfl (fun _ => ?_) (fun q => absurd q (by decide))
  refine ro_iload_n (i := 2) (q := 15) hX dX3_store_14 rfl rfl rfl ?_
  refine ro_iconst (v := nI 0) (q := 16) hX dX3_store_15 rfl rfl ?_
  refine ro_sipush (v := nI 9999) (q := 19) hX dX3_store_16 rfl rfl ?_
  refine ro_callSi (q9 := 22) hX (m_in_t hy) mw_X3_in kl_X3_24 rfl rfl (Nat.le_of_ble_eq_true rfl) ⟨Nat.le_of_ble_eq_true rfl, Nat.le_of_ble_eq_true rfl⟩ dX3_store_19 ⟨Nat.le_of_ble_eq_true rfl, Nat.le_of_ble_eq_true rfl⟩ rfl ?_
  refine ro_if_ne (tgt := 29) (q := 25) hX dX3_store_22 (by decide) rfl (fun _ => ?_) (fun q => absurd q (by decide))
  refine ro_aload_n (i := 0) (q := 30) hX dX3_store_29 rfl rfl rfl ?_
  refine ro_iload_n (i := 1) (q := 31) hX dX3_store_30 rfl rfl rfl ?_
  refine ro_callVi (q9 := 34) hX (Does.M (o1 := .inl (some (nI 0))) (m_canStore (by omega)) rfl (by rw [hc]; rfl) rfl) mw_X3_canStore kl_X3_106 (by decide) (fun cy => cell3 (by decide +kernel)) rfl rfl rfl (Nat.le_of_ble_eq_true rfl) ⟨Nat.le_of_ble_eq_true rfl, Nat.le_of_ble_eq_true rfl⟩ dX3_store_31 ⟨Nat.le_of_ble_eq_true rfl, Nat.le_of_ble_eq_true rfl⟩ rfl ?_
  refine ro_if_ne (tgt := 41) (q := 37) hX dX3_store_34 (by decide) rfl (fun q => absurd (by decide) q) (fun _ => ?_)
  refine ro_iconst (v := nI 3) (q := 38) hX dX3_store_37 rfl rfl ?_
  refine ro_goto (tgt := 42) hX dX3_store_38 (by decide) ?_
  refine ro_callVi (q9 := 45) hX (m_holds_3) mw_X3_holds kl_X3_109 (by decide) (fun cy => cell3 (by decide +kernel)) rfl rfl rfl (Nat.le_of_ble_eq_true rfl) ⟨Nat.le_of_ble_eq_true rfl, Nat.le_of_ble_eq_true rfl⟩ dX3_store_42 ⟨Nat.le_of_ble_eq_true rfl, Nat.le_of_ble_eq_true rfl⟩ rfl ?_
  refine ro_if_ne (tgt := 50) (q := 48) hX dX3_store_45 (by decide) rfl (fun q => absurd (by decide) q) (fun _ => ?_)
  refine ro_iconst (v := nI 0) (q := 49) hX dX3_store_48 rfl rfl ?_
  exact fin_i hF (Nat.le_of_ble_eq_true rfl) (Nat.le_of_ble_eq_true rfl) dX3_store_49 (by rfl) (by rfl)
set_option maxRecDepth 20000 in
set_option maxHeartbeats 2000000 in
theorem a_store {p : Nat} (hp : p < 30) {y : Int32} (hy : inB y (nI 0) (nI 9999) = true) (hc : csM s p = true) {v : Nat} (hv : v ≤ 6) (hF9 : F 0 2 = nI v) : Does sz I_X3_store [.ref (sz + 75), .int (nI p), .int y] (patch G 75 4 (mS F s), T) 0 0 (.inl (some (onM (cpM (st2 (kpS s v) p y) 0 p)))) (patch G 75 4 (mS (FK F v) (seM (st2 (kpS s v) p y) 0)), T) := by
  refine Does.of (L := [(0, .ref (sz + 75)), (1, .int (nI p)), (2, .int y)]) (by decide +kernel) (Nat.le_of_ble_eq_true rfl) rfl ⟨rfl, (by simp), ⟨rfl, (by simp), ⟨rfl, (by simp), trivial⟩⟩⟩ (fun VV hF => ?_)
  have hX := hF.c
  refine ro_iload_n (i := 1) (q := 1) hX dX3_store_0 rfl rfl rfl ?_
  refine ro_callSi (q9 := 4) hX (m_isPage_t (by omega)) mw_X3_isPage kl_X3_102 rfl rfl (Nat.le_of_ble_eq_true rfl) ⟨Nat.le_of_ble_eq_true rfl, Nat.le_of_ble_eq_true rfl⟩ dX3_store_1 ⟨Nat.le_of_ble_eq_true rfl, Nat.le_of_ble_eq_true rfl⟩ rfl ?_
  refine ro_istore_n (i := 3) (q := 5) hX dX3_store_4 rfl (Nat.le_of_ble_eq_true rfl) rfl ?_
  refine ro_aload_n (i := 0) (q := 6) hX dX3_store_5 rfl rfl rfl ?_
  refine ro_iload_n (i := 3) (q := 7) hX dX3_store_6 rfl rfl rfl ?_
  refine ro_if_ne (tgt := 14) (q := 10) hX dX3_store_7 (by decide) rfl (fun _ => ?_) (fun q => absurd q (by decide))
  refine ro_iload_n (i := 2) (q := 15) hX dX3_store_14 rfl rfl rfl ?_
  refine ro_iconst (v := nI 0) (q := 16) hX dX3_store_15 rfl rfl ?_
  refine ro_sipush (v := nI 9999) (q := 19) hX dX3_store_16 rfl rfl ?_
  refine ro_callSi (q9 := 22) hX (m_in_t hy) mw_X3_in kl_X3_24 rfl rfl (Nat.le_of_ble_eq_true rfl) ⟨Nat.le_of_ble_eq_true rfl, Nat.le_of_ble_eq_true rfl⟩ dX3_store_19 ⟨Nat.le_of_ble_eq_true rfl, Nat.le_of_ble_eq_true rfl⟩ rfl ?_
  refine ro_if_ne (tgt := 29) (q := 25) hX dX3_store_22 (by decide) rfl (fun _ => ?_) (fun q => absurd q (by decide))
  refine ro_aload_n (i := 0) (q := 30) hX dX3_store_29 rfl rfl rfl ?_
  refine ro_iload_n (i := 1) (q := 31) hX dX3_store_30 rfl rfl rfl ?_
  refine ro_callVi (q9 := 34) hX (Does.M (o1 := .inl (some (nI 1))) (m_canStore (by omega)) rfl (by rw [hc]; rfl) rfl) mw_X3_canStore kl_X3_106 (by decide) (fun cy => cell3 (by decide +kernel)) rfl rfl rfl (Nat.le_of_ble_eq_true rfl) ⟨Nat.le_of_ble_eq_true rfl, Nat.le_of_ble_eq_true rfl⟩ dX3_store_31 ⟨Nat.le_of_ble_eq_true rfl, Nat.le_of_ble_eq_true rfl⟩ rfl ?_
  refine ro_if_ne (tgt := 41) (q := 37) hX dX3_store_34 (by decide) rfl (fun _ => ?_) (fun q => absurd q (by decide))
  refine ro_iconst (v := nI 0) (q := 42) hX dX3_store_41 rfl rfl ?_
  refine ro_callVi (q9 := 45) hX (m_holds_0) mw_X3_holds kl_X3_109 (by decide) (fun cy => cell3 (by decide +kernel)) rfl rfl rfl (Nat.le_of_ble_eq_true rfl) ⟨Nat.le_of_ble_eq_true rfl, Nat.le_of_ble_eq_true rfl⟩ dX3_store_42 ⟨Nat.le_of_ble_eq_true rfl, Nat.le_of_ble_eq_true rfl⟩ rfl ?_
  refine ro_if_ne (tgt := 50) (q := 48) hX dX3_store_45 (by decide) rfl (fun _ => ?_) (fun q => absurd q (by decide))
  refine ro_aload_n (i := 0) (q := 51) hX dX3_store_50 rfl rfl rfl ?_
  refine ro_callVv (q9 := 54) hX (m_keeps hv hF9) mw_X3_keeps kl_X3_112 (by decide) (fun cy => cell3 (by decide +kernel)) rfl rfl rfl (Nat.le_of_ble_eq_true rfl) ⟨Nat.le_of_ble_eq_true rfl, Nat.le_of_ble_eq_true rfl⟩ dX3_store_51 ⟨Nat.le_of_ble_eq_true rfl, Nat.le_of_ble_eq_true rfl⟩ rfl ?_
  refine ro_aload_n (i := 0) (q := 55) hX dX3_store_54 rfl rfl rfl ?_
  refine ro_iload_n (i := 1) (q := 56) hX dX3_store_55 rfl rfl rfl ?_
  refine ro_iload_n (i := 2) (q := 57) hX dX3_store_56 rfl rfl rfl ?_
  refine ro_callVi (q9 := 60) hX (m_stores hp) mw_X3_stores kl_X3_115 (by decide) (fun cy => cell3 (by decide +kernel)) rfl rfl rfl (Nat.le_of_ble_eq_true rfl) ⟨Nat.le_of_ble_eq_true rfl, Nat.le_of_ble_eq_true rfl⟩ dX3_store_57 ⟨Nat.le_of_ble_eq_true rfl, Nat.le_of_ble_eq_true rfl⟩ rfl ?_
  exact fin_i hF (Nat.le_of_ble_eq_true rfl) (Nat.le_of_ble_eq_true rfl) dX3_store_60 (by rfl) (by rfl)
set_option maxRecDepth 20000 in
set_option maxHeartbeats 2000000 in
theorem a_write_1 {x y : Int32} (hx : isR x 30 = false) : Does sz I_X3_write [.ref (sz + 75), .int x, .int y] (patch G 75 4 (mS F s), T) 0 0 (.inl (some (nI 0))) (patch G 75 4 (mS (put F 0 0 (nI 1)) s), T) := by
  refine Does.of (L := [(0, .ref (sz + 75)), (1, .int x), (2, .int y)]) (by decide +kernel) (Nat.le_of_ble_eq_true rfl) rfl ⟨rfl, (by simp), ⟨rfl, (by simp), ⟨rfl, (by simp), trivial⟩⟩⟩ (fun VV hF => ?_)
  have hX := hF.c
  refine ro_iload_n (i := 1) (q := 1) hX dX3_write_0 rfl rfl rfl ?_
  refine ro_callSi (q9 := 4) hX (m_isPage_f hx) mw_X3_isPage kl_X3_102 rfl rfl (Nat.le_of_ble_eq_true rfl) ⟨Nat.le_of_ble_eq_true rfl, Nat.le_of_ble_eq_true rfl⟩ dX3_write_1 ⟨Nat.le_of_ble_eq_true rfl, Nat.le_of_ble_eq_true rfl⟩ rfl ?_
  refine ro_istore_n (i := 3) (q := 5) hX dX3_write_4 rfl (Nat.le_of_ble_eq_true rfl) rfl ?_
  refine ro_aload_n (i := 0) (q := 6) hX dX3_write_5 rfl rfl rfl ?_
  refine ro_iload_n (i := 3) (q := 7) hX dX3_write_6 rfl rfl rfl ?_
  refine ro_if_ne (tgt := 14) (q := 10) hX dX3_write_7 (by decide) rfl (fun q => absurd (by decide) q) (fun _ => ?_)
  refine ro_iconst (v := nI 1) (q := 11) hX dX3_write_10 rfl rfl ?_
  refine ro_goto (tgt := 42) hX dX3_write_11 (by decide) ?_
  refine ro_callVi (q9 := 45) hX (m_holds_1) mw_X3_holds kl_X3_109 (by decide) (fun cy => cell3 (by decide +kernel)) rfl rfl rfl (Nat.le_of_ble_eq_true rfl) ⟨Nat.le_of_ble_eq_true rfl, Nat.le_of_ble_eq_true rfl⟩ dX3_write_42 ⟨Nat.le_of_ble_eq_true rfl, Nat.le_of_ble_eq_true rfl⟩ rfl ?_
  refine ro_if_ne (tgt := 50) (q := 48) hX dX3_write_45 (by decide) rfl (fun q => absurd (by decide) q) (fun _ => ?_)
  refine ro_iconst (v := nI 0) (q := 49) hX dX3_write_48 rfl rfl ?_
  exact fin_i hF (Nat.le_of_ble_eq_true rfl) (Nat.le_of_ble_eq_true rfl) dX3_write_49 (by rfl) (by rfl)
set_option maxRecDepth 20000 in
set_option maxHeartbeats 2000000 in
theorem a_write_2 {p : Nat} (hp : p < 30) {y : Int32} (hy : inB y (nI 0) (nI 9999) = false) : Does sz I_X3_write [.ref (sz + 75), .int (nI p), .int y] (patch G 75 4 (mS F s), T) 0 0 (.inl (some (nI 0))) (patch G 75 4 (mS (put F 0 0 (nI 2)) s), T) := by
  refine Does.of (L := [(0, .ref (sz + 75)), (1, .int (nI p)), (2, .int y)]) (by decide +kernel) (Nat.le_of_ble_eq_true rfl) rfl ⟨rfl, (by simp), ⟨rfl, (by simp), ⟨rfl, (by simp), trivial⟩⟩⟩ (fun VV hF => ?_)
  have hX := hF.c
  refine ro_iload_n (i := 1) (q := 1) hX dX3_write_0 rfl rfl rfl ?_
  refine ro_callSi (q9 := 4) hX (m_isPage_t (by omega)) mw_X3_isPage kl_X3_102 rfl rfl (Nat.le_of_ble_eq_true rfl) ⟨Nat.le_of_ble_eq_true rfl, Nat.le_of_ble_eq_true rfl⟩ dX3_write_1 ⟨Nat.le_of_ble_eq_true rfl, Nat.le_of_ble_eq_true rfl⟩ rfl ?_
  refine ro_istore_n (i := 3) (q := 5) hX dX3_write_4 rfl (Nat.le_of_ble_eq_true rfl) rfl ?_
  refine ro_aload_n (i := 0) (q := 6) hX dX3_write_5 rfl rfl rfl ?_
  refine ro_iload_n (i := 3) (q := 7) hX dX3_write_6 rfl rfl rfl ?_
  refine ro_if_ne (tgt := 14) (q := 10) hX dX3_write_7 (by decide) rfl (fun _ => ?_) (fun q => absurd q (by decide))
  refine ro_iload_n (i := 2) (q := 15) hX dX3_write_14 rfl rfl rfl ?_
  refine ro_iconst (v := nI 0) (q := 16) hX dX3_write_15 rfl rfl ?_
  refine ro_sipush (v := nI 9999) (q := 19) hX dX3_write_16 rfl rfl ?_
  refine ro_callSi (q9 := 22) hX (m_in_f hy) mw_X3_in kl_X3_24 rfl rfl (Nat.le_of_ble_eq_true rfl) ⟨Nat.le_of_ble_eq_true rfl, Nat.le_of_ble_eq_true rfl⟩ dX3_write_19 ⟨Nat.le_of_ble_eq_true rfl, Nat.le_of_ble_eq_true rfl⟩ rfl ?_
  refine ro_if_ne (tgt := 29) (q := 25) hX dX3_write_22 (by decide) rfl (fun q => absurd (by decide) q) (fun _ => ?_)
  refine ro_iconst (v := nI 2) (q := 26) hX dX3_write_25 rfl rfl ?_
  refine ro_goto (tgt := 42) hX dX3_write_26 (by decide) ?_
  refine ro_callVi (q9 := 45) hX (m_holds_2) mw_X3_holds kl_X3_109 (by decide) (fun cy => cell3 (by decide +kernel)) rfl rfl rfl (Nat.le_of_ble_eq_true rfl) ⟨Nat.le_of_ble_eq_true rfl, Nat.le_of_ble_eq_true rfl⟩ dX3_write_42 ⟨Nat.le_of_ble_eq_true rfl, Nat.le_of_ble_eq_true rfl⟩ rfl ?_
  refine ro_if_ne (tgt := 50) (q := 48) hX dX3_write_45 (by decide) rfl (fun q => absurd (by decide) q) (fun _ => ?_)
  refine ro_iconst (v := nI 0) (q := 49) hX dX3_write_48 rfl rfl ?_
  exact fin_i hF (Nat.le_of_ble_eq_true rfl) (Nat.le_of_ble_eq_true rfl) dX3_write_49 (by rfl) (by rfl)
set_option maxRecDepth 20000 in
set_option maxHeartbeats 2000000 in
theorem a_write_3 {p : Nat} (hp : p < 30) {y : Int32} (hy : inB y (nI 0) (nI 9999) = true) (hc : cwM s p = false) : Does sz I_X3_write [.ref (sz + 75), .int (nI p), .int y] (patch G 75 4 (mS F s), T) 0 0 (.inl (some (nI 0))) (patch G 75 4 (mS (put F 0 0 (nI 3)) s), T) := by
  refine Does.of (L := [(0, .ref (sz + 75)), (1, .int (nI p)), (2, .int y)]) (by decide +kernel) (Nat.le_of_ble_eq_true rfl) rfl ⟨rfl, (by simp), ⟨rfl, (by simp), ⟨rfl, (by simp), trivial⟩⟩⟩ (fun VV hF => ?_)
  have hX := hF.c
  refine ro_iload_n (i := 1) (q := 1) hX dX3_write_0 rfl rfl rfl ?_
  refine ro_callSi (q9 := 4) hX (m_isPage_t (by omega)) mw_X3_isPage kl_X3_102 rfl rfl (Nat.le_of_ble_eq_true rfl) ⟨Nat.le_of_ble_eq_true rfl, Nat.le_of_ble_eq_true rfl⟩ dX3_write_1 ⟨Nat.le_of_ble_eq_true rfl, Nat.le_of_ble_eq_true rfl⟩ rfl ?_
  refine ro_istore_n (i := 3) (q := 5) hX dX3_write_4 rfl (Nat.le_of_ble_eq_true rfl) rfl ?_
  refine ro_aload_n (i := 0) (q := 6) hX dX3_write_5 rfl rfl rfl ?_
  refine ro_iload_n (i := 3) (q := 7) hX dX3_write_6 rfl rfl rfl ?_
  refine ro_if_ne (tgt := 14) (q := 10) hX dX3_write_7 (by decide) rfl (fun _ => ?_) (fun q => absurd q (by decide))
  refine ro_iload_n (i := 2) (q := 15) hX dX3_write_14 rfl rfl rfl ?_
  refine ro_iconst (v := nI 0) (q := 16) hX dX3_write_15 rfl rfl ?_
  refine ro_sipush (v := nI 9999) (q := 19) hX dX3_write_16 rfl rfl ?_
  refine ro_callSi (q9 := 22) hX (m_in_t hy) mw_X3_in kl_X3_24 rfl rfl (Nat.le_of_ble_eq_true rfl) ⟨Nat.le_of_ble_eq_true rfl, Nat.le_of_ble_eq_true rfl⟩ dX3_write_19 ⟨Nat.le_of_ble_eq_true rfl, Nat.le_of_ble_eq_true rfl⟩ rfl ?_
  refine ro_if_ne (tgt := 29) (q := 25) hX dX3_write_22 (by decide) rfl (fun _ => ?_) (fun q => absurd q (by decide))
  refine ro_aload_n (i := 0) (q := 30) hX dX3_write_29 rfl rfl rfl ?_
  refine ro_iload_n (i := 1) (q := 31) hX dX3_write_30 rfl rfl rfl ?_
  refine ro_callVi (q9 := 34) hX (Does.M (o1 := .inl (some (nI 0))) (m_canWrite (by omega)) rfl (by rw [hc]; rfl) rfl) mw_X3_canWrite kl_X3_118 (by decide) (fun cy => cell3 (by decide +kernel)) rfl rfl rfl (Nat.le_of_ble_eq_true rfl) ⟨Nat.le_of_ble_eq_true rfl, Nat.le_of_ble_eq_true rfl⟩ dX3_write_31 ⟨Nat.le_of_ble_eq_true rfl, Nat.le_of_ble_eq_true rfl⟩ rfl ?_
  refine ro_if_ne (tgt := 41) (q := 37) hX dX3_write_34 (by decide) rfl (fun q => absurd (by decide) q) (fun _ => ?_)
  refine ro_iconst (v := nI 3) (q := 38) hX dX3_write_37 rfl rfl ?_
  refine ro_goto (tgt := 42) hX dX3_write_38 (by decide) ?_
  refine ro_callVi (q9 := 45) hX (m_holds_3) mw_X3_holds kl_X3_109 (by decide) (fun cy => cell3 (by decide +kernel)) rfl rfl rfl (Nat.le_of_ble_eq_true rfl) ⟨Nat.le_of_ble_eq_true rfl, Nat.le_of_ble_eq_true rfl⟩ dX3_write_42 ⟨Nat.le_of_ble_eq_true rfl, Nat.le_of_ble_eq_true rfl⟩ rfl ?_
  refine ro_if_ne (tgt := 50) (q := 48) hX dX3_write_45 (by decide) rfl (fun q => absurd (by decide) q) (fun _ => ?_)
  refine ro_iconst (v := nI 0) (q := 49) hX dX3_write_48 rfl rfl ?_
  exact fin_i hF (Nat.le_of_ble_eq_true rfl) (Nat.le_of_ble_eq_true rfl) dX3_write_49 (by rfl) (by rfl)
set_option maxRecDepth 20000 in
set_option maxHeartbeats 2000000 in
theorem a_write {p : Nat} (hp : p < 30) {y : Int32} (hy : inB y (nI 0) (nI 9999) = true) (hc : cwM s p = true) {v : Nat} (hv : v ≤ 6) (hF9 : F 0 2 = nI v) : Does sz I_X3_write [.ref (sz + 75), .int (nI p), .int y] (patch G 75 4 (mS F s), T) 0 0 (.inl (some (onM (cpM (st1 (kpS s v) p y) 0 p)))) (patch G 75 4 (mS (FK F v) (wrM (kpS s v) p y)), T) := by
  refine Does.of (L := [(0, .ref (sz + 75)), (1, .int (nI p)), (2, .int y)]) (by decide +kernel) (Nat.le_of_ble_eq_true rfl) rfl ⟨rfl, (by simp), ⟨rfl, (by simp), ⟨rfl, (by simp), trivial⟩⟩⟩ (fun VV hF => ?_)
  have hX := hF.c
  refine ro_iload_n (i := 1) (q := 1) hX dX3_write_0 rfl rfl rfl ?_
  refine ro_callSi (q9 := 4) hX (m_isPage_t (by omega)) mw_X3_isPage kl_X3_102 rfl rfl (Nat.le_of_ble_eq_true rfl) ⟨Nat.le_of_ble_eq_true rfl, Nat.le_of_ble_eq_true rfl⟩ dX3_write_1 ⟨Nat.le_of_ble_eq_true rfl, Nat.le_of_ble_eq_true rfl⟩ rfl ?_
  refine ro_istore_n (i := 3) (q := 5) hX dX3_write_4 rfl (Nat.le_of_ble_eq_true rfl) rfl ?_
  refine ro_aload_n (i := 0) (q := 6) hX dX3_write_5 rfl rfl rfl ?_
  refine ro_iload_n (i := 3) (q := 7) hX dX3_write_6 rfl rfl rfl ?_
  refine ro_if_ne (tgt := 14) (q := 10) hX dX3_write_7 (by decide) rfl (fun _ => ?_) (fun q => absurd q (by decide))
  refine ro_iload_n (i := 2) (q := 15) hX dX3_write_14 rfl rfl rfl ?_
  refine ro_iconst (v := nI 0) (q := 16) hX dX3_write_15 rfl rfl ?_
  refine ro_sipush (v := nI 9999) (q := 19) hX dX3_write_16 rfl rfl ?_
  refine ro_callSi (q9 := 22) hX (m_in_t hy) mw_X3_in kl_X3_24 rfl rfl (Nat.le_of_ble_eq_true rfl) ⟨Nat.le_of_ble_eq_true rfl, Nat.le_of_ble_eq_true rfl⟩ dX3_write_19 ⟨Nat.le_of_ble_eq_true rfl, Nat.le_of_ble_eq_true rfl⟩ rfl ?_
  refine ro_if_ne (tgt := 29) (q := 25) hX dX3_write_22 (by decide) rfl (fun _ => ?_) (fun q => absurd q (by decide))
  refine ro_aload_n (i := 0) (q := 30) hX dX3_write_29 rfl rfl rfl ?_
  refine ro_iload_n (i := 1) (q := 31) hX dX3_write_30 rfl rfl rfl ?_
  refine ro_callVi (q9 := 34) hX (Does.M (o1 := .inl (some (nI 1))) (m_canWrite (by omega)) rfl (by rw [hc]; rfl) rfl) mw_X3_canWrite kl_X3_118 (by decide) (fun cy => cell3 (by decide +kernel)) rfl rfl rfl (Nat.le_of_ble_eq_true rfl) ⟨Nat.le_of_ble_eq_true rfl, Nat.le_of_ble_eq_true rfl⟩ dX3_write_31 ⟨Nat.le_of_ble_eq_true rfl, Nat.le_of_ble_eq_true rfl⟩ rfl ?_
  refine ro_if_ne (tgt := 41) (q := 37) hX dX3_write_34 (by decide) rfl (fun _ => ?_) (fun q => absurd q (by decide))
  refine ro_iconst (v := nI 0) (q := 42) hX dX3_write_41 rfl rfl ?_
  refine ro_callVi (q9 := 45) hX (m_holds_0) mw_X3_holds kl_X3_109 (by decide) (fun cy => cell3 (by decide +kernel)) rfl rfl rfl (Nat.le_of_ble_eq_true rfl) ⟨Nat.le_of_ble_eq_true rfl, Nat.le_of_ble_eq_true rfl⟩ dX3_write_42 ⟨Nat.le_of_ble_eq_true rfl, Nat.le_of_ble_eq_true rfl⟩ rfl ?_
  refine ro_if_ne (tgt := 50) (q := 48) hX dX3_write_45 (by decide) rfl (fun _ => ?_) (fun q => absurd q (by decide))
  refine ro_aload_n (i := 0) (q := 51) hX dX3_write_50 rfl rfl rfl ?_
  refine ro_callVv (q9 := 54) hX (m_keeps hv hF9) mw_X3_keeps kl_X3_112 (by decide) (fun cy => cell3 (by decide +kernel)) rfl rfl rfl (Nat.le_of_ble_eq_true rfl) ⟨Nat.le_of_ble_eq_true rfl, Nat.le_of_ble_eq_true rfl⟩ dX3_write_51 ⟨Nat.le_of_ble_eq_true rfl, Nat.le_of_ble_eq_true rfl⟩ rfl ?_
  refine ro_aload_n (i := 0) (q := 55) hX dX3_write_54 rfl rfl rfl ?_
  refine ro_iload_n (i := 1) (q := 56) hX dX3_write_55 rfl rfl rfl ?_
  refine ro_iload_n (i := 2) (q := 57) hX dX3_write_56 rfl rfl rfl ?_
  refine ro_callVi (q9 := 60) hX (m_writes hp) mw_X3_writes kl_X3_121 (by decide) (fun cy => cell3 (by decide +kernel)) rfl rfl rfl (Nat.le_of_ble_eq_true rfl) ⟨Nat.le_of_ble_eq_true rfl, Nat.le_of_ble_eq_true rfl⟩ dX3_write_57 ⟨Nat.le_of_ble_eq_true rfl, Nat.le_of_ble_eq_true rfl⟩ rfl ?_
  exact fin_i hF (Nat.le_of_ble_eq_true rfl) (Nat.le_of_ble_eq_true rfl) dX3_write_60 (by rfl) (by rfl)
set_option maxRecDepth 20000 in
set_option maxHeartbeats 2000000 in
theorem a_read_1 {x : Int32} (hx : isR x 30 = false) : Does sz I_X3_read [.ref (sz + 75), .int x] (patch G 75 4 (mS F s), T) 0 0 (.inl (some (nI 0))) (patch G 75 4 (mS (put F 0 0 (nI 1)) s), T) := by
  refine Does.of (L := [(0, .ref (sz + 75)), (1, .int x)]) (by decide +kernel) (Nat.le_of_ble_eq_true rfl) rfl ⟨rfl, (by simp), ⟨rfl, (by simp), trivial⟩⟩ (fun VV hF => ?_)
  have hX := hF.c
  refine ro_aload_n (i := 0) (q := 1) hX dX3_read_0 rfl rfl rfl ?_
  refine ro_iload_n (i := 1) (q := 2) hX dX3_read_1 rfl rfl rfl ?_
  refine ro_callSi (q9 := 5) hX (m_isPage_f hx) mw_X3_isPage kl_X3_102 rfl rfl (Nat.le_of_ble_eq_true rfl) ⟨Nat.le_of_ble_eq_true rfl, Nat.le_of_ble_eq_true rfl⟩ dX3_read_2 ⟨Nat.le_of_ble_eq_true rfl, Nat.le_of_ble_eq_true rfl⟩ rfl ?_
  refine ro_if_ne (tgt := 12) (q := 8) hX dX3_read_5 (by decide) rfl (fun q => absurd (by decide) q) (fun _ => ?_)
  refine ro_iconst (v := nI 1) (q := 9) hX dX3_read_8 rfl rfl ?_
  refine ro_goto (tgt := 25) hX dX3_read_9 (by decide) ?_
  refine ro_callVi (q9 := 28) hX (m_holds_1) mw_X3_holds kl_X3_109 (by decide) (fun cy => cell3 (by decide +kernel)) rfl rfl rfl (Nat.le_of_ble_eq_true rfl) ⟨Nat.le_of_ble_eq_true rfl, Nat.le_of_ble_eq_true rfl⟩ dX3_read_25 ⟨Nat.le_of_ble_eq_true rfl, Nat.le_of_ble_eq_true rfl⟩ rfl ?_
  refine ro_if_eq (tgt := 43) (q := 31) hX dX3_read_28 (by decide) rfl (fun _ => ?_) (fun q => absurd (by decide) q)
  refine ro_iconst (v := nI 0) (q := 44) hX dX3_read_43 rfl rfl ?_
  exact fin_i hF (Nat.le_of_ble_eq_true rfl) (Nat.le_of_ble_eq_true rfl) dX3_read_44 (by rfl) (by rfl)
set_option maxRecDepth 20000 in
set_option maxHeartbeats 2000000 in
theorem a_read_2 {p : Nat} (hp : p < 30) (hc : cwM s p = false) : Does sz I_X3_read [.ref (sz + 75), .int (nI p)] (patch G 75 4 (mS F s), T) 0 0 (.inl (some (nI 0))) (patch G 75 4 (mS (put F 0 0 (nI 2)) s), T) := by
  refine Does.of (L := [(0, .ref (sz + 75)), (1, .int (nI p))]) (by decide +kernel) (Nat.le_of_ble_eq_true rfl) rfl ⟨rfl, (by simp), ⟨rfl, (by simp), trivial⟩⟩ (fun VV hF => ?_)
  have hX := hF.c
  refine ro_aload_n (i := 0) (q := 1) hX dX3_read_0 rfl rfl rfl ?_
  refine ro_iload_n (i := 1) (q := 2) hX dX3_read_1 rfl rfl rfl ?_
  refine ro_callSi (q9 := 5) hX (m_isPage_t (by omega)) mw_X3_isPage kl_X3_102 rfl rfl (Nat.le_of_ble_eq_true rfl) ⟨Nat.le_of_ble_eq_true rfl, Nat.le_of_ble_eq_true rfl⟩ dX3_read_2 ⟨Nat.le_of_ble_eq_true rfl, Nat.le_of_ble_eq_true rfl⟩ rfl ?_
  refine ro_if_ne (tgt := 12) (q := 8) hX dX3_read_5 (by decide) rfl (fun _ => ?_) (fun q => absurd q (by decide))
  refine ro_aload_n (i := 0) (q := 13) hX dX3_read_12 rfl rfl rfl ?_
  refine ro_iload_n (i := 1) (q := 14) hX dX3_read_13 rfl rfl rfl ?_
  refine ro_callVi (q9 := 17) hX (Does.M (o1 := .inl (some (nI 0))) (m_canWrite (by omega)) rfl (by rw [hc]; rfl) rfl) mw_X3_canWrite kl_X3_118 (by decide) (fun cy => cell3 (by decide +kernel)) rfl rfl rfl (Nat.le_of_ble_eq_true rfl) ⟨Nat.le_of_ble_eq_true rfl, Nat.le_of_ble_eq_true rfl⟩ dX3_read_14 ⟨Nat.le_of_ble_eq_true rfl, Nat.le_of_ble_eq_true rfl⟩ rfl ?_
  refine ro_if_ne (tgt := 24) (q := 20) hX dX3_read_17 (by decide) rfl (fun q => absurd (by decide) q) (fun _ => ?_)
  refine ro_iconst (v := nI 2) (q := 21) hX dX3_read_20 rfl rfl ?_
  refine ro_goto (tgt := 25) hX dX3_read_21 (by decide) ?_
  refine ro_callVi (q9 := 28) hX (m_holds_2) mw_X3_holds kl_X3_109 (by decide) (fun cy => cell3 (by decide +kernel)) rfl rfl rfl (Nat.le_of_ble_eq_true rfl) ⟨Nat.le_of_ble_eq_true rfl, Nat.le_of_ble_eq_true rfl⟩ dX3_read_25 ⟨Nat.le_of_ble_eq_true rfl, Nat.le_of_ble_eq_true rfl⟩ rfl ?_
  refine ro_if_eq (tgt := 43) (q := 31) hX dX3_read_28 (by decide) rfl (fun _ => ?_) (fun q => absurd (by decide) q)
  refine ro_iconst (v := nI 0) (q := 44) hX dX3_read_43 rfl rfl ?_
  exact fin_i hF (Nat.le_of_ble_eq_true rfl) (Nat.le_of_ble_eq_true rfl) dX3_read_44 (by rfl) (by rfl)
set_option maxRecDepth 20000 in
set_option maxHeartbeats 2000000 in
theorem a_read {p : Nat} (hp : p < 30) (hc : cwM s p = true) : Does sz I_X3_read [.ref (sz + 75), .int (nI p)] (patch G 75 4 (mS F s), T) 0 0 (.inl (some (s (62 + p)))) (patch G 75 4 (mS (put F 0 0 (nI 0)) s), T) := by
  refine Does.of (L := [(0, .ref (sz + 75)), (1, .int (nI p))]) (by decide +kernel) (Nat.le_of_ble_eq_true rfl) rfl ⟨rfl, (by simp), ⟨rfl, (by simp), trivial⟩⟩ (fun VV hF => ?_)
  have hX := hF.c
  refine ro_aload_n (i := 0) (q := 1) hX dX3_read_0 rfl rfl rfl ?_
  refine ro_iload_n (i := 1) (q := 2) hX dX3_read_1 rfl rfl rfl ?_
  refine ro_callSi (q9 := 5) hX (m_isPage_t (by omega)) mw_X3_isPage kl_X3_102 rfl rfl (Nat.le_of_ble_eq_true rfl) ⟨Nat.le_of_ble_eq_true rfl, Nat.le_of_ble_eq_true rfl⟩ dX3_read_2 ⟨Nat.le_of_ble_eq_true rfl, Nat.le_of_ble_eq_true rfl⟩ rfl ?_
  refine ro_if_ne (tgt := 12) (q := 8) hX dX3_read_5 (by decide) rfl (fun _ => ?_) (fun q => absurd q (by decide))
  refine ro_aload_n (i := 0) (q := 13) hX dX3_read_12 rfl rfl rfl ?_
  refine ro_iload_n (i := 1) (q := 14) hX dX3_read_13 rfl rfl rfl ?_
  refine ro_callVi (q9 := 17) hX (Does.M (o1 := .inl (some (nI 1))) (m_canWrite (by omega)) rfl (by rw [hc]; rfl) rfl) mw_X3_canWrite kl_X3_118 (by decide) (fun cy => cell3 (by decide +kernel)) rfl rfl rfl (Nat.le_of_ble_eq_true rfl) ⟨Nat.le_of_ble_eq_true rfl, Nat.le_of_ble_eq_true rfl⟩ dX3_read_14 ⟨Nat.le_of_ble_eq_true rfl, Nat.le_of_ble_eq_true rfl⟩ rfl ?_
  refine ro_if_ne (tgt := 24) (q := 20) hX dX3_read_17 (by decide) rfl (fun _ => ?_) (fun q => absurd q (by decide))
  refine ro_iconst (v := nI 0) (q := 25) hX dX3_read_24 rfl rfl ?_
  refine ro_callVi (q9 := 28) hX (m_holds_0) mw_X3_holds kl_X3_109 (by decide) (fun cy => cell3 (by decide +kernel)) rfl rfl rfl (Nat.le_of_ble_eq_true rfl) ⟨Nat.le_of_ble_eq_true rfl, Nat.le_of_ble_eq_true rfl⟩ dX3_read_25 ⟨Nat.le_of_ble_eq_true rfl, Nat.le_of_ble_eq_true rfl⟩ rfl ?_
  refine ro_if_eq (tgt := 43) (q := 31) hX dX3_read_28 (by decide) rfl (fun q => absurd q (by decide)) (fun _ => ?_)
  refine ro_aload_n (i := 0) (q := 32) hX dX3_read_31 rfl rfl rfl ?_
  refine ro_Nga1 (q9 := 35) hX kf_X3_7 dX3_read_32 rfl ?_
  refine ro_bipush (v := nI 62) (q := 37) hX dX3_read_35 rfl rfl ?_
  refine ro_iload_n (i := 1) (q := 38) hX dX3_read_37 rfl rfl rfl ?_
  refine ro_iadd (q := 39) hX dX3_read_38 rfl ?_
  refine vv_top (y := nI (62 + p)) (nI_add' rfl rfl) ?_
  refine ro_Nsld (n := 62 + p) (q9 := 40) hX rfl (by omega) dX3_read_39 rfl ?_
  refine ro_goto (tgt := 44) hX dX3_read_40 (by decide) ?_
  exact fin_i hF (Nat.le_of_ble_eq_true rfl) (Nat.le_of_ble_eq_true rfl) dX3_read_44 (by rfl) (by rfl)
set_option maxRecDepth 20000 in
set_option maxHeartbeats 2000000 in
theorem a_remove_1 {x : Int32} (hx : isR x 30 = false) : Does sz I_X3_remove [.ref (sz + 75), .int x] (patch G 75 4 (mS F s), T) 0 0 (.inl (some (nI 0))) (patch G 75 4 (mS (put F 0 0 (nI 1)) s), T) := by
  refine Does.of (L := [(0, .ref (sz + 75)), (1, .int x)]) (by decide +kernel) (Nat.le_of_ble_eq_true rfl) rfl ⟨rfl, (by simp), ⟨rfl, (by simp), trivial⟩⟩ (fun VV hF => ?_)
  have hX := hF.c
  refine ro_aload_n (i := 0) (q := 1) hX dX3_remove_0 rfl rfl rfl ?_
  refine ro_iload_n (i := 1) (q := 2) hX dX3_remove_1 rfl rfl rfl ?_
  refine ro_callSi (q9 := 5) hX (m_isPage_f hx) mw_X3_isPage kl_X3_102 rfl rfl (Nat.le_of_ble_eq_true rfl) ⟨Nat.le_of_ble_eq_true rfl, Nat.le_of_ble_eq_true rfl⟩ dX3_remove_2 ⟨Nat.le_of_ble_eq_true rfl, Nat.le_of_ble_eq_true rfl⟩ rfl ?_
  refine ro_if_ne (tgt := 12) (q := 8) hX dX3_remove_5 (by decide) rfl (fun q => absurd (by decide) q) (fun _ => ?_)
  refine ro_iconst (v := nI 1) (q := 9) hX dX3_remove_8 rfl rfl ?_
  refine ro_goto (tgt := 26) hX dX3_remove_9 (by decide) ?_
  refine ro_callVi (q9 := 29) hX (m_holds_1) mw_X3_holds kl_X3_109 (by decide) (fun cy => cell3 (by decide +kernel)) rfl rfl rfl (Nat.le_of_ble_eq_true rfl) ⟨Nat.le_of_ble_eq_true rfl, Nat.le_of_ble_eq_true rfl⟩ dX3_remove_26 ⟨Nat.le_of_ble_eq_true rfl, Nat.le_of_ble_eq_true rfl⟩ rfl ?_
  refine ro_if_ne (tgt := 34) (q := 32) hX dX3_remove_29 (by decide) rfl (fun q => absurd (by decide) q) (fun _ => ?_)
  refine ro_iconst (v := nI 0) (q := 33) hX dX3_remove_32 rfl rfl ?_
  exact fin_i hF (Nat.le_of_ble_eq_true rfl) (Nat.le_of_ble_eq_true rfl) dX3_remove_33 (by rfl) (by rfl)
set_option maxRecDepth 20000 in
set_option maxHeartbeats 2000000 in
theorem a_remove_2 {p : Nat} (hp : p < 30) (hc : thM s 0 p = false) : Does sz I_X3_remove [.ref (sz + 75), .int (nI p)] (patch G 75 4 (mS F s), T) 0 0 (.inl (some (nI 0))) (patch G 75 4 (mS (put F 0 0 (nI 2)) s), T) := by
  refine Does.of (L := [(0, .ref (sz + 75)), (1, .int (nI p))]) (by decide +kernel) (Nat.le_of_ble_eq_true rfl) rfl ⟨rfl, (by simp), ⟨rfl, (by simp), trivial⟩⟩ (fun VV hF => ?_)
  have hX := hF.c
  refine ro_aload_n (i := 0) (q := 1) hX dX3_remove_0 rfl rfl rfl ?_
  refine ro_iload_n (i := 1) (q := 2) hX dX3_remove_1 rfl rfl rfl ?_
  refine ro_callSi (q9 := 5) hX (m_isPage_t (by omega)) mw_X3_isPage kl_X3_102 rfl rfl (Nat.le_of_ble_eq_true rfl) ⟨Nat.le_of_ble_eq_true rfl, Nat.le_of_ble_eq_true rfl⟩ dX3_remove_2 ⟨Nat.le_of_ble_eq_true rfl, Nat.le_of_ble_eq_true rfl⟩ rfl ?_
  refine ro_if_ne (tgt := 12) (q := 8) hX dX3_remove_5 (by decide) rfl (fun _ => ?_) (fun q => absurd q (by decide))
  refine ro_aload_n (i := 0) (q := 13) hX dX3_remove_12 rfl rfl rfl ?_
  refine ro_iconst (v := nI 0) (q := 14) hX dX3_remove_13 rfl rfl ?_
  refine ro_iload_n (i := 1) (q := 15) hX dX3_remove_14 rfl rfl rfl ?_
  refine ro_callVi (q9 := 18) hX (Does.M (o1 := .inl (some (nI 0))) (m_isThere (by omega) (by omega)) rfl (by rw [hc]; rfl) rfl) mw_X3_isThere kl_X3_28 (by decide) (fun cy => cell3 (by decide +kernel)) rfl rfl rfl (Nat.le_of_ble_eq_true rfl) ⟨Nat.le_of_ble_eq_true rfl, Nat.le_of_ble_eq_true rfl⟩ dX3_remove_15 ⟨Nat.le_of_ble_eq_true rfl, Nat.le_of_ble_eq_true rfl⟩ rfl ?_
  refine ro_if_ne (tgt := 25) (q := 21) hX dX3_remove_18 (by decide) rfl (fun q => absurd (by decide) q) (fun _ => ?_)
  refine ro_iconst (v := nI 2) (q := 22) hX dX3_remove_21 rfl rfl ?_
  refine ro_goto (tgt := 26) hX dX3_remove_22 (by decide) ?_
  refine ro_callVi (q9 := 29) hX (m_holds_2) mw_X3_holds kl_X3_109 (by decide) (fun cy => cell3 (by decide +kernel)) rfl rfl rfl (Nat.le_of_ble_eq_true rfl) ⟨Nat.le_of_ble_eq_true rfl, Nat.le_of_ble_eq_true rfl⟩ dX3_remove_26 ⟨Nat.le_of_ble_eq_true rfl, Nat.le_of_ble_eq_true rfl⟩ rfl ?_
  refine ro_if_ne (tgt := 34) (q := 32) hX dX3_remove_29 (by decide) rfl (fun q => absurd (by decide) q) (fun _ => ?_)
  refine ro_iconst (v := nI 0) (q := 33) hX dX3_remove_32 rfl rfl ?_
  exact fin_i hF (Nat.le_of_ble_eq_true rfl) (Nat.le_of_ble_eq_true rfl) dX3_remove_33 (by rfl) (by rfl)
set_option maxRecDepth 20000 in
set_option maxHeartbeats 2000000 in
theorem a_remove {p : Nat} (hp : p < 30) (hc : thM s 0 p = true) {v : Nat} (hv : v ≤ 6) (hF9 : F 0 2 = nI v) : Does sz I_X3_remove [.ref (sz + 75), .int (nI p)] (patch G 75 4 (mS F s), T) 0 0 (.inl (some (onM (cpM (kpS s v) 0 p)))) (patch G 75 4 (mS (FK F v) (rvM (kpS s v) p)), T) := by
  refine Does.of (L := [(0, .ref (sz + 75)), (1, .int (nI p))]) (by decide +kernel) (Nat.le_of_ble_eq_true rfl) rfl ⟨rfl, (by simp), ⟨rfl, (by simp), trivial⟩⟩ (fun VV hF => ?_)
  have hX := hF.c
  refine ro_aload_n (i := 0) (q := 1) hX dX3_remove_0 rfl rfl rfl ?_
  refine ro_iload_n (i := 1) (q := 2) hX dX3_remove_1 rfl rfl rfl ?_
  refine ro_callSi (q9 := 5) hX (m_isPage_t (by omega)) mw_X3_isPage kl_X3_102 rfl rfl (Nat.le_of_ble_eq_true rfl) ⟨Nat.le_of_ble_eq_true rfl, Nat.le_of_ble_eq_true rfl⟩ dX3_remove_2 ⟨Nat.le_of_ble_eq_true rfl, Nat.le_of_ble_eq_true rfl⟩ rfl ?_
  refine ro_if_ne (tgt := 12) (q := 8) hX dX3_remove_5 (by decide) rfl (fun _ => ?_) (fun q => absurd q (by decide))
  refine ro_aload_n (i := 0) (q := 13) hX dX3_remove_12 rfl rfl rfl ?_
  refine ro_iconst (v := nI 0) (q := 14) hX dX3_remove_13 rfl rfl ?_
  refine ro_iload_n (i := 1) (q := 15) hX dX3_remove_14 rfl rfl rfl ?_
  refine ro_callVi (q9 := 18) hX (Does.M (o1 := .inl (some (nI 1))) (m_isThere (by omega) (by omega)) rfl (by rw [hc]; rfl) rfl) mw_X3_isThere kl_X3_28 (by decide) (fun cy => cell3 (by decide +kernel)) rfl rfl rfl (Nat.le_of_ble_eq_true rfl) ⟨Nat.le_of_ble_eq_true rfl, Nat.le_of_ble_eq_true rfl⟩ dX3_remove_15 ⟨Nat.le_of_ble_eq_true rfl, Nat.le_of_ble_eq_true rfl⟩ rfl ?_
  refine ro_if_ne (tgt := 25) (q := 21) hX dX3_remove_18 (by decide) rfl (fun _ => ?_) (fun q => absurd q (by decide))
  refine ro_iconst (v := nI 0) (q := 26) hX dX3_remove_25 rfl rfl ?_
  refine ro_callVi (q9 := 29) hX (m_holds_0) mw_X3_holds kl_X3_109 (by decide) (fun cy => cell3 (by decide +kernel)) rfl rfl rfl (Nat.le_of_ble_eq_true rfl) ⟨Nat.le_of_ble_eq_true rfl, Nat.le_of_ble_eq_true rfl⟩ dX3_remove_26 ⟨Nat.le_of_ble_eq_true rfl, Nat.le_of_ble_eq_true rfl⟩ rfl ?_
  refine ro_if_ne (tgt := 34) (q := 32) hX dX3_remove_29 (by decide) rfl (fun _ => ?_) (fun q => absurd q (by decide))
  refine ro_aload_n (i := 0) (q := 35) hX dX3_remove_34 rfl rfl rfl ?_
  refine ro_callVv (q9 := 38) hX (m_keeps hv hF9) mw_X3_keeps kl_X3_112 (by decide) (fun cy => cell3 (by decide +kernel)) rfl rfl rfl (Nat.le_of_ble_eq_true rfl) ⟨Nat.le_of_ble_eq_true rfl, Nat.le_of_ble_eq_true rfl⟩ dX3_remove_35 ⟨Nat.le_of_ble_eq_true rfl, Nat.le_of_ble_eq_true rfl⟩ rfl ?_
  refine ro_aload_n (i := 0) (q := 39) hX dX3_remove_38 rfl rfl rfl ?_
  refine ro_iload_n (i := 1) (q := 40) hX dX3_remove_39 rfl rfl rfl ?_
  refine ro_callVi (q9 := 43) hX (m_removes hp) mw_X3_removes kl_X3_124 (by decide) (fun cy => cell3 (by decide +kernel)) rfl rfl rfl (Nat.le_of_ble_eq_true rfl) ⟨Nat.le_of_ble_eq_true rfl, Nat.le_of_ble_eq_true rfl⟩ dX3_remove_40 ⟨Nat.le_of_ble_eq_true rfl, Nat.le_of_ble_eq_true rfl⟩ rfl ?_
  exact fin_i hF (Nat.le_of_ble_eq_true rfl) (Nat.le_of_ble_eq_true rfl) dX3_remove_43 (by rfl) (by rfl)
set_option maxRecDepth 20000 in
set_option maxHeartbeats 2000000 in
theorem a_lend_1 {x : Int32} {y : Int32} (hx : isR x 6 = false) : Does sz I_X3_lend [.ref (sz + 75), .int x, .int y] (patch G 75 4 (mS F s), T) 0 0 (.inl (some (nI 0))) (patch G 75 4 (mS (put F 0 0 (nI 1)) s), T) := by
  refine Does.of (L := [(0, .ref (sz + 75)), (1, .int x), (2, .int y)]) (by decide +kernel) (Nat.le_of_ble_eq_true rfl) rfl ⟨rfl, (by simp), ⟨rfl, (by simp), ⟨rfl, (by simp), trivial⟩⟩⟩ (fun VV hF => ?_)
  have hX := hF.c
  refine ro_aload_n (i := 0) (q := 1) hX dX3_lend_0 rfl rfl rfl ?_
  refine ro_iload_n (i := 1) (q := 2) hX dX3_lend_1 rfl rfl rfl ?_
  refine ro_callSi (q9 := 5) hX (m_isHost_f hx) mw_X3_isHost kl_X3_127 rfl rfl (Nat.le_of_ble_eq_true rfl) ⟨Nat.le_of_ble_eq_true rfl, Nat.le_of_ble_eq_true rfl⟩ dX3_lend_2 ⟨Nat.le_of_ble_eq_true rfl, Nat.le_of_ble_eq_true rfl⟩ rfl ?_
  refine ro_if_ne (tgt := 12) (q := 8) hX dX3_lend_5 (by decide) rfl (fun q => absurd (by decide) q) (fun _ => ?_)
  refine ro_iconst (v := nI 1) (q := 9) hX dX3_lend_8 rfl rfl ?_
  refine ro_goto (tgt := 39) hX dX3_lend_9 (by decide) ?_
  refine ro_callVi (q9 := 42) hX (m_holds_1) mw_X3_holds kl_X3_109 (by decide) (fun cy => cell3 (by decide +kernel)) rfl rfl rfl (Nat.le_of_ble_eq_true rfl) ⟨Nat.le_of_ble_eq_true rfl, Nat.le_of_ble_eq_true rfl⟩ dX3_lend_39 ⟨Nat.le_of_ble_eq_true rfl, Nat.le_of_ble_eq_true rfl⟩ rfl ?_
  refine ro_if_ne (tgt := 47) (q := 45) hX dX3_lend_42 (by decide) rfl (fun q => absurd (by decide) q) (fun _ => ?_)
  refine ro_iconst (v := nI 0) (q := 46) hX dX3_lend_45 rfl rfl ?_
  exact fin_i hF (Nat.le_of_ble_eq_true rfl) (Nat.le_of_ble_eq_true rfl) dX3_lend_46 (by rfl) (by rfl)
set_option maxRecDepth 20000 in
set_option maxHeartbeats 2000000 in
theorem a_lend_2 {h : Nat} (hh : h < 6) {y : Int32} (hy : inB y (nI 1) (nI 20) = false) : Does sz I_X3_lend [.ref (sz + 75), .int (nI h), .int y] (patch G 75 4 (mS F s), T) 0 0 (.inl (some (nI 0))) (patch G 75 4 (mS (put F 0 0 (nI 2)) s), T) := by
  refine Does.of (L := [(0, .ref (sz + 75)), (1, .int (nI h)), (2, .int y)]) (by decide +kernel) (Nat.le_of_ble_eq_true rfl) rfl ⟨rfl, (by simp), ⟨rfl, (by simp), ⟨rfl, (by simp), trivial⟩⟩⟩ (fun VV hF => ?_)
  have hX := hF.c
  refine ro_aload_n (i := 0) (q := 1) hX dX3_lend_0 rfl rfl rfl ?_
  refine ro_iload_n (i := 1) (q := 2) hX dX3_lend_1 rfl rfl rfl ?_
  refine ro_callSi (q9 := 5) hX (m_isHost_t (by omega)) mw_X3_isHost kl_X3_127 rfl rfl (Nat.le_of_ble_eq_true rfl) ⟨Nat.le_of_ble_eq_true rfl, Nat.le_of_ble_eq_true rfl⟩ dX3_lend_2 ⟨Nat.le_of_ble_eq_true rfl, Nat.le_of_ble_eq_true rfl⟩ rfl ?_
  refine ro_if_ne (tgt := 12) (q := 8) hX dX3_lend_5 (by decide) rfl (fun _ => ?_) (fun q => absurd q (by decide))
  refine ro_iload_n (i := 2) (q := 13) hX dX3_lend_12 rfl rfl rfl ?_
  refine ro_iconst (v := nI 1) (q := 14) hX dX3_lend_13 rfl rfl ?_
  refine ro_bipush (v := nI 20) (q := 16) hX dX3_lend_14 rfl rfl ?_
  refine ro_callSi (q9 := 19) hX (m_in_f hy) mw_X3_in kl_X3_24 rfl rfl (Nat.le_of_ble_eq_true rfl) ⟨Nat.le_of_ble_eq_true rfl, Nat.le_of_ble_eq_true rfl⟩ dX3_lend_16 ⟨Nat.le_of_ble_eq_true rfl, Nat.le_of_ble_eq_true rfl⟩ rfl ?_
  refine ro_if_ne (tgt := 26) (q := 22) hX dX3_lend_19 (by decide) rfl (fun q => absurd (by decide) q) (fun _ => ?_)
  refine ro_iconst (v := nI 2) (q := 23) hX dX3_lend_22 rfl rfl ?_
  refine ro_goto (tgt := 39) hX dX3_lend_23 (by decide) ?_
  refine ro_callVi (q9 := 42) hX (m_holds_2) mw_X3_holds kl_X3_109 (by decide) (fun cy => cell3 (by decide +kernel)) rfl rfl rfl (Nat.le_of_ble_eq_true rfl) ⟨Nat.le_of_ble_eq_true rfl, Nat.le_of_ble_eq_true rfl⟩ dX3_lend_39 ⟨Nat.le_of_ble_eq_true rfl, Nat.le_of_ble_eq_true rfl⟩ rfl ?_
  refine ro_if_ne (tgt := 47) (q := 45) hX dX3_lend_42 (by decide) rfl (fun q => absurd (by decide) q) (fun _ => ?_)
  refine ro_iconst (v := nI 0) (q := 46) hX dX3_lend_45 rfl rfl ?_
  exact fin_i hF (Nat.le_of_ble_eq_true rfl) (Nat.le_of_ble_eq_true rfl) dX3_lend_46 (by rfl) (by rfl)
set_option maxRecDepth 20000 in
set_option maxHeartbeats 2000000 in
theorem a_lend_3 {h : Nat} (hh : h < 6) {y : Int32} (hy : inB y (nI 1) (nI 20) = true) (hc : clB s h = false) : Does sz I_X3_lend [.ref (sz + 75), .int (nI h), .int y] (patch G 75 4 (mS F s), T) 0 0 (.inl (some (nI 0))) (patch G 75 4 (mS (put F 0 0 (nI 3)) s), T) := by
  refine Does.of (L := [(0, .ref (sz + 75)), (1, .int (nI h)), (2, .int y)]) (by decide +kernel) (Nat.le_of_ble_eq_true rfl) rfl ⟨rfl, (by simp), ⟨rfl, (by simp), ⟨rfl, (by simp), trivial⟩⟩⟩ (fun VV hF => ?_)
  have hX := hF.c
  refine ro_aload_n (i := 0) (q := 1) hX dX3_lend_0 rfl rfl rfl ?_
  refine ro_iload_n (i := 1) (q := 2) hX dX3_lend_1 rfl rfl rfl ?_
  refine ro_callSi (q9 := 5) hX (m_isHost_t (by omega)) mw_X3_isHost kl_X3_127 rfl rfl (Nat.le_of_ble_eq_true rfl) ⟨Nat.le_of_ble_eq_true rfl, Nat.le_of_ble_eq_true rfl⟩ dX3_lend_2 ⟨Nat.le_of_ble_eq_true rfl, Nat.le_of_ble_eq_true rfl⟩ rfl ?_
  refine ro_if_ne (tgt := 12) (q := 8) hX dX3_lend_5 (by decide) rfl (fun _ => ?_) (fun q => absurd q (by decide))
  refine ro_iload_n (i := 2) (q := 13) hX dX3_lend_12 rfl rfl rfl ?_
  refine ro_iconst (v := nI 1) (q := 14) hX dX3_lend_13 rfl rfl ?_
  refine ro_bipush (v := nI 20) (q := 16) hX dX3_lend_14 rfl rfl ?_
  refine ro_callSi (q9 := 19) hX (m_in_t hy) mw_X3_in kl_X3_24 rfl rfl (Nat.le_of_ble_eq_true rfl) ⟨Nat.le_of_ble_eq_true rfl, Nat.le_of_ble_eq_true rfl⟩ dX3_lend_16 ⟨Nat.le_of_ble_eq_true rfl, Nat.le_of_ble_eq_true rfl⟩ rfl ?_
  refine ro_if_ne (tgt := 26) (q := 22) hX dX3_lend_19 (by decide) rfl (fun _ => ?_) (fun q => absurd q (by decide))
  refine ro_aload_n (i := 0) (q := 27) hX dX3_lend_26 rfl rfl rfl ?_
  refine ro_iload_n (i := 1) (q := 28) hX dX3_lend_27 rfl rfl rfl ?_
  refine ro_callVi (q9 := 31) hX (Does.M (o1 := .inl (some (nI 0))) (m_canLend (by omega)) rfl (by rw [hc]; rfl) rfl) mw_X3_canLend kl_X3_130 (by decide) (fun cy => cell3 (by decide +kernel)) rfl rfl rfl (Nat.le_of_ble_eq_true rfl) ⟨Nat.le_of_ble_eq_true rfl, Nat.le_of_ble_eq_true rfl⟩ dX3_lend_28 ⟨Nat.le_of_ble_eq_true rfl, Nat.le_of_ble_eq_true rfl⟩ rfl ?_
  refine ro_if_ne (tgt := 38) (q := 34) hX dX3_lend_31 (by decide) rfl (fun q => absurd (by decide) q) (fun _ => ?_)
  refine ro_iconst (v := nI 3) (q := 35) hX dX3_lend_34 rfl rfl ?_
  refine ro_goto (tgt := 39) hX dX3_lend_35 (by decide) ?_
  refine ro_callVi (q9 := 42) hX (m_holds_3) mw_X3_holds kl_X3_109 (by decide) (fun cy => cell3 (by decide +kernel)) rfl rfl rfl (Nat.le_of_ble_eq_true rfl) ⟨Nat.le_of_ble_eq_true rfl, Nat.le_of_ble_eq_true rfl⟩ dX3_lend_39 ⟨Nat.le_of_ble_eq_true rfl, Nat.le_of_ble_eq_true rfl⟩ rfl ?_
  refine ro_if_ne (tgt := 47) (q := 45) hX dX3_lend_42 (by decide) rfl (fun q => absurd (by decide) q) (fun _ => ?_)
  refine ro_iconst (v := nI 0) (q := 46) hX dX3_lend_45 rfl rfl ?_
  exact fin_i hF (Nat.le_of_ble_eq_true rfl) (Nat.le_of_ble_eq_true rfl) dX3_lend_46 (by rfl) (by rfl)
set_option maxRecDepth 20000 in
set_option maxHeartbeats 2000000 in
theorem a_lend {h : Nat} (hh : h < 6) {y : Int32} (hy : inB y (nI 1) (nI 20) = true) (hc : clB s h = true) {v : Nat} (hv : v ≤ 6) (hF9 : F 0 2 = nI v) : Does sz I_X3_lend [.ref (sz + 75), .int (nI h), .int y] (patch G 75 4 (mS F s), T) 0 0 (.inl (some (leL (le1 (kpS s v) h y) 6))) (patch G 75 4 (mS (FK F v) (seM (le1 (kpS s v) h y) 0)), T) := by
  refine Does.of (L := [(0, .ref (sz + 75)), (1, .int (nI h)), (2, .int y)]) (by decide +kernel) (Nat.le_of_ble_eq_true rfl) rfl ⟨rfl, (by simp), ⟨rfl, (by simp), ⟨rfl, (by simp), trivial⟩⟩⟩ (fun VV hF => ?_)
  have hX := hF.c
  refine ro_aload_n (i := 0) (q := 1) hX dX3_lend_0 rfl rfl rfl ?_
  refine ro_iload_n (i := 1) (q := 2) hX dX3_lend_1 rfl rfl rfl ?_
  refine ro_callSi (q9 := 5) hX (m_isHost_t (by omega)) mw_X3_isHost kl_X3_127 rfl rfl (Nat.le_of_ble_eq_true rfl) ⟨Nat.le_of_ble_eq_true rfl, Nat.le_of_ble_eq_true rfl⟩ dX3_lend_2 ⟨Nat.le_of_ble_eq_true rfl, Nat.le_of_ble_eq_true rfl⟩ rfl ?_
  refine ro_if_ne (tgt := 12) (q := 8) hX dX3_lend_5 (by decide) rfl (fun _ => ?_) (fun q => absurd q (by decide))
  refine ro_iload_n (i := 2) (q := 13) hX dX3_lend_12 rfl rfl rfl ?_
  refine ro_iconst (v := nI 1) (q := 14) hX dX3_lend_13 rfl rfl ?_
  refine ro_bipush (v := nI 20) (q := 16) hX dX3_lend_14 rfl rfl ?_
  refine ro_callSi (q9 := 19) hX (m_in_t hy) mw_X3_in kl_X3_24 rfl rfl (Nat.le_of_ble_eq_true rfl) ⟨Nat.le_of_ble_eq_true rfl, Nat.le_of_ble_eq_true rfl⟩ dX3_lend_16 ⟨Nat.le_of_ble_eq_true rfl, Nat.le_of_ble_eq_true rfl⟩ rfl ?_
  refine ro_if_ne (tgt := 26) (q := 22) hX dX3_lend_19 (by decide) rfl (fun _ => ?_) (fun q => absurd q (by decide))
  refine ro_aload_n (i := 0) (q := 27) hX dX3_lend_26 rfl rfl rfl ?_
  refine ro_iload_n (i := 1) (q := 28) hX dX3_lend_27 rfl rfl rfl ?_
  refine ro_callVi (q9 := 31) hX (Does.M (o1 := .inl (some (nI 1))) (m_canLend (by omega)) rfl (by rw [hc]; rfl) rfl) mw_X3_canLend kl_X3_130 (by decide) (fun cy => cell3 (by decide +kernel)) rfl rfl rfl (Nat.le_of_ble_eq_true rfl) ⟨Nat.le_of_ble_eq_true rfl, Nat.le_of_ble_eq_true rfl⟩ dX3_lend_28 ⟨Nat.le_of_ble_eq_true rfl, Nat.le_of_ble_eq_true rfl⟩ rfl ?_
  refine ro_if_ne (tgt := 38) (q := 34) hX dX3_lend_31 (by decide) rfl (fun _ => ?_) (fun q => absurd q (by decide))
  refine ro_iconst (v := nI 0) (q := 39) hX dX3_lend_38 rfl rfl ?_
  refine ro_callVi (q9 := 42) hX (m_holds_0) mw_X3_holds kl_X3_109 (by decide) (fun cy => cell3 (by decide +kernel)) rfl rfl rfl (Nat.le_of_ble_eq_true rfl) ⟨Nat.le_of_ble_eq_true rfl, Nat.le_of_ble_eq_true rfl⟩ dX3_lend_39 ⟨Nat.le_of_ble_eq_true rfl, Nat.le_of_ble_eq_true rfl⟩ rfl ?_
  refine ro_if_ne (tgt := 47) (q := 45) hX dX3_lend_42 (by decide) rfl (fun _ => ?_) (fun q => absurd q (by decide))
  refine ro_aload_n (i := 0) (q := 48) hX dX3_lend_47 rfl rfl rfl ?_
  refine ro_callVv (q9 := 51) hX (m_keeps hv hF9) mw_X3_keeps kl_X3_112 (by decide) (fun cy => cell3 (by decide +kernel)) rfl rfl rfl (Nat.le_of_ble_eq_true rfl) ⟨Nat.le_of_ble_eq_true rfl, Nat.le_of_ble_eq_true rfl⟩ dX3_lend_48 ⟨Nat.le_of_ble_eq_true rfl, Nat.le_of_ble_eq_true rfl⟩ rfl ?_
  refine ro_aload_n (i := 0) (q := 52) hX dX3_lend_51 rfl rfl rfl ?_
  refine ro_iload_n (i := 1) (q := 53) hX dX3_lend_52 rfl rfl rfl ?_
  refine ro_iload_n (i := 2) (q := 54) hX dX3_lend_53 rfl rfl rfl ?_
  refine ro_callVi (q9 := 57) hX (m_lends hh) mw_X3_lends kl_X3_133 (by decide) (fun cy => cell3 (by decide +kernel)) rfl rfl rfl (Nat.le_of_ble_eq_true rfl) ⟨Nat.le_of_ble_eq_true rfl, Nat.le_of_ble_eq_true rfl⟩ dX3_lend_54 ⟨Nat.le_of_ble_eq_true rfl, Nat.le_of_ble_eq_true rfl⟩ rfl ?_
  exact fin_i hF (Nat.le_of_ble_eq_true rfl) (Nat.le_of_ble_eq_true rfl) dX3_lend_57 (by rfl) (by rfl)
set_option maxRecDepth 20000 in
set_option maxHeartbeats 2000000 in
theorem a_recall_1 {x : Int32} {y : Int32} (hx : isR x 6 = false) : Does sz I_X3_recall [.ref (sz + 75), .int x, .int y] (patch G 75 4 (mS F s), T) 0 0 (.inl (some (nI 0))) (patch G 75 4 (mS (put F 0 0 (nI 1)) s), T) := by
  refine Does.of (L := [(0, .ref (sz + 75)), (1, .int x), (2, .int y)]) (by decide +kernel) (Nat.le_of_ble_eq_true rfl) rfl ⟨rfl, (by simp), ⟨rfl, (by simp), ⟨rfl, (by simp), trivial⟩⟩⟩ (fun VV hF => ?_)
  have hX := hF.c
  refine ro_aload_n (i := 0) (q := 1) hX dX3_recall_0 rfl rfl rfl ?_
  refine ro_iload_n (i := 1) (q := 2) hX dX3_recall_1 rfl rfl rfl ?_
  refine ro_callSi (q9 := 5) hX (m_isHost_f hx) mw_X3_isHost kl_X3_127 rfl rfl (Nat.le_of_ble_eq_true rfl) ⟨Nat.le_of_ble_eq_true rfl, Nat.le_of_ble_eq_true rfl⟩ dX3_recall_2 ⟨Nat.le_of_ble_eq_true rfl, Nat.le_of_ble_eq_true rfl⟩ rfl ?_
  refine ro_if_ne (tgt := 12) (q := 8) hX dX3_recall_5 (by decide) rfl (fun q => absurd (by decide) q) (fun _ => ?_)
  refine ro_iconst (v := nI 1) (q := 9) hX dX3_recall_8 rfl rfl ?_
  refine ro_goto (tgt := 40) hX dX3_recall_9 (by decide) ?_
  refine ro_callVi (q9 := 43) hX (m_holds_1) mw_X3_holds kl_X3_109 (by decide) (fun cy => cell3 (by decide +kernel)) rfl rfl rfl (Nat.le_of_ble_eq_true rfl) ⟨Nat.le_of_ble_eq_true rfl, Nat.le_of_ble_eq_true rfl⟩ dX3_recall_40 ⟨Nat.le_of_ble_eq_true rfl, Nat.le_of_ble_eq_true rfl⟩ rfl ?_
  refine ro_if_ne (tgt := 48) (q := 46) hX dX3_recall_43 (by decide) rfl (fun q => absurd (by decide) q) (fun _ => ?_)
  refine ro_iconst (v := nI 0) (q := 47) hX dX3_recall_46 rfl rfl ?_
  exact fin_i hF (Nat.le_of_ble_eq_true rfl) (Nat.le_of_ble_eq_true rfl) dX3_recall_47 (by rfl) (by rfl)
set_option maxRecDepth 20000 in
set_option maxHeartbeats 2000000 in
theorem a_recall_2 {h : Nat} (hh : h < 6) {y : Int32} (hy : inB y (nI 1) (nI 600) = false) : Does sz I_X3_recall [.ref (sz + 75), .int (nI h), .int y] (patch G 75 4 (mS F s), T) 0 0 (.inl (some (nI 0))) (patch G 75 4 (mS (put F 0 0 (nI 2)) s), T) := by
  refine Does.of (L := [(0, .ref (sz + 75)), (1, .int (nI h)), (2, .int y)]) (by decide +kernel) (Nat.le_of_ble_eq_true rfl) rfl ⟨rfl, (by simp), ⟨rfl, (by simp), ⟨rfl, (by simp), trivial⟩⟩⟩ (fun VV hF => ?_)
  have hX := hF.c
  refine ro_aload_n (i := 0) (q := 1) hX dX3_recall_0 rfl rfl rfl ?_
  refine ro_iload_n (i := 1) (q := 2) hX dX3_recall_1 rfl rfl rfl ?_
  refine ro_callSi (q9 := 5) hX (m_isHost_t (by omega)) mw_X3_isHost kl_X3_127 rfl rfl (Nat.le_of_ble_eq_true rfl) ⟨Nat.le_of_ble_eq_true rfl, Nat.le_of_ble_eq_true rfl⟩ dX3_recall_2 ⟨Nat.le_of_ble_eq_true rfl, Nat.le_of_ble_eq_true rfl⟩ rfl ?_
  refine ro_if_ne (tgt := 12) (q := 8) hX dX3_recall_5 (by decide) rfl (fun _ => ?_) (fun q => absurd q (by decide))
  refine ro_iload_n (i := 2) (q := 13) hX dX3_recall_12 rfl rfl rfl ?_
  refine ro_iconst (v := nI 1) (q := 14) hX dX3_recall_13 rfl rfl ?_
  refine ro_sipush (v := nI 600) (q := 17) hX dX3_recall_14 rfl rfl ?_
  refine ro_callSi (q9 := 20) hX (m_in_f hy) mw_X3_in kl_X3_24 rfl rfl (Nat.le_of_ble_eq_true rfl) ⟨Nat.le_of_ble_eq_true rfl, Nat.le_of_ble_eq_true rfl⟩ dX3_recall_17 ⟨Nat.le_of_ble_eq_true rfl, Nat.le_of_ble_eq_true rfl⟩ rfl ?_
  refine ro_if_ne (tgt := 27) (q := 23) hX dX3_recall_20 (by decide) rfl (fun q => absurd (by decide) q) (fun _ => ?_)
  refine ro_iconst (v := nI 2) (q := 24) hX dX3_recall_23 rfl rfl ?_
  refine ro_goto (tgt := 40) hX dX3_recall_24 (by decide) ?_
  refine ro_callVi (q9 := 43) hX (m_holds_2) mw_X3_holds kl_X3_109 (by decide) (fun cy => cell3 (by decide +kernel)) rfl rfl rfl (Nat.le_of_ble_eq_true rfl) ⟨Nat.le_of_ble_eq_true rfl, Nat.le_of_ble_eq_true rfl⟩ dX3_recall_40 ⟨Nat.le_of_ble_eq_true rfl, Nat.le_of_ble_eq_true rfl⟩ rfl ?_
  refine ro_if_ne (tgt := 48) (q := 46) hX dX3_recall_43 (by decide) rfl (fun q => absurd (by decide) q) (fun _ => ?_)
  refine ro_iconst (v := nI 0) (q := 47) hX dX3_recall_46 rfl rfl ?_
  exact fin_i hF (Nat.le_of_ble_eq_true rfl) (Nat.le_of_ble_eq_true rfl) dX3_recall_47 (by rfl) (by rfl)
set_option maxRecDepth 20000 in
set_option maxHeartbeats 2000000 in
theorem a_recall_3 {h : Nat} (hh : h < 6) {y : Int32} (hy : inB y (nI 1) (nI 600) = true) (hc : crB s h = false) : Does sz I_X3_recall [.ref (sz + 75), .int (nI h), .int y] (patch G 75 4 (mS F s), T) 0 0 (.inl (some (nI 0))) (patch G 75 4 (mS (put F 0 0 (nI 3)) s), T) := by
  refine Does.of (L := [(0, .ref (sz + 75)), (1, .int (nI h)), (2, .int y)]) (by decide +kernel) (Nat.le_of_ble_eq_true rfl) rfl ⟨rfl, (by simp), ⟨rfl, (by simp), ⟨rfl, (by simp), trivial⟩⟩⟩ (fun VV hF => ?_)
  have hX := hF.c
  refine ro_aload_n (i := 0) (q := 1) hX dX3_recall_0 rfl rfl rfl ?_
  refine ro_iload_n (i := 1) (q := 2) hX dX3_recall_1 rfl rfl rfl ?_
  refine ro_callSi (q9 := 5) hX (m_isHost_t (by omega)) mw_X3_isHost kl_X3_127 rfl rfl (Nat.le_of_ble_eq_true rfl) ⟨Nat.le_of_ble_eq_true rfl, Nat.le_of_ble_eq_true rfl⟩ dX3_recall_2 ⟨Nat.le_of_ble_eq_true rfl, Nat.le_of_ble_eq_true rfl⟩ rfl ?_
  refine ro_if_ne (tgt := 12) (q := 8) hX dX3_recall_5 (by decide) rfl (fun _ => ?_) (fun q => absurd q (by decide))
  refine ro_iload_n (i := 2) (q := 13) hX dX3_recall_12 rfl rfl rfl ?_
  refine ro_iconst (v := nI 1) (q := 14) hX dX3_recall_13 rfl rfl ?_
  refine ro_sipush (v := nI 600) (q := 17) hX dX3_recall_14 rfl rfl ?_
  refine ro_callSi (q9 := 20) hX (m_in_t hy) mw_X3_in kl_X3_24 rfl rfl (Nat.le_of_ble_eq_true rfl) ⟨Nat.le_of_ble_eq_true rfl, Nat.le_of_ble_eq_true rfl⟩ dX3_recall_17 ⟨Nat.le_of_ble_eq_true rfl, Nat.le_of_ble_eq_true rfl⟩ rfl ?_
  refine ro_if_ne (tgt := 27) (q := 23) hX dX3_recall_20 (by decide) rfl (fun _ => ?_) (fun q => absurd q (by decide))
  refine ro_aload_n (i := 0) (q := 28) hX dX3_recall_27 rfl rfl rfl ?_
  refine ro_iload_n (i := 1) (q := 29) hX dX3_recall_28 rfl rfl rfl ?_
  refine ro_callVi (q9 := 32) hX (Does.M (o1 := .inl (some (nI 0))) (m_canRecall (by omega)) rfl (by rw [hc]; rfl) rfl) mw_X3_canRecall kl_X3_136 (by decide) (fun cy => cell3 (by decide +kernel)) rfl rfl rfl (Nat.le_of_ble_eq_true rfl) ⟨Nat.le_of_ble_eq_true rfl, Nat.le_of_ble_eq_true rfl⟩ dX3_recall_29 ⟨Nat.le_of_ble_eq_true rfl, Nat.le_of_ble_eq_true rfl⟩ rfl ?_
  refine ro_if_ne (tgt := 39) (q := 35) hX dX3_recall_32 (by decide) rfl (fun q => absurd (by decide) q) (fun _ => ?_)
  refine ro_iconst (v := nI 3) (q := 36) hX dX3_recall_35 rfl rfl ?_
  refine ro_goto (tgt := 40) hX dX3_recall_36 (by decide) ?_
  refine ro_callVi (q9 := 43) hX (m_holds_3) mw_X3_holds kl_X3_109 (by decide) (fun cy => cell3 (by decide +kernel)) rfl rfl rfl (Nat.le_of_ble_eq_true rfl) ⟨Nat.le_of_ble_eq_true rfl, Nat.le_of_ble_eq_true rfl⟩ dX3_recall_40 ⟨Nat.le_of_ble_eq_true rfl, Nat.le_of_ble_eq_true rfl⟩ rfl ?_
  refine ro_if_ne (tgt := 48) (q := 46) hX dX3_recall_43 (by decide) rfl (fun q => absurd (by decide) q) (fun _ => ?_)
  refine ro_iconst (v := nI 0) (q := 47) hX dX3_recall_46 rfl rfl ?_
  exact fin_i hF (Nat.le_of_ble_eq_true rfl) (Nat.le_of_ble_eq_true rfl) dX3_recall_47 (by rfl) (by rfl)
set_option maxRecDepth 20000 in
set_option maxHeartbeats 2000000 in
theorem a_recall {h : Nat} (hh : h < 6) {y : Int32} (hy : inB y (nI 1) (nI 600) = true) (hc : crB s h = true) {v : Nat} (hv : v ≤ 6) (hF9 : F 0 2 = nI v) : Does sz I_X3_recall [.ref (sz + 75), .int (nI h), .int y] (patch G 75 4 (mS F s), T) 0 0 (.inl (some (nI (hdM (re1 (kpS s v) h y) 0 h)))) (patch G 75 4 (mS (FK F v) (seM (re1 (kpS s v) h y) 0)), T) := by
  refine Does.of (L := [(0, .ref (sz + 75)), (1, .int (nI h)), (2, .int y)]) (by decide +kernel) (Nat.le_of_ble_eq_true rfl) rfl ⟨rfl, (by simp), ⟨rfl, (by simp), ⟨rfl, (by simp), trivial⟩⟩⟩ (fun VV hF => ?_)
  have hX := hF.c
  refine ro_aload_n (i := 0) (q := 1) hX dX3_recall_0 rfl rfl rfl ?_
  refine ro_iload_n (i := 1) (q := 2) hX dX3_recall_1 rfl rfl rfl ?_
  refine ro_callSi (q9 := 5) hX (m_isHost_t (by omega)) mw_X3_isHost kl_X3_127 rfl rfl (Nat.le_of_ble_eq_true rfl) ⟨Nat.le_of_ble_eq_true rfl, Nat.le_of_ble_eq_true rfl⟩ dX3_recall_2 ⟨Nat.le_of_ble_eq_true rfl, Nat.le_of_ble_eq_true rfl⟩ rfl ?_
  refine ro_if_ne (tgt := 12) (q := 8) hX dX3_recall_5 (by decide) rfl (fun _ => ?_) (fun q => absurd q (by decide))
  refine ro_iload_n (i := 2) (q := 13) hX dX3_recall_12 rfl rfl rfl ?_
  refine ro_iconst (v := nI 1) (q := 14) hX dX3_recall_13 rfl rfl ?_
  refine ro_sipush (v := nI 600) (q := 17) hX dX3_recall_14 rfl rfl ?_
  refine ro_callSi (q9 := 20) hX (m_in_t hy) mw_X3_in kl_X3_24 rfl rfl (Nat.le_of_ble_eq_true rfl) ⟨Nat.le_of_ble_eq_true rfl, Nat.le_of_ble_eq_true rfl⟩ dX3_recall_17 ⟨Nat.le_of_ble_eq_true rfl, Nat.le_of_ble_eq_true rfl⟩ rfl ?_
  refine ro_if_ne (tgt := 27) (q := 23) hX dX3_recall_20 (by decide) rfl (fun _ => ?_) (fun q => absurd q (by decide))
  refine ro_aload_n (i := 0) (q := 28) hX dX3_recall_27 rfl rfl rfl ?_
  refine ro_iload_n (i := 1) (q := 29) hX dX3_recall_28 rfl rfl rfl ?_
  refine ro_callVi (q9 := 32) hX (Does.M (o1 := .inl (some (nI 1))) (m_canRecall (by omega)) rfl (by rw [hc]; rfl) rfl) mw_X3_canRecall kl_X3_136 (by decide) (fun cy => cell3 (by decide +kernel)) rfl rfl rfl (Nat.le_of_ble_eq_true rfl) ⟨Nat.le_of_ble_eq_true rfl, Nat.le_of_ble_eq_true rfl⟩ dX3_recall_29 ⟨Nat.le_of_ble_eq_true rfl, Nat.le_of_ble_eq_true rfl⟩ rfl ?_
  refine ro_if_ne (tgt := 39) (q := 35) hX dX3_recall_32 (by decide) rfl (fun _ => ?_) (fun q => absurd q (by decide))
  refine ro_iconst (v := nI 0) (q := 40) hX dX3_recall_39 rfl rfl ?_
  refine ro_callVi (q9 := 43) hX (m_holds_0) mw_X3_holds kl_X3_109 (by decide) (fun cy => cell3 (by decide +kernel)) rfl rfl rfl (Nat.le_of_ble_eq_true rfl) ⟨Nat.le_of_ble_eq_true rfl, Nat.le_of_ble_eq_true rfl⟩ dX3_recall_40 ⟨Nat.le_of_ble_eq_true rfl, Nat.le_of_ble_eq_true rfl⟩ rfl ?_
  refine ro_if_ne (tgt := 48) (q := 46) hX dX3_recall_43 (by decide) rfl (fun _ => ?_) (fun q => absurd q (by decide))
  refine ro_aload_n (i := 0) (q := 49) hX dX3_recall_48 rfl rfl rfl ?_
  refine ro_callVv (q9 := 52) hX (m_keeps hv hF9) mw_X3_keeps kl_X3_112 (by decide) (fun cy => cell3 (by decide +kernel)) rfl rfl rfl (Nat.le_of_ble_eq_true rfl) ⟨Nat.le_of_ble_eq_true rfl, Nat.le_of_ble_eq_true rfl⟩ dX3_recall_49 ⟨Nat.le_of_ble_eq_true rfl, Nat.le_of_ble_eq_true rfl⟩ rfl ?_
  refine ro_aload_n (i := 0) (q := 53) hX dX3_recall_52 rfl rfl rfl ?_
  refine ro_iload_n (i := 1) (q := 54) hX dX3_recall_53 rfl rfl rfl ?_
  refine ro_iload_n (i := 2) (q := 55) hX dX3_recall_54 rfl rfl rfl ?_
  refine ro_callVi (q9 := 58) hX (m_recalls hh) mw_X3_recalls kl_X3_139 (by decide) (fun cy => cell3 (by decide +kernel)) rfl rfl rfl (Nat.le_of_ble_eq_true rfl) ⟨Nat.le_of_ble_eq_true rfl, Nat.le_of_ble_eq_true rfl⟩ dX3_recall_55 ⟨Nat.le_of_ble_eq_true rfl, Nat.le_of_ble_eq_true rfl⟩ rfl ?_
  exact fin_i hF (Nat.le_of_ble_eq_true rfl) (Nat.le_of_ble_eq_true rfl) dX3_recall_58 (by rfl) (by rfl)
set_option maxRecDepth 20000 in
set_option maxHeartbeats 2000000 in
theorem a_disconnect_1 {x : Int32} (hx : isR x 6 = false) : Does sz I_X3_disconnect [.ref (sz + 75), .int x] (patch G 75 4 (mS F s), T) 0 0 (.inl (some (nI 0))) (patch G 75 4 (mS (put F 0 0 (nI 1)) s), T) := by
  refine Does.of (L := [(0, .ref (sz + 75)), (1, .int x)]) (by decide +kernel) (Nat.le_of_ble_eq_true rfl) rfl ⟨rfl, (by simp), ⟨rfl, (by simp), trivial⟩⟩ (fun VV hF => ?_)
  have hX := hF.c
  refine ro_aload_n (i := 0) (q := 1) hX dX3_disconnect_0 rfl rfl rfl ?_
  refine ro_iload_n (i := 1) (q := 2) hX dX3_disconnect_1 rfl rfl rfl ?_
  refine ro_callSi (q9 := 5) hX (m_isHost_f hx) mw_X3_isHost kl_X3_127 rfl rfl (Nat.le_of_ble_eq_true rfl) ⟨Nat.le_of_ble_eq_true rfl, Nat.le_of_ble_eq_true rfl⟩ dX3_disconnect_2 ⟨Nat.le_of_ble_eq_true rfl, Nat.le_of_ble_eq_true rfl⟩ rfl ?_
  refine ro_if_ne (tgt := 12) (q := 8) hX dX3_disconnect_5 (by decide) rfl (fun q => absurd (by decide) q) (fun _ => ?_)
  refine ro_iconst (v := nI 1) (q := 9) hX dX3_disconnect_8 rfl rfl ?_
  refine ro_goto (tgt := 25) hX dX3_disconnect_9 (by decide) ?_
  refine ro_callVi (q9 := 28) hX (m_holds_1) mw_X3_holds kl_X3_109 (by decide) (fun cy => cell3 (by decide +kernel)) rfl rfl rfl (Nat.le_of_ble_eq_true rfl) ⟨Nat.le_of_ble_eq_true rfl, Nat.le_of_ble_eq_true rfl⟩ dX3_disconnect_25 ⟨Nat.le_of_ble_eq_true rfl, Nat.le_of_ble_eq_true rfl⟩ rfl ?_
  refine ro_if_ne (tgt := 33) (q := 31) hX dX3_disconnect_28 (by decide) rfl (fun q => absurd (by decide) q) (fun _ => ?_)
  refine ro_iconst (v := nI 0) (q := 32) hX dX3_disconnect_31 rfl rfl ?_
  exact fin_i hF (Nat.le_of_ble_eq_true rfl) (Nat.le_of_ble_eq_true rfl) dX3_disconnect_32 (by rfl) (by rfl)
set_option maxRecDepth 20000 in
set_option maxHeartbeats 2000000 in
theorem a_disconnect_2 {h : Nat} (hh : h < 6) (hc : cdB s h = false) : Does sz I_X3_disconnect [.ref (sz + 75), .int (nI h)] (patch G 75 4 (mS F s), T) 0 0 (.inl (some (nI 0))) (patch G 75 4 (mS (put F 0 0 (nI 2)) s), T) := by
  refine Does.of (L := [(0, .ref (sz + 75)), (1, .int (nI h))]) (by decide +kernel) (Nat.le_of_ble_eq_true rfl) rfl ⟨rfl, (by simp), ⟨rfl, (by simp), trivial⟩⟩ (fun VV hF => ?_)
  have hX := hF.c
  refine ro_aload_n (i := 0) (q := 1) hX dX3_disconnect_0 rfl rfl rfl ?_
  refine ro_iload_n (i := 1) (q := 2) hX dX3_disconnect_1 rfl rfl rfl ?_
  refine ro_callSi (q9 := 5) hX (m_isHost_t (by omega)) mw_X3_isHost kl_X3_127 rfl rfl (Nat.le_of_ble_eq_true rfl) ⟨Nat.le_of_ble_eq_true rfl, Nat.le_of_ble_eq_true rfl⟩ dX3_disconnect_2 ⟨Nat.le_of_ble_eq_true rfl, Nat.le_of_ble_eq_true rfl⟩ rfl ?_
  refine ro_if_ne (tgt := 12) (q := 8) hX dX3_disconnect_5 (by decide) rfl (fun _ => ?_) (fun q => absurd q (by decide))
  refine ro_aload_n (i := 0) (q := 13) hX dX3_disconnect_12 rfl rfl rfl ?_
  refine ro_iload_n (i := 1) (q := 14) hX dX3_disconnect_13 rfl rfl rfl ?_
  refine ro_callVi (q9 := 17) hX (Does.M (o1 := .inl (some (nI 0))) (m_canDisconnect (by omega)) rfl (by rw [hc]; rfl) rfl) mw_X3_canDisconnect kl_X3_142 (by decide) (fun cy => cell3 (by decide +kernel)) rfl rfl rfl (Nat.le_of_ble_eq_true rfl) ⟨Nat.le_of_ble_eq_true rfl, Nat.le_of_ble_eq_true rfl⟩ dX3_disconnect_14 ⟨Nat.le_of_ble_eq_true rfl, Nat.le_of_ble_eq_true rfl⟩ rfl ?_
  refine ro_if_ne (tgt := 24) (q := 20) hX dX3_disconnect_17 (by decide) rfl (fun q => absurd (by decide) q) (fun _ => ?_)
  refine ro_iconst (v := nI 2) (q := 21) hX dX3_disconnect_20 rfl rfl ?_
  refine ro_goto (tgt := 25) hX dX3_disconnect_21 (by decide) ?_
  refine ro_callVi (q9 := 28) hX (m_holds_2) mw_X3_holds kl_X3_109 (by decide) (fun cy => cell3 (by decide +kernel)) rfl rfl rfl (Nat.le_of_ble_eq_true rfl) ⟨Nat.le_of_ble_eq_true rfl, Nat.le_of_ble_eq_true rfl⟩ dX3_disconnect_25 ⟨Nat.le_of_ble_eq_true rfl, Nat.le_of_ble_eq_true rfl⟩ rfl ?_
  refine ro_if_ne (tgt := 33) (q := 31) hX dX3_disconnect_28 (by decide) rfl (fun q => absurd (by decide) q) (fun _ => ?_)
  refine ro_iconst (v := nI 0) (q := 32) hX dX3_disconnect_31 rfl rfl ?_
  exact fin_i hF (Nat.le_of_ble_eq_true rfl) (Nat.le_of_ble_eq_true rfl) dX3_disconnect_32 (by rfl) (by rfl)
set_option maxRecDepth 20000 in
set_option maxHeartbeats 2000000 in
theorem a_disconnect {h : Nat} (hh : h < 6) (hc : cdB s h = true) {v : Nat} (hv : v ≤ 6) (hF9 : F 0 2 = nI v) : Does sz I_X3_disconnect [.ref (sz + 75), .int (nI h)] (patch G 75 4 (mS F s), T) 0 0 (.inl (some (nI (hdM (di1 (kpS s v) h) 0 h)))) (patch G 75 4 (mS (FK F v) (seM (di1 (kpS s v) h) 0)), T) := by
  refine Does.of (L := [(0, .ref (sz + 75)), (1, .int (nI h))]) (by decide +kernel) (Nat.le_of_ble_eq_true rfl) rfl ⟨rfl, (by simp), ⟨rfl, (by simp), trivial⟩⟩ (fun VV hF => ?_)
  have hX := hF.c
  refine ro_aload_n (i := 0) (q := 1) hX dX3_disconnect_0 rfl rfl rfl ?_
  refine ro_iload_n (i := 1) (q := 2) hX dX3_disconnect_1 rfl rfl rfl ?_
  refine ro_callSi (q9 := 5) hX (m_isHost_t (by omega)) mw_X3_isHost kl_X3_127 rfl rfl (Nat.le_of_ble_eq_true rfl) ⟨Nat.le_of_ble_eq_true rfl, Nat.le_of_ble_eq_true rfl⟩ dX3_disconnect_2 ⟨Nat.le_of_ble_eq_true rfl, Nat.le_of_ble_eq_true rfl⟩ rfl ?_
  refine ro_if_ne (tgt := 12) (q := 8) hX dX3_disconnect_5 (by decide) rfl (fun _ => ?_) (fun q => absurd q (by decide))
  refine ro_aload_n (i := 0) (q := 13) hX dX3_disconnect_12 rfl rfl rfl ?_
  refine ro_iload_n (i := 1) (q := 14) hX dX3_disconnect_13 rfl rfl rfl ?_
  refine ro_callVi (q9 := 17) hX (Does.M (o1 := .inl (some (nI 1))) (m_canDisconnect (by omega)) rfl (by rw [hc]; rfl) rfl) mw_X3_canDisconnect kl_X3_142 (by decide) (fun cy => cell3 (by decide +kernel)) rfl rfl rfl (Nat.le_of_ble_eq_true rfl) ⟨Nat.le_of_ble_eq_true rfl, Nat.le_of_ble_eq_true rfl⟩ dX3_disconnect_14 ⟨Nat.le_of_ble_eq_true rfl, Nat.le_of_ble_eq_true rfl⟩ rfl ?_
  refine ro_if_ne (tgt := 24) (q := 20) hX dX3_disconnect_17 (by decide) rfl (fun _ => ?_) (fun q => absurd q (by decide))
  refine ro_iconst (v := nI 0) (q := 25) hX dX3_disconnect_24 rfl rfl ?_
  refine ro_callVi (q9 := 28) hX (m_holds_0) mw_X3_holds kl_X3_109 (by decide) (fun cy => cell3 (by decide +kernel)) rfl rfl rfl (Nat.le_of_ble_eq_true rfl) ⟨Nat.le_of_ble_eq_true rfl, Nat.le_of_ble_eq_true rfl⟩ dX3_disconnect_25 ⟨Nat.le_of_ble_eq_true rfl, Nat.le_of_ble_eq_true rfl⟩ rfl ?_
  refine ro_if_ne (tgt := 33) (q := 31) hX dX3_disconnect_28 (by decide) rfl (fun _ => ?_) (fun q => absurd q (by decide))
  refine ro_aload_n (i := 0) (q := 34) hX dX3_disconnect_33 rfl rfl rfl ?_
  refine ro_callVv (q9 := 37) hX (m_keeps hv hF9) mw_X3_keeps kl_X3_112 (by decide) (fun cy => cell3 (by decide +kernel)) rfl rfl rfl (Nat.le_of_ble_eq_true rfl) ⟨Nat.le_of_ble_eq_true rfl, Nat.le_of_ble_eq_true rfl⟩ dX3_disconnect_34 ⟨Nat.le_of_ble_eq_true rfl, Nat.le_of_ble_eq_true rfl⟩ rfl ?_
  refine ro_aload_n (i := 0) (q := 38) hX dX3_disconnect_37 rfl rfl rfl ?_
  refine ro_iload_n (i := 1) (q := 39) hX dX3_disconnect_38 rfl rfl rfl ?_
  refine ro_callVi (q9 := 42) hX (m_disconnects hh) mw_X3_disconnects kl_X3_145 (by decide) (fun cy => cell3 (by decide +kernel)) rfl rfl rfl (Nat.le_of_ble_eq_true rfl) ⟨Nat.le_of_ble_eq_true rfl, Nat.le_of_ble_eq_true rfl⟩ dX3_disconnect_39 ⟨Nat.le_of_ble_eq_true rfl, Nat.le_of_ble_eq_true rfl⟩ rfl ?_
  exact fin_i hF (Nat.le_of_ble_eq_true rfl) (Nat.le_of_ble_eq_true rfl) dX3_disconnect_42 (by rfl) (by rfl)
set_option maxRecDepth 20000 in
set_option maxHeartbeats 2000000 in
theorem a_reconnect_1 {x : Int32} (hx : isR x 6 = false) : Does sz I_X3_reconnect [.ref (sz + 75), .int x] (patch G 75 4 (mS F s), T) 0 0 (.inl (some (nI 0))) (patch G 75 4 (mS (put F 0 0 (nI 1)) s), T) := by
  refine Does.of (L := [(0, .ref (sz + 75)), (1, .int x)]) (by decide +kernel) (Nat.le_of_ble_eq_true rfl) rfl ⟨rfl, (by simp), ⟨rfl, (by simp), trivial⟩⟩ (fun VV hF => ?_)
  have hX := hF.c
  refine ro_aload_n (i := 0) (q := 1) hX dX3_reconnect_0 rfl rfl rfl ?_
  refine ro_iload_n (i := 1) (q := 2) hX dX3_reconnect_1 rfl rfl rfl ?_
  refine ro_callSi (q9 := 5) hX (m_isHost_f hx) mw_X3_isHost kl_X3_127 rfl rfl (Nat.le_of_ble_eq_true rfl) ⟨Nat.le_of_ble_eq_true rfl, Nat.le_of_ble_eq_true rfl⟩ dX3_reconnect_2 ⟨Nat.le_of_ble_eq_true rfl, Nat.le_of_ble_eq_true rfl⟩ rfl ?_
  refine ro_if_ne (tgt := 12) (q := 8) hX dX3_reconnect_5 (by decide) rfl (fun q => absurd (by decide) q) (fun _ => ?_)
  refine ro_iconst (v := nI 1) (q := 9) hX dX3_reconnect_8 rfl rfl ?_
  refine ro_goto (tgt := 28) hX dX3_reconnect_9 (by decide) ?_
  refine ro_callVi (q9 := 31) hX (m_holds_1) mw_X3_holds kl_X3_109 (by decide) (fun cy => cell3 (by decide +kernel)) rfl rfl rfl (Nat.le_of_ble_eq_true rfl) ⟨Nat.le_of_ble_eq_true rfl, Nat.le_of_ble_eq_true rfl⟩ dX3_reconnect_28 ⟨Nat.le_of_ble_eq_true rfl, Nat.le_of_ble_eq_true rfl⟩ rfl ?_
  refine ro_if_ne (tgt := 36) (q := 34) hX dX3_reconnect_31 (by decide) rfl (fun q => absurd (by decide) q) (fun _ => ?_)
  refine ro_iconst (v := nI 0) (q := 35) hX dX3_reconnect_34 rfl rfl ?_
  exact fin_i hF (Nat.le_of_ble_eq_true rfl) (Nat.le_of_ble_eq_true rfl) dX3_reconnect_35 (by rfl) (by rfl)
set_option maxRecDepth 20000 in
set_option maxHeartbeats 2000000 in
theorem a_reconnect_2 {h : Nat} (hh : h < 6) (hc : ofM s 0 h 1 = nI 1) : Does sz I_X3_reconnect [.ref (sz + 75), .int (nI h)] (patch G 75 4 (mS F s), T) 0 0 (.inl (some (nI 0))) (patch G 75 4 (mS (put F 0 0 (nI 2)) s), T) := by
  refine Does.of (L := [(0, .ref (sz + 75)), (1, .int (nI h))]) (by decide +kernel) (Nat.le_of_ble_eq_true rfl) rfl ⟨rfl, (by simp), ⟨rfl, (by simp), trivial⟩⟩ (fun VV hF => ?_)
  have hX := hF.c
  refine ro_aload_n (i := 0) (q := 1) hX dX3_reconnect_0 rfl rfl rfl ?_
  refine ro_iload_n (i := 1) (q := 2) hX dX3_reconnect_1 rfl rfl rfl ?_
  refine ro_callSi (q9 := 5) hX (m_isHost_t (by omega)) mw_X3_isHost kl_X3_127 rfl rfl (Nat.le_of_ble_eq_true rfl) ⟨Nat.le_of_ble_eq_true rfl, Nat.le_of_ble_eq_true rfl⟩ dX3_reconnect_2 ⟨Nat.le_of_ble_eq_true rfl, Nat.le_of_ble_eq_true rfl⟩ rfl ?_
  refine ro_if_ne (tgt := 12) (q := 8) hX dX3_reconnect_5 (by decide) rfl (fun _ => ?_) (fun q => absurd q (by decide))
  refine ro_aload_n (i := 0) (q := 13) hX dX3_reconnect_12 rfl rfl rfl ?_
  refine ro_iconst (v := nI 0) (q := 14) hX dX3_reconnect_13 rfl rfl ?_
  refine ro_iload_n (i := 1) (q := 15) hX dX3_reconnect_14 rfl rfl rfl ?_
  refine ro_iconst (v := nI 1) (q := 16) hX dX3_reconnect_15 rfl rfl ?_
  refine ro_callVi (q9 := 19) hX (m_of (by omega) (by omega) (by omega)) mw_X3_of kl_X3_36 (by decide) (fun cy => cell3 (by decide +kernel)) rfl rfl rfl (Nat.le_of_ble_eq_true rfl) ⟨Nat.le_of_ble_eq_true rfl, Nat.le_of_ble_eq_true rfl⟩ dX3_reconnect_16 ⟨Nat.le_of_ble_eq_true rfl, Nat.le_of_ble_eq_true rfl⟩ rfl ?_
  refine vv_top (y := (nI 1)) (hc) ?_
  refine ro_iconst (v := nI 1) (q := 20) hX dX3_reconnect_19 rfl rfl ?_
  refine ro_icmp_ne (tgt := 27) (q := 23) hX dX3_reconnect_20 (by decide) rfl (fun q => absurd (by decide) q) (fun _ => ?_)
  refine ro_iconst (v := nI 2) (q := 24) hX dX3_reconnect_23 rfl rfl ?_
  refine ro_goto (tgt := 28) hX dX3_reconnect_24 (by decide) ?_
  refine ro_callVi (q9 := 31) hX (m_holds_2) mw_X3_holds kl_X3_109 (by decide) (fun cy => cell3 (by decide +kernel)) rfl rfl rfl (Nat.le_of_ble_eq_true rfl) ⟨Nat.le_of_ble_eq_true rfl, Nat.le_of_ble_eq_true rfl⟩ dX3_reconnect_28 ⟨Nat.le_of_ble_eq_true rfl, Nat.le_of_ble_eq_true rfl⟩ rfl ?_
  refine ro_if_ne (tgt := 36) (q := 34) hX dX3_reconnect_31 (by decide) rfl (fun q => absurd (by decide) q) (fun _ => ?_)
  refine ro_iconst (v := nI 0) (q := 35) hX dX3_reconnect_34 rfl rfl ?_
  exact fin_i hF (Nat.le_of_ble_eq_true rfl) (Nat.le_of_ble_eq_true rfl) dX3_reconnect_35 (by rfl) (by rfl)
set_option maxRecDepth 20000 in
set_option maxHeartbeats 2000000 in
theorem a_reconnect {h : Nat} (hh : h < 6) (hc : ¬ ofM s 0 h 1 = nI 1) {v : Nat} (hv : v ≤ 6) (hF9 : F 0 2 = nI v) : Does sz I_X3_reconnect [.ref (sz + 75), .int (nI h)] (patch G 75 4 (mS F s), T) 0 0 (.inl (some (nI (rcL (rc1 (kpS s v) h) h 30).2))) (patch G 75 4 (mS (FK F v) (seM (rcL (rc1 (kpS s v) h) h 30).1 0)), T) := by
  refine Does.of (L := [(0, .ref (sz + 75)), (1, .int (nI h))]) (by decide +kernel) (Nat.le_of_ble_eq_true rfl) rfl ⟨rfl, (by simp), ⟨rfl, (by simp), trivial⟩⟩ (fun VV hF => ?_)
  have hX := hF.c
  refine ro_aload_n (i := 0) (q := 1) hX dX3_reconnect_0 rfl rfl rfl ?_
  refine ro_iload_n (i := 1) (q := 2) hX dX3_reconnect_1 rfl rfl rfl ?_
  refine ro_callSi (q9 := 5) hX (m_isHost_t (by omega)) mw_X3_isHost kl_X3_127 rfl rfl (Nat.le_of_ble_eq_true rfl) ⟨Nat.le_of_ble_eq_true rfl, Nat.le_of_ble_eq_true rfl⟩ dX3_reconnect_2 ⟨Nat.le_of_ble_eq_true rfl, Nat.le_of_ble_eq_true rfl⟩ rfl ?_
  refine ro_if_ne (tgt := 12) (q := 8) hX dX3_reconnect_5 (by decide) rfl (fun _ => ?_) (fun q => absurd q (by decide))
  refine ro_aload_n (i := 0) (q := 13) hX dX3_reconnect_12 rfl rfl rfl ?_
  refine ro_iconst (v := nI 0) (q := 14) hX dX3_reconnect_13 rfl rfl ?_
  refine ro_iload_n (i := 1) (q := 15) hX dX3_reconnect_14 rfl rfl rfl ?_
  refine ro_iconst (v := nI 1) (q := 16) hX dX3_reconnect_15 rfl rfl ?_
  refine ro_callVi (q9 := 19) hX (m_of (by omega) (by omega) (by omega)) mw_X3_of kl_X3_36 (by decide) (fun cy => cell3 (by decide +kernel)) rfl rfl rfl (Nat.le_of_ble_eq_true rfl) ⟨Nat.le_of_ble_eq_true rfl, Nat.le_of_ble_eq_true rfl⟩ dX3_reconnect_16 ⟨Nat.le_of_ble_eq_true rfl, Nat.le_of_ble_eq_true rfl⟩ rfl ?_
  refine ro_iconst (v := nI 1) (q := 20) hX dX3_reconnect_19 rfl rfl ?_
  refine ro_icmp_ne (tgt := 27) (q := 23) hX dX3_reconnect_20 (by decide) rfl (fun _ => ?_) (fun q => absurd q (hc))
  refine ro_iconst (v := nI 0) (q := 28) hX dX3_reconnect_27 rfl rfl ?_
  refine ro_callVi (q9 := 31) hX (m_holds_0) mw_X3_holds kl_X3_109 (by decide) (fun cy => cell3 (by decide +kernel)) rfl rfl rfl (Nat.le_of_ble_eq_true rfl) ⟨Nat.le_of_ble_eq_true rfl, Nat.le_of_ble_eq_true rfl⟩ dX3_reconnect_28 ⟨Nat.le_of_ble_eq_true rfl, Nat.le_of_ble_eq_true rfl⟩ rfl ?_
  refine ro_if_ne (tgt := 36) (q := 34) hX dX3_reconnect_31 (by decide) rfl (fun _ => ?_) (fun q => absurd q (by decide))
  refine ro_aload_n (i := 0) (q := 37) hX dX3_reconnect_36 rfl rfl rfl ?_
  refine ro_callVv (q9 := 40) hX (m_keeps hv hF9) mw_X3_keeps kl_X3_112 (by decide) (fun cy => cell3 (by decide +kernel)) rfl rfl rfl (Nat.le_of_ble_eq_true rfl) ⟨Nat.le_of_ble_eq_true rfl, Nat.le_of_ble_eq_true rfl⟩ dX3_reconnect_37 ⟨Nat.le_of_ble_eq_true rfl, Nat.le_of_ble_eq_true rfl⟩ rfl ?_
  refine ro_aload_n (i := 0) (q := 41) hX dX3_reconnect_40 rfl rfl rfl ?_
  refine ro_iload_n (i := 1) (q := 42) hX dX3_reconnect_41 rfl rfl rfl ?_
  refine ro_callVi (q9 := 45) hX (m_reconnects hh) mw_X3_reconnects kl_X3_148 (by decide) (fun cy => cell3 (by decide +kernel)) rfl rfl rfl (Nat.le_of_ble_eq_true rfl) ⟨Nat.le_of_ble_eq_true rfl, Nat.le_of_ble_eq_true rfl⟩ dX3_reconnect_42 ⟨Nat.le_of_ble_eq_true rfl, Nat.le_of_ble_eq_true rfl⟩ rfl ?_
  exact fin_i hF (Nat.le_of_ble_eq_true rfl) (Nat.le_of_ble_eq_true rfl) dX3_reconnect_45 (by rfl) (by rfl)
set_option maxRecDepth 20000 in
set_option maxHeartbeats 2000000 in
theorem a_crash_1 {x : Int32} (hx : isR x 6 = false) : Does sz I_X3_crash [.ref (sz + 75), .int x] (patch G 75 4 (mS F s), T) 0 0 (.inl (some (nI 0))) (patch G 75 4 (mS (put F 0 0 (nI 1)) s), T) := by
  refine Does.of (L := [(0, .ref (sz + 75)), (1, .int x)]) (by decide +kernel) (Nat.le_of_ble_eq_true rfl) rfl ⟨rfl, (by simp), ⟨rfl, (by simp), trivial⟩⟩ (fun VV hF => ?_)
  have hX := hF.c
  refine ro_aload_n (i := 0) (q := 1) hX dX3_crash_0 rfl rfl rfl ?_
  refine ro_iload_n (i := 1) (q := 2) hX dX3_crash_1 rfl rfl rfl ?_
  refine ro_callSi (q9 := 5) hX (m_isHost_f hx) mw_X3_isHost kl_X3_127 rfl rfl (Nat.le_of_ble_eq_true rfl) ⟨Nat.le_of_ble_eq_true rfl, Nat.le_of_ble_eq_true rfl⟩ dX3_crash_2 ⟨Nat.le_of_ble_eq_true rfl, Nat.le_of_ble_eq_true rfl⟩ rfl ?_
  refine ro_if_ne (tgt := 12) (q := 8) hX dX3_crash_5 (by decide) rfl (fun q => absurd (by decide) q) (fun _ => ?_)
  refine ro_iconst (v := nI 1) (q := 9) hX dX3_crash_8 rfl rfl ?_
  refine ro_goto (tgt := 27) hX dX3_crash_9 (by decide) ?_
  refine ro_callVi (q9 := 30) hX (m_holds_1) mw_X3_holds kl_X3_109 (by decide) (fun cy => cell3 (by decide +kernel)) rfl rfl rfl (Nat.le_of_ble_eq_true rfl) ⟨Nat.le_of_ble_eq_true rfl, Nat.le_of_ble_eq_true rfl⟩ dX3_crash_27 ⟨Nat.le_of_ble_eq_true rfl, Nat.le_of_ble_eq_true rfl⟩ rfl ?_
  refine ro_if_ne (tgt := 35) (q := 33) hX dX3_crash_30 (by decide) rfl (fun q => absurd (by decide) q) (fun _ => ?_)
  refine ro_iconst (v := nI 0) (q := 34) hX dX3_crash_33 rfl rfl ?_
  exact fin_i hF (Nat.le_of_ble_eq_true rfl) (Nat.le_of_ble_eq_true rfl) dX3_crash_34 (by rfl) (by rfl)
set_option maxRecDepth 20000 in
set_option maxHeartbeats 2000000 in
theorem a_crash_2 {h : Nat} (hh : h < 6) (hc : ofM s 0 h 0 = 0) : Does sz I_X3_crash [.ref (sz + 75), .int (nI h)] (patch G 75 4 (mS F s), T) 0 0 (.inl (some (nI 0))) (patch G 75 4 (mS (put F 0 0 (nI 2)) s), T) := by
  refine Does.of (L := [(0, .ref (sz + 75)), (1, .int (nI h))]) (by decide +kernel) (Nat.le_of_ble_eq_true rfl) rfl ⟨rfl, (by simp), ⟨rfl, (by simp), trivial⟩⟩ (fun VV hF => ?_)
  have hX := hF.c
  refine ro_aload_n (i := 0) (q := 1) hX dX3_crash_0 rfl rfl rfl ?_
  refine ro_iload_n (i := 1) (q := 2) hX dX3_crash_1 rfl rfl rfl ?_
  refine ro_callSi (q9 := 5) hX (m_isHost_t (by omega)) mw_X3_isHost kl_X3_127 rfl rfl (Nat.le_of_ble_eq_true rfl) ⟨Nat.le_of_ble_eq_true rfl, Nat.le_of_ble_eq_true rfl⟩ dX3_crash_2 ⟨Nat.le_of_ble_eq_true rfl, Nat.le_of_ble_eq_true rfl⟩ rfl ?_
  refine ro_if_ne (tgt := 12) (q := 8) hX dX3_crash_5 (by decide) rfl (fun _ => ?_) (fun q => absurd q (by decide))
  refine ro_aload_n (i := 0) (q := 13) hX dX3_crash_12 rfl rfl rfl ?_
  refine ro_iconst (v := nI 0) (q := 14) hX dX3_crash_13 rfl rfl ?_
  refine ro_iload_n (i := 1) (q := 15) hX dX3_crash_14 rfl rfl rfl ?_
  refine ro_iconst (v := nI 0) (q := 16) hX dX3_crash_15 rfl rfl ?_
  refine ro_callVi (q9 := 19) hX (m_of (by omega) (by omega) (by omega)) mw_X3_of kl_X3_36 (by decide) (fun cy => cell3 (by decide +kernel)) rfl rfl rfl (Nat.le_of_ble_eq_true rfl) ⟨Nat.le_of_ble_eq_true rfl, Nat.le_of_ble_eq_true rfl⟩ dX3_crash_16 ⟨Nat.le_of_ble_eq_true rfl, Nat.le_of_ble_eq_true rfl⟩ rfl ?_
  refine ro_if_ne (tgt := 26) (q := 22) hX dX3_crash_19 (by decide) rfl (fun q => absurd (hc) q) (fun _ => ?_)
  refine ro_iconst (v := nI 2) (q := 23) hX dX3_crash_22 rfl rfl ?_
  refine ro_goto (tgt := 27) hX dX3_crash_23 (by decide) ?_
  refine ro_callVi (q9 := 30) hX (m_holds_2) mw_X3_holds kl_X3_109 (by decide) (fun cy => cell3 (by decide +kernel)) rfl rfl rfl (Nat.le_of_ble_eq_true rfl) ⟨Nat.le_of_ble_eq_true rfl, Nat.le_of_ble_eq_true rfl⟩ dX3_crash_27 ⟨Nat.le_of_ble_eq_true rfl, Nat.le_of_ble_eq_true rfl⟩ rfl ?_
  refine ro_if_ne (tgt := 35) (q := 33) hX dX3_crash_30 (by decide) rfl (fun q => absurd (by decide) q) (fun _ => ?_)
  refine ro_iconst (v := nI 0) (q := 34) hX dX3_crash_33 rfl rfl ?_
  exact fin_i hF (Nat.le_of_ble_eq_true rfl) (Nat.le_of_ble_eq_true rfl) dX3_crash_34 (by rfl) (by rfl)
set_option maxRecDepth 20000 in
set_option maxHeartbeats 2000000 in
theorem a_crash {h : Nat} (hh : h < 6) (hc : ¬ ofM s 0 h 0 = 0) {v : Nat} (hv : v ≤ 6) (hF9 : F 0 2 = nI v) : Does sz I_X3_crash [.ref (sz + 75), .int (nI h)] (patch G 75 4 (mS F s), T) 0 0 (.inl (some (nI (hdM (kpS s v) 0 h)))) (patch G 75 4 (mS (FK F v) (seM (cr1 (kpS s v) h) 0)), T) := by
  refine Does.of (L := [(0, .ref (sz + 75)), (1, .int (nI h))]) (by decide +kernel) (Nat.le_of_ble_eq_true rfl) rfl ⟨rfl, (by simp), ⟨rfl, (by simp), trivial⟩⟩ (fun VV hF => ?_)
  have hX := hF.c
  refine ro_aload_n (i := 0) (q := 1) hX dX3_crash_0 rfl rfl rfl ?_
  refine ro_iload_n (i := 1) (q := 2) hX dX3_crash_1 rfl rfl rfl ?_
  refine ro_callSi (q9 := 5) hX (m_isHost_t (by omega)) mw_X3_isHost kl_X3_127 rfl rfl (Nat.le_of_ble_eq_true rfl) ⟨Nat.le_of_ble_eq_true rfl, Nat.le_of_ble_eq_true rfl⟩ dX3_crash_2 ⟨Nat.le_of_ble_eq_true rfl, Nat.le_of_ble_eq_true rfl⟩ rfl ?_
  refine ro_if_ne (tgt := 12) (q := 8) hX dX3_crash_5 (by decide) rfl (fun _ => ?_) (fun q => absurd q (by decide))
  refine ro_aload_n (i := 0) (q := 13) hX dX3_crash_12 rfl rfl rfl ?_
  refine ro_iconst (v := nI 0) (q := 14) hX dX3_crash_13 rfl rfl ?_
  refine ro_iload_n (i := 1) (q := 15) hX dX3_crash_14 rfl rfl rfl ?_
  refine ro_iconst (v := nI 0) (q := 16) hX dX3_crash_15 rfl rfl ?_
  refine ro_callVi (q9 := 19) hX (m_of (by omega) (by omega) (by omega)) mw_X3_of kl_X3_36 (by decide) (fun cy => cell3 (by decide +kernel)) rfl rfl rfl (Nat.le_of_ble_eq_true rfl) ⟨Nat.le_of_ble_eq_true rfl, Nat.le_of_ble_eq_true rfl⟩ dX3_crash_16 ⟨Nat.le_of_ble_eq_true rfl, Nat.le_of_ble_eq_true rfl⟩ rfl ?_
  refine ro_if_ne (tgt := 26) (q := 22) hX dX3_crash_19 (by decide) rfl (fun _ => ?_) (fun q => absurd q (hc))
  refine ro_iconst (v := nI 0) (q := 27) hX dX3_crash_26 rfl rfl ?_
  refine ro_callVi (q9 := 30) hX (m_holds_0) mw_X3_holds kl_X3_109 (by decide) (fun cy => cell3 (by decide +kernel)) rfl rfl rfl (Nat.le_of_ble_eq_true rfl) ⟨Nat.le_of_ble_eq_true rfl, Nat.le_of_ble_eq_true rfl⟩ dX3_crash_27 ⟨Nat.le_of_ble_eq_true rfl, Nat.le_of_ble_eq_true rfl⟩ rfl ?_
  refine ro_if_ne (tgt := 35) (q := 33) hX dX3_crash_30 (by decide) rfl (fun _ => ?_) (fun q => absurd q (by decide))
  refine ro_aload_n (i := 0) (q := 36) hX dX3_crash_35 rfl rfl rfl ?_
  refine ro_callVv (q9 := 39) hX (m_keeps hv hF9) mw_X3_keeps kl_X3_112 (by decide) (fun cy => cell3 (by decide +kernel)) rfl rfl rfl (Nat.le_of_ble_eq_true rfl) ⟨Nat.le_of_ble_eq_true rfl, Nat.le_of_ble_eq_true rfl⟩ dX3_crash_36 ⟨Nat.le_of_ble_eq_true rfl, Nat.le_of_ble_eq_true rfl⟩ rfl ?_
  refine ro_aload_n (i := 0) (q := 40) hX dX3_crash_39 rfl rfl rfl ?_
  refine ro_iload_n (i := 1) (q := 41) hX dX3_crash_40 rfl rfl rfl ?_
  refine ro_callVi (q9 := 44) hX (m_crashes hh) mw_X3_crashes kl_X3_151 (by decide) (fun cy => cell3 (by decide +kernel)) rfl rfl rfl (Nat.le_of_ble_eq_true rfl) ⟨Nat.le_of_ble_eq_true rfl, Nat.le_of_ble_eq_true rfl⟩ dX3_crash_41 ⟨Nat.le_of_ble_eq_true rfl, Nat.le_of_ble_eq_true rfl⟩ rfl ?_
  exact fin_i hF (Nat.le_of_ble_eq_true rfl) (Nat.le_of_ble_eq_true rfl) dX3_crash_44 (by rfl) (by rfl)
set_option maxRecDepth 20000 in
set_option maxHeartbeats 2000000 in
theorem a_pass_1 {x : Int32} (hx : inB x (nI 1) (nI 600) = false) : Does sz I_X3_pass [.ref (sz + 75), .int x] (patch G 75 4 (mS F s), T) 0 0 (.inl (some (nI 0))) (patch G 75 4 (mS (put F 0 0 (nI 1)) s), T) := by
  refine Does.of (L := [(0, .ref (sz + 75)), (1, .int x)]) (by decide +kernel) (Nat.le_of_ble_eq_true rfl) rfl ⟨rfl, (by simp), ⟨rfl, (by simp), trivial⟩⟩ (fun VV hF => ?_)
  have hX := hF.c
  refine ro_aload_n (i := 0) (q := 1) hX dX3_pass_0 rfl rfl rfl ?_
  refine ro_iload_n (i := 1) (q := 2) hX dX3_pass_1 rfl rfl rfl ?_
  refine ro_iconst (v := nI 1) (q := 3) hX dX3_pass_2 rfl rfl ?_
  refine ro_sipush (v := nI 600) (q := 6) hX dX3_pass_3 rfl rfl ?_
  refine ro_callSi (q9 := 9) hX (m_in_f hx) mw_X3_in kl_X3_24 rfl rfl (Nat.le_of_ble_eq_true rfl) ⟨Nat.le_of_ble_eq_true rfl, Nat.le_of_ble_eq_true rfl⟩ dX3_pass_6 ⟨Nat.le_of_ble_eq_true rfl, Nat.le_of_ble_eq_true rfl⟩ rfl ?_
  refine ro_if_ne (tgt := 16) (q := 12) hX dX3_pass_9 (by decide) rfl (fun q => absurd (by decide) q) (fun _ => ?_)
  refine ro_iconst (v := nI 1) (q := 13) hX dX3_pass_12 rfl rfl ?_
  refine ro_goto (tgt := 34) hX dX3_pass_13 (by decide) ?_
  refine ro_callVi (q9 := 37) hX (m_holds_1) mw_X3_holds kl_X3_109 (by decide) (fun cy => cell3 (by decide +kernel)) rfl rfl rfl (Nat.le_of_ble_eq_true rfl) ⟨Nat.le_of_ble_eq_true rfl, Nat.le_of_ble_eq_true rfl⟩ dX3_pass_34 ⟨Nat.le_of_ble_eq_true rfl, Nat.le_of_ble_eq_true rfl⟩ rfl ?_
  refine ro_if_ne (tgt := 42) (q := 40) hX dX3_pass_37 (by decide) rfl (fun q => absurd (by decide) q) (fun _ => ?_)
  refine ro_iconst (v := nI 0) (q := 41) hX dX3_pass_40 rfl rfl ?_
  exact fin_i hF (Nat.le_of_ble_eq_true rfl) (Nat.le_of_ble_eq_true rfl) dX3_pass_41 (by rfl) (by rfl)
set_option maxRecDepth 20000 in
set_option maxHeartbeats 2000000 in
theorem a_pass_2 {x : Int32} (hx : inB x (nI 1) (nI 600) = true) (hc : ¬ s 0 + x ≤ nI 1000000) : Does sz I_X3_pass [.ref (sz + 75), .int x] (patch G 75 4 (mS F s), T) 0 0 (.inl (some (nI 0))) (patch G 75 4 (mS (put F 0 0 (nI 2)) s), T) := by
  refine Does.of (L := [(0, .ref (sz + 75)), (1, .int x)]) (by decide +kernel) (Nat.le_of_ble_eq_true rfl) rfl ⟨rfl, (by simp), ⟨rfl, (by simp), trivial⟩⟩ (fun VV hF => ?_)
  have hX := hF.c
  refine ro_aload_n (i := 0) (q := 1) hX dX3_pass_0 rfl rfl rfl ?_
  refine ro_iload_n (i := 1) (q := 2) hX dX3_pass_1 rfl rfl rfl ?_
  refine ro_iconst (v := nI 1) (q := 3) hX dX3_pass_2 rfl rfl ?_
  refine ro_sipush (v := nI 600) (q := 6) hX dX3_pass_3 rfl rfl ?_
  refine ro_callSi (q9 := 9) hX (m_in_t hx) mw_X3_in kl_X3_24 rfl rfl (Nat.le_of_ble_eq_true rfl) ⟨Nat.le_of_ble_eq_true rfl, Nat.le_of_ble_eq_true rfl⟩ dX3_pass_6 ⟨Nat.le_of_ble_eq_true rfl, Nat.le_of_ble_eq_true rfl⟩ rfl ?_
  refine ro_if_ne (tgt := 16) (q := 12) hX dX3_pass_9 (by decide) rfl (fun _ => ?_) (fun q => absurd q (by decide))
  refine ro_aload_n (i := 0) (q := 17) hX dX3_pass_16 rfl rfl rfl ?_
  refine ro_Nga1 (q9 := 20) hX kf_X3_7 dX3_pass_17 rfl ?_
  refine ro_iconst (v := nI 0) (q := 21) hX dX3_pass_20 rfl rfl ?_
  refine ro_Nsld (n := 0) (q9 := 22) hX rfl (by omega) dX3_pass_21 rfl ?_
  refine ro_iload_n (i := 1) (q := 23) hX dX3_pass_22 rfl rfl rfl ?_
  refine ro_iadd (q := 24) hX dX3_pass_23 rfl ?_
  refine ro_ldc (v := nI 1000000) (q := 26) hX kc_X3_154 dX3_pass_24 rfl ?_
  refine ro_icmp_le (tgt := 33) (q := 29) hX dX3_pass_26 (by decide) rfl (fun q => absurd q (hc)) (fun _ => ?_)
  refine ro_iconst (v := nI 2) (q := 30) hX dX3_pass_29 rfl rfl ?_
  refine ro_goto (tgt := 34) hX dX3_pass_30 (by decide) ?_
  refine ro_callVi (q9 := 37) hX (m_holds_2) mw_X3_holds kl_X3_109 (by decide) (fun cy => cell3 (by decide +kernel)) rfl rfl rfl (Nat.le_of_ble_eq_true rfl) ⟨Nat.le_of_ble_eq_true rfl, Nat.le_of_ble_eq_true rfl⟩ dX3_pass_34 ⟨Nat.le_of_ble_eq_true rfl, Nat.le_of_ble_eq_true rfl⟩ rfl ?_
  refine ro_if_ne (tgt := 42) (q := 40) hX dX3_pass_37 (by decide) rfl (fun q => absurd (by decide) q) (fun _ => ?_)
  refine ro_iconst (v := nI 0) (q := 41) hX dX3_pass_40 rfl rfl ?_
  exact fin_i hF (Nat.le_of_ble_eq_true rfl) (Nat.le_of_ble_eq_true rfl) dX3_pass_41 (by rfl) (by rfl)
set_option maxRecDepth 20000 in
set_option maxHeartbeats 2000000 in
theorem a_pass {n : Nat} (hn : n ≤ 600) (hx : inB (nI n) (nI 1) (nI 600) = true) (hc : s 0 + nI n ≤ nI 1000000)  {v : Nat} (hv : v ≤ 6) (hF9 : F 0 2 = nI v) (hT : ∀ k, k < n → trOK (tkM (spL (kpS s v) 0 k) 0) 0) : Does sz I_X3_pass [.ref (sz + 75), .int (nI n)] (patch G 75 4 (mS F s), T) 0 0 (.inl (some (spL (kpS s v) 0 n 3 - (kpS s v) 3))) (patch G 75 4 (mS (FK F v) (spL (kpS s v) 0 n)), T) := by
  refine Does.of (L := [(0, .ref (sz + 75)), (1, .int (nI n))]) (by decide +kernel) (Nat.le_of_ble_eq_true rfl) rfl ⟨rfl, (by simp), ⟨rfl, (by simp), trivial⟩⟩ (fun VV hF => ?_)
  have hX := hF.c
  refine ro_aload_n (i := 0) (q := 1) hX dX3_pass_0 rfl rfl rfl ?_
  refine ro_iload_n (i := 1) (q := 2) hX dX3_pass_1 rfl rfl rfl ?_
  refine ro_iconst (v := nI 1) (q := 3) hX dX3_pass_2 rfl rfl ?_
  refine ro_sipush (v := nI 600) (q := 6) hX dX3_pass_3 rfl rfl ?_
  refine ro_callSi (q9 := 9) hX (m_in_t hx) mw_X3_in kl_X3_24 rfl rfl (Nat.le_of_ble_eq_true rfl) ⟨Nat.le_of_ble_eq_true rfl, Nat.le_of_ble_eq_true rfl⟩ dX3_pass_6 ⟨Nat.le_of_ble_eq_true rfl, Nat.le_of_ble_eq_true rfl⟩ rfl ?_
  refine ro_if_ne (tgt := 16) (q := 12) hX dX3_pass_9 (by decide) rfl (fun _ => ?_) (fun q => absurd q (by decide))
  refine ro_aload_n (i := 0) (q := 17) hX dX3_pass_16 rfl rfl rfl ?_
  refine ro_Nga1 (q9 := 20) hX kf_X3_7 dX3_pass_17 rfl ?_
  refine ro_iconst (v := nI 0) (q := 21) hX dX3_pass_20 rfl rfl ?_
  refine ro_Nsld (n := 0) (q9 := 22) hX rfl (by omega) dX3_pass_21 rfl ?_
  refine ro_iload_n (i := 1) (q := 23) hX dX3_pass_22 rfl rfl rfl ?_
  refine ro_iadd (q := 24) hX dX3_pass_23 rfl ?_
  refine ro_ldc (v := nI 1000000) (q := 26) hX kc_X3_154 dX3_pass_24 rfl ?_
  refine ro_icmp_le (tgt := 33) (q := 29) hX dX3_pass_26 (by decide) rfl (fun _ => ?_) (fun q => absurd (hc) q)
  refine ro_iconst (v := nI 0) (q := 34) hX dX3_pass_33 rfl rfl ?_
  refine ro_callVi (q9 := 37) hX (m_holds_0) mw_X3_holds kl_X3_109 (by decide) (fun cy => cell3 (by decide +kernel)) rfl rfl rfl (Nat.le_of_ble_eq_true rfl) ⟨Nat.le_of_ble_eq_true rfl, Nat.le_of_ble_eq_true rfl⟩ dX3_pass_34 ⟨Nat.le_of_ble_eq_true rfl, Nat.le_of_ble_eq_true rfl⟩ rfl ?_
  refine ro_if_ne (tgt := 42) (q := 40) hX dX3_pass_37 (by decide) rfl (fun _ => ?_) (fun q => absurd q (by decide))
  refine ro_aload_n (i := 0) (q := 43) hX dX3_pass_42 rfl rfl rfl ?_
  refine ro_callVv (q9 := 46) hX (m_keeps hv hF9) mw_X3_keeps kl_X3_112 (by decide) (fun cy => cell3 (by decide +kernel)) rfl rfl rfl (Nat.le_of_ble_eq_true rfl) ⟨Nat.le_of_ble_eq_true rfl, Nat.le_of_ble_eq_true rfl⟩ dX3_pass_43 ⟨Nat.le_of_ble_eq_true rfl, Nat.le_of_ble_eq_true rfl⟩ rfl ?_
  refine ro_aload_n (i := 0) (q := 47) hX dX3_pass_46 rfl rfl rfl ?_
  refine ro_iload_n (i := 1) (q := 48) hX dX3_pass_47 rfl rfl rfl ?_
  refine ro_callVi (q9 := 51) hX (m_passes (by omega) hT) mw_X3_passes kl_X3_155 (by decide) (fun cy => cell3 (by decide +kernel)) rfl rfl rfl (Nat.le_of_ble_eq_true rfl) ⟨Nat.le_of_ble_eq_true rfl, Nat.le_of_ble_eq_true rfl⟩ dX3_pass_48 ⟨Nat.le_of_ble_eq_true rfl, Nat.le_of_ble_eq_true rfl⟩ rfl ?_
  exact fin_i hF (Nat.le_of_ble_eq_true rfl) (Nat.le_of_ble_eq_true rfl) dX3_pass_51 (by rfl) (by rfl)
set_option maxRecDepth 20000 in
set_option maxHeartbeats 2000000 in
theorem a_setTransferTime_1 {x : Int32} (hx : inB x (nI 1) (nI 60) = false) : Does sz I_X3_setTransferTime [.ref (sz + 75), .int x] (patch G 75 4 (mS F s), T) 0 0 (.inl (some (nI 0))) (patch G 75 4 (mS (put F 0 0 (nI 1)) s), T) := by
  refine Does.of (L := [(0, .ref (sz + 75)), (1, .int x)]) (by decide +kernel) (Nat.le_of_ble_eq_true rfl) rfl ⟨rfl, (by simp), ⟨rfl, (by simp), trivial⟩⟩ (fun VV hF => ?_)
  have hX := hF.c
  refine ro_aload_n (i := 0) (q := 1) hX dX3_setTransferTime_0 rfl rfl rfl ?_
  refine ro_iload_n (i := 1) (q := 2) hX dX3_setTransferTime_1 rfl rfl rfl ?_
  refine ro_iconst (v := nI 1) (q := 3) hX dX3_setTransferTime_2 rfl rfl ?_
  refine ro_bipush (v := nI 60) (q := 5) hX dX3_setTransferTime_3 rfl rfl ?_
  refine ro_callSi (q9 := 8) hX (m_in_f hx) mw_X3_in kl_X3_24 rfl rfl (Nat.le_of_ble_eq_true rfl) ⟨Nat.le_of_ble_eq_true rfl, Nat.le_of_ble_eq_true rfl⟩ dX3_setTransferTime_5 ⟨Nat.le_of_ble_eq_true rfl, Nat.le_of_ble_eq_true rfl⟩ rfl ?_
  refine ro_if_eq (tgt := 15) (q := 11) hX dX3_setTransferTime_8 (by decide) rfl (fun _ => ?_) (fun q => absurd (by decide) q)
  refine ro_iconst (v := nI 1) (q := 16) hX dX3_setTransferTime_15 rfl rfl ?_
  refine ro_callVi (q9 := 19) hX (m_holds_1) mw_X3_holds kl_X3_109 (by decide) (fun cy => cell3 (by decide +kernel)) rfl rfl rfl (Nat.le_of_ble_eq_true rfl) ⟨Nat.le_of_ble_eq_true rfl, Nat.le_of_ble_eq_true rfl⟩ dX3_setTransferTime_16 ⟨Nat.le_of_ble_eq_true rfl, Nat.le_of_ble_eq_true rfl⟩ rfl ?_
  refine ro_if_ne (tgt := 24) (q := 22) hX dX3_setTransferTime_19 (by decide) rfl (fun q => absurd (by decide) q) (fun _ => ?_)
  refine ro_iconst (v := nI 0) (q := 23) hX dX3_setTransferTime_22 rfl rfl ?_
  exact fin_i hF (Nat.le_of_ble_eq_true rfl) (Nat.le_of_ble_eq_true rfl) dX3_setTransferTime_23 (by rfl) (by rfl)
set_option maxRecDepth 20000 in
set_option maxHeartbeats 2000000 in
theorem a_setTransferTime {x : Int32} (hx : inB x (nI 1) (nI 60) = true) {v : Nat} (hv : v ≤ 6) (hF9 : F 0 2 = nI v) : Does sz I_X3_setTransferTime [.ref (sz + 75), .int x] (patch G 75 4 (mS F s), T) 0 0 (.inl (some ((kpS s v) 2))) (patch G 75 4 (mS (FK F v) (upd (kpS s v) 2 x)), T) := by
  refine Does.of (L := [(0, .ref (sz + 75)), (1, .int x)]) (by decide +kernel) (Nat.le_of_ble_eq_true rfl) rfl ⟨rfl, (by simp), ⟨rfl, (by simp), trivial⟩⟩ (fun VV hF => ?_)
  have hX := hF.c
  refine ro_aload_n (i := 0) (q := 1) hX dX3_setTransferTime_0 rfl rfl rfl ?_
  refine ro_iload_n (i := 1) (q := 2) hX dX3_setTransferTime_1 rfl rfl rfl ?_
  refine ro_iconst (v := nI 1) (q := 3) hX dX3_setTransferTime_2 rfl rfl ?_
  refine ro_bipush (v := nI 60) (q := 5) hX dX3_setTransferTime_3 rfl rfl ?_
  refine ro_callSi (q9 := 8) hX (m_in_t hx) mw_X3_in kl_X3_24 rfl rfl (Nat.le_of_ble_eq_true rfl) ⟨Nat.le_of_ble_eq_true rfl, Nat.le_of_ble_eq_true rfl⟩ dX3_setTransferTime_5 ⟨Nat.le_of_ble_eq_true rfl, Nat.le_of_ble_eq_true rfl⟩ rfl ?_
  refine ro_if_eq (tgt := 15) (q := 11) hX dX3_setTransferTime_8 (by decide) rfl (fun q => absurd q (by decide)) (fun _ => ?_)
  refine ro_iconst (v := nI 0) (q := 12) hX dX3_setTransferTime_11 rfl rfl ?_
  refine ro_goto (tgt := 16) hX dX3_setTransferTime_12 (by decide) ?_
  refine ro_callVi (q9 := 19) hX (m_holds_0) mw_X3_holds kl_X3_109 (by decide) (fun cy => cell3 (by decide +kernel)) rfl rfl rfl (Nat.le_of_ble_eq_true rfl) ⟨Nat.le_of_ble_eq_true rfl, Nat.le_of_ble_eq_true rfl⟩ dX3_setTransferTime_16 ⟨Nat.le_of_ble_eq_true rfl, Nat.le_of_ble_eq_true rfl⟩ rfl ?_
  refine ro_if_ne (tgt := 24) (q := 22) hX dX3_setTransferTime_19 (by decide) rfl (fun _ => ?_) (fun q => absurd q (by decide))
  refine ro_aload_n (i := 0) (q := 25) hX dX3_setTransferTime_24 rfl rfl rfl ?_
  refine ro_callVv (q9 := 28) hX (m_keeps hv hF9) mw_X3_keeps kl_X3_112 (by decide) (fun cy => cell3 (by decide +kernel)) rfl rfl rfl (Nat.le_of_ble_eq_true rfl) ⟨Nat.le_of_ble_eq_true rfl, Nat.le_of_ble_eq_true rfl⟩ dX3_setTransferTime_25 ⟨Nat.le_of_ble_eq_true rfl, Nat.le_of_ble_eq_true rfl⟩ rfl ?_
  refine ro_aload_n (i := 0) (q := 29) hX dX3_setTransferTime_28 rfl rfl rfl ?_
  refine ro_Nga1 (q9 := 32) hX kf_X3_7 dX3_setTransferTime_29 rfl ?_
  refine ro_iconst (v := nI 2) (q := 33) hX dX3_setTransferTime_32 rfl rfl ?_
  refine ro_Nsld (n := 2) (q9 := 34) hX rfl (by omega) dX3_setTransferTime_33 rfl ?_
  refine ro_istore_n (i := 2) (q := 35) hX dX3_setTransferTime_34 rfl (Nat.le_of_ble_eq_true rfl) rfl ?_
  refine ro_aload_n (i := 0) (q := 36) hX dX3_setTransferTime_35 rfl rfl rfl ?_
  refine ro_Nga1 (q9 := 39) hX kf_X3_7 dX3_setTransferTime_36 rfl ?_
  refine ro_iconst (v := nI 2) (q := 40) hX dX3_setTransferTime_39 rfl rfl ?_
  refine ro_iload_n (i := 1) (q := 41) hX dX3_setTransferTime_40 rfl rfl rfl ?_
  refine ro_Nsst (n := 2) (q9 := 42) hX rfl (by omega) dX3_setTransferTime_41 rfl ?_
  refine ro_iload_n (i := 2) (q := 43) hX dX3_setTransferTime_42 rfl rfl rfl ?_
  exact fin_i hF (Nat.le_of_ble_eq_true rfl) (Nat.le_of_ble_eq_true rfl) dX3_setTransferTime_43 (by rfl) (by rfl)
end
