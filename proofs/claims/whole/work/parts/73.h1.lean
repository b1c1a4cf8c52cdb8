section
variable {sz : Nat} {M M' : Mem} {x y v : Int32}
set_option maxRecDepth 20000 in
theorem h_store (hD : Does sz I_X2_store [.ref (sz + 0), .int x, .int y] M 0 0 (.inl (some (v))) M') : DoesH sz I_L_store hh_L_store [.ref (sz + 0), .int x, .int y, .ref (sz + 79)] M 1 6 (.inl (some (nI 0))) (M'.1, (M'.2.1, v.toInt64)) := by
  refine DoesH.of (L := [(0, .ref (sz + 0)), (1, .int x), (2, .int y), (3, .ref (sz + 79))]) cw_L_store (by decide +kernel) (Nat.le_of_ble_eq_true rfl) rfl ⟨rfl, (by simp), ⟨rfl, (by simp), ⟨rfl, (by simp), ⟨rfl, (by simp), trivial⟩⟩⟩⟩ (fun VV hF => ?_)
  have hX := hF.c
  refine ro_aload_n (i := 3) (q := 1) hX dL_store_0 rfl rfl rfl ?_
  refine ro_iconst (v := nI 0) (q := 2) hX dL_store_1 rfl rfl ?_
  refine ro_aload_n (i := 0) (q := 3) hX dL_store_2 rfl rfl rfl ?_
  refine ro_iload_n (i := 1) (q := 4) hX dL_store_3 rfl rfl rfl ?_
  refine ro_iload_n (i := 2) (q := 5) hX dL_store_4 rfl rfl rfl ?_
  refine ro_callVi (q9 := 8) hX hD mw_X2_store kl_L_7 (by decide) (fun cy => cell2 (by decide +kernel)) rfl rfl rfl (Nat.le_of_ble_eq_true rfl) ⟨Nat.le_of_ble_eq_true rfl, Nat.le_of_ble_eq_true rfl⟩ dL_store_5 ⟨Nat.le_of_ble_eq_true rfl, Nat.le_of_ble_eq_true rfl⟩ rfl ?_
  refine ro_i2l (v := v.toInt64) (q := 9) hX dL_store_8 rfl rfl ?_
  refine ro_last (q9 := 10) hX dL_store_9 rfl ?_
  refine ro_goto (tgt := 25) hX dL_store_10 (by decide) ?_
  refine ro_iconst (v := nI 0) (q := 26) hX dL_store_25 rfl rfl ?_
  exact fin_h hF (Nat.le_of_ble_eq_true rfl) (Nat.le_of_ble_eq_true rfl) dL_store_26 rfl rfl

set_option maxRecDepth 20000 in
theorem h_store_1 (hD : Does sz I_X2_store [.ref (sz + 0), .int x, .int y] M 1 6 (.inr "java/lang/IndexOutOfBoundsException") M') : DoesH sz I_L_store hh_L_store [.ref (sz + 0), .int x, .int y, .ref (sz + 79)] M 1 6 (.inl (some (nI 1))) M' := by
  refine DoesH.of (L := [(0, .ref (sz + 0)), (1, .int x), (2, .int y), (3, .ref (sz + 79))]) cw_L_store (by decide +kernel) (Nat.le_of_ble_eq_true rfl) rfl ⟨rfl, (by simp), ⟨rfl, (by simp), ⟨rfl, (by simp), ⟨rfl, (by simp), trivial⟩⟩⟩⟩ (fun VV hF => ?_)
  have hX := hF.c
  refine ro_aload_n (i := 3) (q := 1) hX dL_store_0 rfl rfl rfl ?_
  refine ro_iconst (v := nI 0) (q := 2) hX dL_store_1 rfl rfl ?_
  refine ro_aload_n (i := 0) (q := 3) hX dL_store_2 rfl rfl rfl ?_
  refine ro_iload_n (i := 1) (q := 4) hX dL_store_3 rfl rfl rfl ?_
  refine ro_iload_n (i := 2) (q := 5) hX dL_store_4 rfl rfl rfl ?_
  refine ro_catchV (x := { startPc := 0, endPc := 10, handlerPc := 13, catchType := 13 }) (pre := tabH (hh_L_store.take 0)) (suf := tabH (hh_L_store.drop 1)) hF hD mw_X2_store kl_L_7 (by decide) (fun cy => cell2 (by decide +kernel)) rfl rfl rfl (Nat.le_of_ble_eq_true rfl) ⟨Nat.le_of_ble_eq_true rfl, Nat.le_of_ble_eq_true rfl⟩ dL_store_5 ⟨Nat.le_of_ble_eq_true rfl, Nat.le_of_ble_eq_true rfl⟩ rfl (by decide) (by decide) cl_L_13 ca_13 ?_ (fun q => ?_)
  · intro z hz
    simp only [tabH, hh_L_store, List.take, List.map, List.mem_cons, List.not_mem_nil, or_false] at hz
  · refine ro_astore (i := 4) (q := 15) hX dL_store_13 (Nat.le_of_ble_eq_true rfl) rfl ?_
    refine ro_iconst (v := nI 1) (q := 16) hX dL_store_15 rfl rfl ?_
    exact fin_h hF (Nat.le_of_ble_eq_true rfl) (Nat.le_of_ble_eq_true rfl) dL_store_16 rfl rfl

set_option maxRecDepth 20000 in
theorem h_store_2 (hD : Does sz I_X2_store [.ref (sz + 0), .int x, .int y] M 1 6 (.inr "java/lang/IllegalArgumentException") M') : DoesH sz I_L_store hh_L_store [.ref (sz + 0), .int x, .int y, .ref (sz + 79)] M 1 6 (.inl (some (nI 2))) M' := by
  refine DoesH.of (L := [(0, .ref (sz + 0)), (1, .int x), (2, .int y), (3, .ref (sz + 79))]) cw_L_store (by decide +kernel) (Nat.le_of_ble_eq_true rfl) rfl ⟨rfl, (by simp), ⟨rfl, (by simp), ⟨rfl, (by simp), ⟨rfl, (by simp), trivial⟩⟩⟩⟩ (fun VV hF => ?_)
  have hX := hF.c
  refine ro_aload_n (i := 3) (q := 1) hX dL_store_0 rfl rfl rfl ?_
  refine ro_iconst (v := nI 0) (q := 2) hX dL_store_1 rfl rfl ?_
  refine ro_aload_n (i := 0) (q := 3) hX dL_store_2 rfl rfl rfl ?_
  refine ro_iload_n (i := 1) (q := 4) hX dL_store_3 rfl rfl rfl ?_
  refine ro_iload_n (i := 2) (q := 5) hX dL_store_4 rfl rfl rfl ?_
  refine ro_catchV (x := { startPc := 0, endPc := 10, handlerPc := 17, catchType := 15 }) (pre := tabH (hh_L_store.take 1)) (suf := tabH (hh_L_store.drop 2)) hF hD mw_X2_store kl_L_7 (by decide) (fun cy => cell2 (by decide +kernel)) rfl rfl rfl (Nat.le_of_ble_eq_true rfl) ⟨Nat.le_of_ble_eq_true rfl, Nat.le_of_ble_eq_true rfl⟩ dL_store_5 ⟨Nat.le_of_ble_eq_true rfl, Nat.le_of_ble_eq_true rfl⟩ rfl (by decide) (by decide) cl_L_15 ca_15 ?_ (fun q => ?_)
  · intro z hz
    simp only [tabH, hh_L_store, List.take, List.map, List.mem_cons, List.not_mem_nil, or_false] at hz
    subst hz
    exact ⟨by decide, _, cl_L_13, by decide⟩
  · refine ro_astore (i := 4) (q := 19) hX dL_store_17 (Nat.le_of_ble_eq_true rfl) rfl ?_
    refine ro_iconst (v := nI 2) (q := 20) hX dL_store_19 rfl rfl ?_
    exact fin_h hF (Nat.le_of_ble_eq_true rfl) (Nat.le_of_ble_eq_true rfl) dL_store_20 rfl rfl

set_option maxRecDepth 20000 in
theorem h_store_3 (hD : Does sz I_X2_store [.ref (sz + 0), .int x, .int y] M 1 6 (.inr "java/lang/IllegalStateException") M') : DoesH sz I_L_store hh_L_store [.ref (sz + 0), .int x, .int y, .ref (sz + 79)] M 1 6 (.inl (some (nI 3))) M' := by
  refine DoesH.of (L := [(0, .ref (sz + 0)), (1, .int x), (2, .int y), (3, .ref (sz + 79))]) cw_L_store (by decide +kernel) (Nat.le_of_ble_eq_true rfl) rfl ⟨rfl, (by simp), ⟨rfl, (by simp), ⟨rfl, (by simp), ⟨rfl, (by simp), trivial⟩⟩⟩⟩ (fun VV hF => ?_)
  have hX := hF.c
  refine ro_aload_n (i := 3) (q := 1) hX dL_store_0 rfl rfl rfl ?_
  refine ro_iconst (v := nI 0) (q := 2) hX dL_store_1 rfl rfl ?_
  refine ro_aload_n (i := 0) (q := 3) hX dL_store_2 rfl rfl rfl ?_
  refine ro_iload_n (i := 1) (q := 4) hX dL_store_3 rfl rfl rfl ?_
  refine ro_iload_n (i := 2) (q := 5) hX dL_store_4 rfl rfl rfl ?_
  refine ro_catchV (x := { startPc := 0, endPc := 10, handlerPc := 21, catchType := 17 }) (pre := tabH (hh_L_store.take 2)) (suf := tabH (hh_L_store.drop 3)) hF hD mw_X2_store kl_L_7 (by decide) (fun cy => cell2 (by decide +kernel)) rfl rfl rfl (Nat.le_of_ble_eq_true rfl) ⟨Nat.le_of_ble_eq_true rfl, Nat.le_of_ble_eq_true rfl⟩ dL_store_5 ⟨Nat.le_of_ble_eq_true rfl, Nat.le_of_ble_eq_true rfl⟩ rfl (by decide) (by decide) cl_L_17 ca_17 ?_ (fun q => ?_)
  · intro z hz
    simp only [tabH, hh_L_store, List.take, List.map, List.mem_cons, List.not_mem_nil, or_false] at hz
    rcases hz with rfl | rfl
    · exact ⟨by decide, _, cl_L_13, by decide⟩
    · exact ⟨by decide, _, cl_L_15, by decide⟩
  · refine ro_astore (i := 4) (q := 23) hX dL_store_21 (Nat.le_of_ble_eq_true rfl) rfl ?_
    refine ro_iconst (v := nI 3) (q := 24) hX dL_store_23 rfl rfl ?_
    exact fin_h hF (Nat.le_of_ble_eq_true rfl) (Nat.le_of_ble_eq_true rfl) dL_store_24 rfl rfl

set_option maxRecDepth 20000 in
theorem h_write (hD : Does sz I_X2_write [.ref (sz + 0), .int x, .int y] M 0 0 (.inl (some (v))) M') : DoesH sz I_L_write hh_L_write [.ref (sz + 0), .int x, .int y, .ref (sz + 79)] M 1 6 (.inl (some (nI 0))) (M'.1, (M'.2.1, v.toInt64)) := by
  refine DoesH.of (L := [(0, .ref (sz + 0)), (1, .int x), (2, .int y), (3, .ref (sz + 79))]) cw_L_write (by decide +kernel) (Nat.le_of_ble_eq_true rfl) rfl ⟨rfl, (by simp), ⟨rfl, (by simp), ⟨rfl, (by simp), ⟨rfl, (by simp), trivial⟩⟩⟩⟩ (fun VV hF => ?_)
  have hX := hF.c
  refine ro_aload_n (i := 3) (q := 1) hX dL_write_0 rfl rfl rfl ?_
  refine ro_iconst (v := nI 0) (q := 2) hX dL_write_1 rfl rfl ?_
  refine ro_aload_n (i := 0) (q := 3) hX dL_write_2 rfl rfl rfl ?_
  refine ro_iload_n (i := 1) (q := 4) hX dL_write_3 rfl rfl rfl ?_
  refine ro_iload_n (i := 2) (q := 5) hX dL_write_4 rfl rfl rfl ?_
  refine ro_callVi (q9 := 8) hX hD mw_X2_write kl_L_19 (by decide) (fun cy => cell2 (by decide +kernel)) rfl rfl rfl (Nat.le_of_ble_eq_true rfl) ⟨Nat.le_of_ble_eq_true rfl, Nat.le_of_ble_eq_true rfl⟩ dL_write_5 ⟨Nat.le_of_ble_eq_true rfl, Nat.le_of_ble_eq_true rfl⟩ rfl ?_
  refine ro_i2l (v := v.toInt64) (q := 9) hX dL_write_8 rfl rfl ?_
  refine ro_last (q9 := 10) hX dL_write_9 rfl ?_
  refine ro_goto (tgt := 25) hX dL_write_10 (by decide) ?_
  refine ro_iconst (v := nI 0) (q := 26) hX dL_write_25 rfl rfl ?_
  exact fin_h hF (Nat.le_of_ble_eq_true rfl) (Nat.le_of_ble_eq_true rfl) dL_write_26 rfl rfl

set_option maxRecDepth 20000 in
theorem h_write_1 (hD : Does sz I_X2_write [.ref (sz + 0), .int x, .int y] M 1 6 (.inr "java/lang/IndexOutOfBoundsException") M') : DoesH sz I_L_write hh_L_write [.ref (sz + 0), .int x, .int y, .ref (sz + 79)] M 1 6 (.inl (some (nI 1))) M' := by
  refine DoesH.of (L := [(0, .ref (sz + 0)), (1, .int x), (2, .int y), (3, .ref (sz + 79))]) cw_L_write (by decide +kernel) (Nat.le_of_ble_eq_true rfl) rfl ⟨rfl, (by simp), ⟨rfl, (by simp), ⟨rfl, (by simp), ⟨rfl, (by simp), trivial⟩⟩⟩⟩ (fun VV hF => ?_)
  have hX := hF.c
  refine ro_aload_n (i := 3) (q := 1) hX dL_write_0 rfl rfl rfl ?_
  refine ro_iconst (v := nI 0) (q := 2) hX dL_write_1 rfl rfl ?_
  refine ro_aload_n (i := 0) (q := 3) hX dL_write_2 rfl rfl rfl ?_
  refine ro_iload_n (i := 1) (q := 4) hX dL_write_3 rfl rfl rfl ?_
  refine ro_iload_n (i := 2) (q := 5) hX dL_write_4 rfl rfl rfl ?_
  refine ro_catchV (x := { startPc := 0, endPc := 10, handlerPc := 13, catchType := 13 }) (pre := tabH (hh_L_write.take 0)) (suf := tabH (hh_L_write.drop 1)) hF hD mw_X2_write kl_L_19 (by decide) (fun cy => cell2 (by decide +kernel)) rfl rfl rfl (Nat.le_of_ble_eq_true rfl) ⟨Nat.le_of_ble_eq_true rfl, Nat.le_of_ble_eq_true rfl⟩ dL_write_5 ⟨Nat.le_of_ble_eq_true rfl, Nat.le_of_ble_eq_true rfl⟩ rfl (by decide) (by decide) cl_L_13 ca_13 ?_ (fun q => ?_)
  · intro z hz
    simp only [tabH, hh_L_write, List.take, List.map, List.mem_cons, List.not_mem_nil, or_false] at hz
  · refine ro_astore (i := 4) (q := 15) hX dL_write_13 (Nat.le_of_ble_eq_true rfl) rfl ?_
    refine ro_iconst (v := nI 1) (q := 16) hX dL_write_15 rfl rfl ?_
    exact fin_h hF (Nat.le_of_ble_eq_true rfl) (Nat.le_of_ble_eq_true rfl) dL_write_16 rfl rfl

set_option maxRecDepth 20000 in
theorem h_write_2 (hD : Does sz I_X2_write [.ref (sz + 0), .int x, .int y] M 1 6 (.inr "java/lang/IllegalArgumentException") M') : DoesH sz I_L_write hh_L_write [.ref (sz + 0), .int x, .int y, .ref (sz + 79)] M 1 6 (.inl (some (nI 2))) M' := by
  refine DoesH.of (L := [(0, .ref (sz + 0)), (1, .int x), (2, .int y), (3, .ref (sz + 79))]) cw_L_write (by decide +kernel) (Nat.le_of_ble_eq_true rfl) rfl ⟨rfl, (by simp), ⟨rfl, (by simp), ⟨rfl, (by simp), ⟨rfl, (by simp), trivial⟩⟩⟩⟩ (fun VV hF => ?_)
  have hX := hF.c
  refine ro_aload_n (i := 3) (q := 1) hX dL_write_0 rfl rfl rfl ?_
  refine ro_iconst (v := nI 0) (q := 2) hX dL_write_1 rfl rfl ?_
  refine ro_aload_n (i := 0) (q := 3) hX dL_write_2 rfl rfl rfl ?_
  refine ro_iload_n (i := 1) (q := 4) hX dL_write_3 rfl rfl rfl ?_
  refine ro_iload_n (i := 2) (q := 5) hX dL_write_4 rfl rfl rfl ?_
  refine ro_catchV (x := { startPc := 0, endPc := 10, handlerPc := 17, catchType := 15 }) (pre := tabH (hh_L_write.take 1)) (suf := tabH (hh_L_write.drop 2)) hF hD mw_X2_write kl_L_19 (by decide) (fun cy => cell2 (by decide +kernel)) rfl rfl rfl (Nat.le_of_ble_eq_true rfl) ⟨Nat.le_of_ble_eq_true rfl, Nat.le_of_ble_eq_true rfl⟩ dL_write_5 ⟨Nat.le_of_ble_eq_true rfl, Nat.le_of_ble_eq_true rfl⟩ rfl (by decide) (by decide) cl_L_15 ca_15 ?_ (fun q => ?_)
  · intro z hz
    simp only [tabH, hh_L_write, List.take, List.map, List.mem_cons, List.not_mem_nil, or_false] at hz
    subst hz
    exact ⟨by decide, _, cl_L_13, by decide⟩
  · refine ro_astore (i := 4) (q := 19) hX dL_write_17 (Nat.le_of_ble_eq_true rfl) rfl ?_
    refine ro_iconst (v := nI 2) (q := 20) hX dL_write_19 rfl rfl ?_
    exact fin_h hF (Nat.le_of_ble_eq_true rfl) (Nat.le_of_ble_eq_true rfl) dL_write_20 rfl rfl

set_option maxRecDepth 20000 in
theorem h_write_3 (hD : Does sz I_X2_write [.ref (sz + 0), .int x, .int y] M 1 6 (.inr "java/lang/IllegalStateException") M') : DoesH sz I_L_write hh_L_write [.ref (sz + 0), .int x, .int y, .ref (sz + 79)] M 1 6 (.inl (some (nI 3))) M' := by
  refine DoesH.of (L := [(0, .ref (sz + 0)), (1, .int x), (2, .int y), (3, .ref (sz + 79))]) cw_L_write (by decide +kernel) (Nat.le_of_ble_eq_true rfl) rfl ⟨rfl, (by simp), ⟨rfl, (by simp), ⟨rfl, (by simp), ⟨rfl, (by simp), trivial⟩⟩⟩⟩ (fun VV hF => ?_)
  have hX := hF.c
  refine ro_aload_n (i := 3) (q := 1) hX dL_write_0 rfl rfl rfl ?_
  refine ro_iconst (v := nI 0) (q := 2) hX dL_write_1 rfl rfl ?_
  refine ro_aload_n (i := 0) (q := 3) hX dL_write_2 rfl rfl rfl ?_
  refine ro_iload_n (i := 1) (q := 4) hX dL_write_3 rfl rfl rfl ?_
  refine ro_iload_n (i := 2) (q := 5) hX dL_write_4 rfl rfl rfl ?_
  refine ro_catchV (x := { startPc := 0, endPc := 10, handlerPc := 21, catchType := 17 }) (pre := tabH (hh_L_write.take 2)) (suf := tabH (hh_L_write.drop 3)) hF hD mw_X2_write kl_L_19 (by decide) (fun cy => cell2 (by decide +kernel)) rfl rfl rfl (Nat.le_of_ble_eq_true rfl) ⟨Nat.le_of_ble_eq_true rfl, Nat.le_of_ble_eq_true rfl⟩ dL_write_5 ⟨Nat.le_of_ble_eq_true rfl, Nat.le_of_ble_eq_true rfl⟩ rfl (by decide) (by decide) cl_L_17 ca_17 ?_ (fun q => ?_)
  · intro z hz
    simp only [tabH, hh_L_write, List.take, List.map, List.mem_cons, List.not_mem_nil, or_false] at hz
    rcases hz with rfl | rfl
    · exact ⟨by decide, _, cl_L_13, by decide⟩
    · exact ⟨by decide, _, cl_L_15, by decide⟩
  · refine ro_astore (i := 4) (q := 23) hX dL_write_21 (Nat.le_of_ble_eq_true rfl) rfl ?_
    refine ro_iconst (v := nI 3) (q := 24) hX dL_write_23 rfl rfl ?_
    exact fin_h hF (Nat.le_of_ble_eq_true rfl) (Nat.le_of_ble_eq_true rfl) dL_write_24 rfl rfl

set_option maxRecDepth 20000 in
theorem h_read (hD : Does sz I_X2_read [.ref (sz + 0), .int x] M 0 0 (.inl (some (v))) M') : DoesH sz I_L_read hh_L_read [.ref (sz + 0), .int x, .ref (sz + 79)] M 1 6 (.inl (some (nI 0))) (M'.1, (M'.2.1, v.toInt64)) := by
  refine DoesH.of (L := [(0, .ref (sz + 0)), (1, .int x), (2, .ref (sz + 79))]) cw_L_read (by decide +kernel) (Nat.le_of_ble_eq_true rfl) rfl ⟨rfl, (by simp), ⟨rfl, (by simp), ⟨rfl, (by simp), trivial⟩⟩⟩ (fun VV hF => ?_)
  have hX := hF.c
  refine ro_aload_n (i := 2) (q := 1) hX dL_read_0 rfl rfl rfl ?_
  refine ro_iconst (v := nI 0) (q := 2) hX dL_read_1 rfl rfl ?_
  refine ro_aload_n (i := 0) (q := 3) hX dL_read_2 rfl rfl rfl ?_
  refine ro_iload_n (i := 1) (q := 4) hX dL_read_3 rfl rfl rfl ?_
  refine ro_callVi (q9 := 7) hX hD mw_X2_read kl_L_22 (by decide) (fun cy => cell2 (by decide +kernel)) rfl rfl rfl (Nat.le_of_ble_eq_true rfl) ⟨Nat.le_of_ble_eq_true rfl, Nat.le_of_ble_eq_true rfl⟩ dL_read_4 ⟨Nat.le_of_ble_eq_true rfl, Nat.le_of_ble_eq_true rfl⟩ rfl ?_
  refine ro_i2l (v := v.toInt64) (q := 8) hX dL_read_7 rfl rfl ?_
  refine ro_last (q9 := 9) hX dL_read_8 rfl ?_
  refine ro_goto (tgt := 18) hX dL_read_9 (by decide) ?_
  refine ro_iconst (v := nI 0) (q := 19) hX dL_read_18 rfl rfl ?_
  exact fin_h hF (Nat.le_of_ble_eq_true rfl) (Nat.le_of_ble_eq_true rfl) dL_read_19 rfl rfl

set_option maxRecDepth 20000 in
theorem h_read_1 (hD : Does sz I_X2_read [.ref (sz + 0), .int x] M 1 6 (.inr "java/lang/IndexOutOfBoundsException") M') : DoesH sz I_L_read hh_L_read [.ref (sz + 0), .int x, .ref (sz + 79)] M 1 6 (.inl (some (nI 1))) M' := by
  refine DoesH.of (L := [(0, .ref (sz + 0)), (1, .int x), (2, .ref (sz + 79))]) cw_L_read (by decide +kernel) (Nat.le_of_ble_eq_true rfl) rfl ⟨rfl, (by simp), ⟨rfl, (by simp), ⟨rfl, (by simp), trivial⟩⟩⟩ (fun VV hF => ?_)
  have hX := hF.c
  refine ro_aload_n (i := 2) (q := 1) hX dL_read_0 rfl rfl rfl ?_
  refine ro_iconst (v := nI 0) (q := 2) hX dL_read_1 rfl rfl ?_
  refine ro_aload_n (i := 0) (q := 3) hX dL_read_2 rfl rfl rfl ?_
  refine ro_iload_n (i := 1) (q := 4) hX dL_read_3 rfl rfl rfl ?_
  refine ro_catchV (x := { startPc := 0, endPc := 9, handlerPc := 12, catchType := 13 }) (pre := tabH (hh_L_read.take 0)) (suf := tabH (hh_L_read.drop 1)) hF hD mw_X2_read kl_L_22 (by decide) (fun cy => cell2 (by decide +kernel)) rfl rfl rfl (Nat.le_of_ble_eq_true rfl) ⟨Nat.le_of_ble_eq_true rfl, Nat.le_of_ble_eq_true rfl⟩ dL_read_4 ⟨Nat.le_of_ble_eq_true rfl, Nat.le_of_ble_eq_true rfl⟩ rfl (by decide) (by decide) cl_L_13 ca_13 ?_ (fun q => ?_)
  · intro z hz
    simp only [tabH, hh_L_read, List.take, List.map, List.mem_cons, List.not_mem_nil, or_false] at hz
  · refine ro_astore_n (i := 3) (q := 13) hX dL_read_12 rfl (Nat.le_of_ble_eq_true rfl) rfl ?_
    refine ro_iconst (v := nI 1) (q := 14) hX dL_read_13 rfl rfl ?_
    exact fin_h hF (Nat.le_of_ble_eq_true rfl) (Nat.le_of_ble_eq_true rfl) dL_read_14 rfl rfl

set_option maxRecDepth 20000 in
theorem h_read_2 (hD : Does sz I_X2_read [.ref (sz + 0), .int x] M 1 6 (.inr "java/lang/IllegalStateException") M') : DoesH sz I_L_read hh_L_read [.ref (sz + 0), .int x, .ref (sz + 79)] M 1 6 (.inl (some (nI 2))) M' := by
  refine DoesH.of (L := [(0, .ref (sz + 0)), (1, .int x), (2, .ref (sz + 79))]) cw_L_read (by decide +kernel) (Nat.le_of_ble_eq_true rfl) rfl ⟨rfl, (by simp), ⟨rfl, (by simp), ⟨rfl, (by simp), trivial⟩⟩⟩ (fun VV hF => ?_)
  have hX := hF.c
  refine ro_aload_n (i := 2) (q := 1) hX dL_read_0 rfl rfl rfl ?_
  refine ro_iconst (v := nI 0) (q := 2) hX dL_read_1 rfl rfl ?_
  refine ro_aload_n (i := 0) (q := 3) hX dL_read_2 rfl rfl rfl ?_
  refine ro_iload_n (i := 1) (q := 4) hX dL_read_3 rfl rfl rfl ?_
  refine ro_catchV (x := { startPc := 0, endPc := 9, handlerPc := 15, catchType := 17 }) (pre := tabH (hh_L_read.take 1)) (suf := tabH (hh_L_read.drop 2)) hF hD mw_X2_read kl_L_22 (by decide) (fun cy => cell2 (by decide +kernel)) rfl rfl rfl (Nat.le_of_ble_eq_true rfl) ⟨Nat.le_of_ble_eq_true rfl, Nat.le_of_ble_eq_true rfl⟩ dL_read_4 ⟨Nat.le_of_ble_eq_true rfl, Nat.le_of_ble_eq_true rfl⟩ rfl (by decide) (by decide) cl_L_17 ca_17 ?_ (fun q => ?_)
  · intro z hz
    simp only [tabH, hh_L_read, List.take, List.map, List.mem_cons, List.not_mem_nil, or_false] at hz
    subst hz
    exact ⟨by decide, _, cl_L_13, by decide⟩
  · refine ro_astore_n (i := 3) (q := 16) hX dL_read_15 rfl (Nat.le_of_ble_eq_true rfl) rfl ?_
    refine ro_iconst (v := nI 2) (q := 17) hX dL_read_16 rfl rfl ?_
    exact fin_h hF (Nat.le_of_ble_eq_true rfl) (Nat.le_of_ble_eq_true rfl) dL_read_17 rfl rfl

set_option maxRecDepth 20000 in
theorem h_remove (hD : Does sz I_X2_remove [.ref (sz + 0), .int x] M 0 0 (.inl (some (v))) M') : DoesH sz I_L_remove hh_L_remove [.ref (sz + 0), .int x, .ref (sz + 79)] M 1 6 (.inl (some (nI 0))) (M'.1, (M'.2.1, v.toInt64)) := by
  refine DoesH.of (L := [(0, .ref (sz + 0)), (1, .int x), (2, .ref (sz + 79))]) cw_L_remove (by decide +kernel) (Nat.le_of_ble_eq_true rfl) rfl ⟨rfl, (by simp), ⟨rfl, (by simp), ⟨rfl, (by simp), trivial⟩⟩⟩ (fun VV hF => ?_)
  have hX := hF.c
  refine ro_aload_n (i := 2) (q := 1) hX dL_remove_0 rfl rfl rfl ?_
  refine ro_iconst (v := nI 0) (q := 2) hX dL_remove_1 rfl rfl ?_
  refine ro_aload_n (i := 0) (q := 3) hX dL_remove_2 rfl rfl rfl ?_
  refine ro_iload_n (i := 1) (q := 4) hX dL_remove_3 rfl rfl rfl ?_
  refine ro_callVi (q9 := 7) hX hD mw_X2_remove kl_L_26 (by decide) (fun cy => cell2 (by decide +kernel)) rfl rfl rfl (Nat.le_of_ble_eq_true rfl) ⟨Nat.le_of_ble_eq_true rfl, Nat.le_of_ble_eq_true rfl⟩ dL_remove_4 ⟨Nat.le_of_ble_eq_true rfl, Nat.le_of_ble_eq_true rfl⟩ rfl ?_
  refine ro_i2l (v := v.toInt64) (q := 8) hX dL_remove_7 rfl rfl ?_
  refine ro_last (q9 := 9) hX dL_remove_8 rfl ?_
  refine ro_goto (tgt := 18) hX dL_remove_9 (by decide) ?_
  refine ro_iconst (v := nI 0) (q := 19) hX dL_remove_18 rfl rfl ?_
  exact fin_h hF (Nat.le_of_ble_eq_true rfl) (Nat.le_of_ble_eq_true rfl) dL_remove_19 rfl rfl

set_option maxRecDepth 20000 in
theorem h_remove_1 (hD : Does sz I_X2_remove [.ref (sz + 0), .int x] M 1 6 (.inr "java/lang/IndexOutOfBoundsException") M') : DoesH sz I_L_remove hh_L_remove [.ref (sz + 0), .int x, .ref (sz + 79)] M 1 6 (.inl (some (nI 1))) M' := by
  refine DoesH.of (L := [(0, .ref (sz + 0)), (1, .int x), (2, .ref (sz + 79))]) cw_L_remove (by decide +kernel) (Nat.le_of_ble_eq_true rfl) rfl ⟨rfl, (by simp), ⟨rfl, (by simp), ⟨rfl, (by simp), trivial⟩⟩⟩ (fun VV hF => ?_)
  have hX := hF.c
  refine ro_aload_n (i := 2) (q := 1) hX dL_remove_0 rfl rfl rfl ?_
  refine ro_iconst (v := nI 0) (q := 2) hX dL_remove_1 rfl rfl ?_
  refine ro_aload_n (i := 0) (q := 3) hX dL_remove_2 rfl rfl rfl ?_
  refine ro_iload_n (i := 1) (q := 4) hX dL_remove_3 rfl rfl rfl ?_
  refine ro_catchV (x := { startPc := 0, endPc := 9, handlerPc := 12, catchType := 13 }) (pre := tabH (hh_L_remove.take 0)) (suf := tabH (hh_L_remove.drop 1)) hF hD mw_X2_remove kl_L_26 (by decide) (fun cy => cell2 (by decide +kernel)) rfl rfl rfl (Nat.le_of_ble_eq_true rfl) ⟨Nat.le_of_ble_eq_true rfl, Nat.le_of_ble_eq_true rfl⟩ dL_remove_4 ⟨Nat.le_of_ble_eq_true rfl, Nat.le_of_ble_eq_true rfl⟩ rfl (by decide) (by decide) cl_L_13 ca_13 ?_ (fun q => ?_)
  · intro z hz
    simp only [tabH, hh_L_remove, List.take, List.map, List.mem_cons, List.not_mem_nil, or_false] at hz
  · refine ro_astore_n (i := 3) (q := 13) hX dL_remove_12 rfl (Nat.le_of_ble_eq_true rfl) rfl ?_
    refine ro_iconst (v := nI 1) (q := 14) hX dL_remove_13 rfl rfl ?_
    exact fin_h hF (Nat.le_of_ble_eq_true rfl) (Nat.le_of_ble_eq_true rfl) dL_remove_14 rfl rfl

set_option maxRecDepth 20000 in
theorem h_remove_2 (hD : Does sz I_X2_remove [.ref (sz + 0), .int x] M 1 6 (.inr "java/lang/IllegalStateException") M') : DoesH sz I_L_remove hh_L_remove [.ref (sz + 0), .int x, .ref (sz + 79)] M 1 6 (.inl (some (nI 2))) M' := by
  refine DoesH.of (L := [(0, .ref (sz + 0)), (1, .int x), (2, .ref (sz + 79))]) cw_L_remove (by decide +kernel) (Nat.le_of_ble_eq_true rfl) rfl ⟨rfl, (by simp), ⟨rfl, (by simp), ⟨rfl, (by simp), trivial⟩⟩⟩ (fun VV hF => ?_)
  have hX := hF.c
  refine ro_aload_n (i := 2) (q := 1) hX dL_remove_0 rfl rfl rfl ?_
  refine ro_iconst (v := nI 0) (q := 2) hX dL_remove_1 rfl rfl ?_
  refine ro_aload_n (i := 0) (q := 3) hX dL_remove_2 rfl rfl rfl ?_
  refine ro_iload_n (i := 1) (q := 4) hX dL_remove_3 rfl rfl rfl ?_
  refine ro_catchV (x := { startPc := 0, endPc := 9, handlerPc := 15, catchType := 17 }) (pre := tabH (hh_L_remove.take 1)) (suf := tabH (hh_L_remove.drop 2)) hF hD mw_X2_remove kl_L_26 (by decide) (fun cy => cell2 (by decide +kernel)) rfl rfl rfl (Nat.le_of_ble_eq_true rfl) ⟨Nat.le_of_ble_eq_true rfl, Nat.le_of_ble_eq_true rfl⟩ dL_remove_4 ⟨Nat.le_of_ble_eq_true rfl, Nat.le_of_ble_eq_true rfl⟩ rfl (by decide) (by decide) cl_L_17 ca_17 ?_ (fun q => ?_)
  · intro z hz
    simp only [tabH, hh_L_remove, List.take, List.map, List.mem_cons, List.not_mem_nil, or_false] at hz
    subst hz
    exact ⟨by decide, _, cl_L_13, by decide⟩
  · refine ro_astore_n (i := 3) (q := 16) hX dL_remove_15 rfl (Nat.le_of_ble_eq_true rfl) rfl ?_
    refine ro_iconst (v := nI 2) (q := 17) hX dL_remove_16 rfl rfl ?_
    exact fin_h hF (Nat.le_of_ble_eq_true rfl) (Nat.le_of_ble_eq_true rfl) dL_remove_17 rfl rfl

set_option maxRecDepth 20000 in
theorem h_lend (hD : Does sz I_X2_lend [.ref (sz + 0), .int x, .int y] M 0 0 (.inl (some (v))) M') : DoesH sz I_L_lend hh_L_lend [.ref (sz + 0), .int x, .int y, .ref (sz + 79)] M 1 6 (.inl (some (nI 0))) (M'.1, (M'.2.1, v.toInt64)) := by
  refine DoesH.of (L := [(0, .ref (sz + 0)), (1, .int x), (2, .int y), (3, .ref (sz + 79))]) cw_L_lend (by decide +kernel) (Nat.le_of_ble_eq_true rfl) rfl ⟨rfl, (by simp), ⟨rfl, (by simp), ⟨rfl, (by simp), ⟨rfl, (by simp), trivial⟩⟩⟩⟩ (fun VV hF => ?_)
  have hX := hF.c
  refine ro_aload_n (i := 3) (q := 1) hX dL_lend_0 rfl rfl rfl ?_
  refine ro_iconst (v := nI 0) (q := 2) hX dL_lend_1 rfl rfl ?_
  refine ro_aload_n (i := 0) (q := 3) hX dL_lend_2 rfl rfl rfl ?_
  refine ro_iload_n (i := 1) (q := 4) hX dL_lend_3 rfl rfl rfl ?_
  refine ro_iload_n (i := 2) (q := 5) hX dL_lend_4 rfl rfl rfl ?_
  refine ro_callVi (q9 := 8) hX hD mw_X2_lend kl_L_29 (by decide) (fun cy => cell2 (by decide +kernel)) rfl rfl rfl (Nat.le_of_ble_eq_true rfl) ⟨Nat.le_of_ble_eq_true rfl, Nat.le_of_ble_eq_true rfl⟩ dL_lend_5 ⟨Nat.le_of_ble_eq_true rfl, Nat.le_of_ble_eq_true rfl⟩ rfl ?_
  refine ro_i2l (v := v.toInt64) (q := 9) hX dL_lend_8 rfl rfl ?_
  refine ro_last (q9 := 10) hX dL_lend_9 rfl ?_
  refine ro_goto (tgt := 25) hX dL_lend_10 (by decide) ?_
  refine ro_iconst (v := nI 0) (q := 26) hX dL_lend_25 rfl rfl ?_
  exact fin_h hF (Nat.le_of_ble_eq_true rfl) (Nat.le_of_ble_eq_true rfl) dL_lend_26 rfl rfl

set_option maxRecDepth 20000 in
theorem h_lend_1 (hD : Does sz I_X2_lend [.ref (sz + 0), .int x, .int y] M 1 6 (.inr "java/lang/IndexOutOfBoundsException") M') : DoesH sz I_L_lend hh_L_lend [.ref (sz + 0), .int x, .int y, .ref (sz + 79)] M 1 6 (.inl (some (nI 1))) M' := by
  refine DoesH.of (L := [(0, .ref (sz + 0)), (1, .int x), (2, .int y), (3, .ref (sz + 79))]) cw_L_lend (by decide +kernel) (Nat.le_of_ble_eq_true rfl) rfl ⟨rfl, (by simp), ⟨rfl, (by simp), ⟨rfl, (by simp), ⟨rfl, (by simp), trivial⟩⟩⟩⟩ (fun VV hF => ?_)
  have hX := hF.c
  refine ro_aload_n (i := 3) (q := 1) hX dL_lend_0 rfl rfl rfl ?_
  refine ro_iconst (v := nI 0) (q := 2) hX dL_lend_1 rfl rfl ?_
  refine ro_aload_n (i := 0) (q := 3) hX dL_lend_2 rfl rfl rfl ?_
  refine ro_iload_n (i := 1) (q := 4) hX dL_lend_3 rfl rfl rfl ?_
  refine ro_iload_n (i := 2) (q := 5) hX dL_lend_4 rfl rfl rfl ?_
  refine ro_catchV (x := { startPc := 0, endPc := 10, handlerPc := 13, catchType := 13 }) (pre := tabH (hh_L_lend.take 0)) (suf := tabH (hh_L_lend.drop 1)) hF hD mw_X2_lend kl_L_29 (by decide) (fun cy => cell2 (by decide +kernel)) rfl rfl rfl (Nat.le_of_ble_eq_true rfl) ⟨Nat.le_of_ble_eq_true rfl, Nat.le_of_ble_eq_true rfl⟩ dL_lend_5 ⟨Nat.le_of_ble_eq_true rfl, Nat.le_of_ble_eq_true rfl⟩ rfl (by decide) (by decide) cl_L_13 ca_13 ?_ (fun q => ?_)
  · intro z hz
    simp only [tabH, hh_L_lend, List.take, List.map, List.mem_cons, List.not_mem_nil, or_false] at hz
  · refine ro_astore (i := 4) (q := 15) hX dL_lend_13 (Nat.le_of_ble_eq_true rfl) rfl ?_
    refine ro_iconst (v := nI 1) (q := 16) hX dL_lend_15 rfl rfl ?_
    exact fin_h hF (Nat.le_of_ble_eq_true rfl) (Nat.le_of_ble_eq_true rfl) dL_lend_16 rfl rfl

set_option maxRecDepth 20000 in
theorem h_lend_2 (hD : Does sz I_X2_lend [.ref (sz + 0), .int x, .int y] M 1 6 (.inr "java/lang/IllegalArgumentException") M') : DoesH sz I_L_lend hh_L_lend [.ref (sz + 0), .int x, .int y, .ref (sz + 79)] M 1 6 (.inl (some (nI 2))) M' := by
  refine DoesH.of (L := [(0, .ref (sz + 0)), (1, .int x), (2, .int y), (3, .ref (sz + 79))]) cw_L_lend (by decide +kernel) (Nat.le_of_ble_eq_true rfl) rfl ⟨rfl, (by simp), ⟨rfl, (by simp), ⟨rfl, (by simp), ⟨rfl, (by simp), trivial⟩⟩⟩⟩ (fun VV hF => ?_)
  have hX := hF.c
  refine ro_aload_n (i := 3) (q := 1) hX dL_lend_0 rfl rfl rfl ?_
  refine ro_iconst (v := nI 0) (q := 2) hX dL_lend_1 rfl rfl ?_
  refine ro_aload_n (i := 0) (q := 3) hX dL_lend_2 rfl rfl rfl ?_
  refine ro_iload_n (i := 1) (q := 4) hX dL_lend_3 rfl rfl rfl ?_
  refine ro_iload_n (i := 2) (q := 5) hX dL_lend_4 rfl rfl rfl ?_
  refine ro_catchV (x := { startPc := 0, endPc := 10, handlerPc := 17, catchType := 15 }) (pre := tabH (hh_L_lend.take 1)) (suf := tabH (hh_L_lend.drop 2)) hF hD mw_X2_lend kl_L_29 (by decide) (fun cy => cell2 (by decide +kernel)) rfl rfl rfl (Nat.le_of_ble_eq_true rfl) ⟨Nat.le_of_ble_eq_true rfl, Nat.le_of_ble_eq_true rfl⟩ dL_lend_5 ⟨Nat.le_of_ble_eq_true rfl, Nat.le_of_ble_eq_true rfl⟩ rfl (by decide) (by decide) cl_L_15 ca_15 ?_ (fun q => ?_)
  · intro z hz
    simp only [tabH, hh_L_lend, List.take, List.map, List.mem_cons, List.not_mem_nil, or_false] at hz
    subst hz
    exact ⟨by decide, _, cl_L_13, by decide⟩
  · refine ro_astore (i := 4) (q := 19) hX dL_lend_17 (Nat.le_of_ble_eq_true rfl) rfl ?_
    refine ro_iconst (v := nI 2) (q := 20) hX dL_lend_19 rfl rfl ?_
    exact fin_h hF (Nat.le_of_ble_eq_true rfl) (Nat.le_of_ble_eq_true rfl) dL_lend_20 rfl rfl

set_option maxRecDepth 20000 in
theorem h_lend_3 (hD : Does sz I_X2_lend [.ref (sz + 0), .int x, .int y] M 1 6 (.inr "java/lang/IllegalStateException") M') : DoesH sz I_L_lend hh_L_lend [.ref (sz + 0), .int x, .int y, .ref (sz + 79)] M 1 6 (.inl (some (nI 3))) M' := by
  refine DoesH.of (L := [(0, .ref (sz + 0)), (1, .int x), (2, .int y), (3, .ref (sz + 79))]) cw_L_lend (by decide +kernel) (Nat.le_of_ble_eq_true rfl) rfl ⟨rfl, (by simp), ⟨rfl, (by simp), ⟨rfl, (by simp), ⟨rfl, (by simp), trivial⟩⟩⟩⟩ (fun VV hF => ?_)
  have hX := hF.c
  refine ro_aload_n (i := 3) (q := 1) hX dL_lend_0 rfl rfl rfl ?_
  refine ro_iconst (v := nI 0) (q := 2) hX dL_lend_1 rfl rfl ?_
  refine ro_aload_n (i := 0) (q := 3) hX dL_lend_2 rfl rfl rfl ?_
  refine ro_iload_n (i := 1) (q := 4) hX dL_lend_3 rfl rfl rfl ?_
  refine ro_iload_n (i := 2) (q := 5) hX dL_lend_4 rfl rfl rfl ?_
  refine ro_catchV (x := { startPc := 0, endPc := 10, handlerPc := 21, catchType := 17 }) (pre := tabH (hh_L_lend.take 2)) (suf := tabH (hh_L_lend.drop 3)) hF hD mw_X2_lend kl_L_29 (by decide) (fun cy => cell2 (by decide +kernel)) rfl rfl rfl (Nat.le_of_ble_eq_true rfl) ⟨Nat.le_of_ble_eq_true rfl, Nat.le_of_ble_eq_true rfl⟩ dL_lend_5 ⟨Nat.le_of_ble_eq_true rfl, Nat.le_of_ble_eq_true rfl⟩ rfl (by decide) (by decide) cl_L_17 ca_17 ?_ (fun q => ?_)
  · intro z hz
    simp only [tabH, hh_L_lend, List.take, List.map, List.mem_cons, List.not_mem_nil, or_false] at hz
    rcases hz with rfl | rfl
    · exact ⟨by decide, _, cl_L_13, by decide⟩
    · exact ⟨by decide, _, cl_L_15, by decide⟩
  · refine ro_astore (i := 4) (q := 23) hX dL_lend_21 (Nat.le_of_ble_eq_true rfl) rfl ?_
    refine ro_iconst (v := nI 3) (q := 24) hX dL_lend_23 rfl rfl ?_
    exact fin_h hF (Nat.le_of_ble_eq_true rfl) (Nat.le_of_ble_eq_true rfl) dL_lend_24 rfl rfl

set_option maxRecDepth 20000 in
theorem h_recall (hD : Does sz I_X2_recall [.ref (sz + 0), .int x, .int y] M 0 0 (.inl (some (v))) M') : DoesH sz I_L_recall hh_L_recall [.ref (sz + 0), .int x, .int y, .ref (sz + 79)] M 1 6 (.inl (some (nI 0))) (M'.1, (M'.2.1, v.toInt64)) := by
  refine DoesH.of (L := [(0, .ref (sz + 0)), (1, .int x), (2, .int y), (3, .ref (sz + 79))]) cw_L_recall (by decide +kernel) (Nat.le_of_ble_eq_true rfl) rfl ⟨rfl, (by simp), ⟨rfl, (by simp), ⟨rfl, (by simp), ⟨rfl, (by simp), trivial⟩⟩⟩⟩ (fun VV hF => ?_)
  have hX := hF.c
  refine ro_aload_n (i := 3) (q := 1) hX dL_recall_0 rfl rfl rfl ?_
  refine ro_iconst (v := nI 0) (q := 2) hX dL_recall_1 rfl rfl ?_
  refine ro_aload_n (i := 0) (q := 3) hX dL_recall_2 rfl rfl rfl ?_
  refine ro_iload_n (i := 1) (q := 4) hX dL_recall_3 rfl rfl rfl ?_
  refine ro_iload_n (i := 2) (q := 5) hX dL_recall_4 rfl rfl rfl ?_
  refine ro_callVi (q9 := 8) hX hD mw_X2_recall kl_L_32 (by decide) (fun cy => cell2 (by decide +kernel)) rfl rfl rfl (Nat.le_of_ble_eq_true rfl) ⟨Nat.le_of_ble_eq_true rfl, Nat.le_of_ble_eq_true rfl⟩ dL_recall_5 ⟨Nat.le_of_ble_eq_true rfl, Nat.le_of_ble_eq_true rfl⟩ rfl ?_
  refine ro_i2l (v := v.toInt64) (q := 9) hX dL_recall_8 rfl rfl ?_
  refine ro_last (q9 := 10) hX dL_recall_9 rfl ?_
  refine ro_goto (tgt := 25) hX dL_recall_10 (by decide) ?_
  refine ro_iconst (v := nI 0) (q := 26) hX dL_recall_25 rfl rfl ?_
  exact fin_h hF (Nat.le_of_ble_eq_true rfl) (Nat.le_of_ble_eq_true rfl) dL_recall_26 rfl rfl

set_option maxRecDepth 20000 in
theorem h_recall_1 (hD : Does sz I_X2_recall [.ref (sz + 0), .int x, .int y] M 1 6 (.inr "java/lang/IndexOutOfBoundsException") M') : DoesH sz I_L_recall hh_L_recall [.ref (sz + 0), .int x, .int y, .ref (sz + 79)] M 1 6 (.inl (some (nI 1))) M' := by
  refine DoesH.of (L := [(0, .ref (sz + 0)), (1, .int x), (2, .int y), (3, .ref (sz + 79))]) cw_L_recall (by decide +kernel) (Nat.le_of_ble_eq_true rfl) rfl ⟨rfl, (by simp), ⟨rfl, (by simp), ⟨rfl, (by simp), ⟨rfl, (by simp), trivial⟩⟩⟩⟩ (fun VV hF => ?_)
  have hX := hF.c
  refine ro_aload_n (i := 3) (q := 1) hX dL_recall_0 rfl rfl rfl ?_
  refine ro_iconst (v := nI 0) (q := 2) hX dL_recall_1 rfl rfl ?_
  refine ro_aload_n (i := 0) (q := 3) hX dL_recall_2 rfl rfl rfl ?_
  refine ro_iload_n (i := 1) (q := 4) hX dL_recall_3 rfl rfl rfl ?_
  refine ro_iload_n (i := 2) (q := 5) hX dL_recall_4 rfl rfl rfl ?_
  refine ro_catchV (x := { startPc := 0, endPc := 10, handlerPc := 13, catchType := 13 }) (pre := tabH (hh_L_recall.take 0)) (suf := tabH (hh_L_recall.drop 1)) hF hD mw_X2_recall kl_L_32 (by decide) (fun cy => cell2 (by decide +kernel)) rfl rfl rfl (Nat.le_of_ble_eq_true rfl) ⟨Nat.le_of_ble_eq_true rfl, Nat.le_of_ble_eq_true rfl⟩ dL_recall_5 ⟨Nat.le_of_ble_eq_true rfl, Nat.le_of_ble_eq_true rfl⟩ rfl (by decide) (by decide) cl_L_13 ca_13 ?_ (fun q => ?_)
  · intro z hz
    simp only [tabH, hh_L_recall, List.take, List.map, List.mem_cons, List.not_mem_nil, or_false] at hz
  · refine ro_astore (i := 4) (q := 15) hX dL_recall_13 (Nat.le_of_ble_eq_true rfl) rfl ?_
    refine ro_iconst (v := nI 1) (q := 16) hX dL_recall_15 rfl rfl ?_
    exact fin_h hF (Nat.le_of_ble_eq_true rfl) (Nat.le_of_ble_eq_true rfl) dL_recall_16 rfl rfl

set_option maxRecDepth 20000 in
theorem h_recall_2 (hD : Does sz I_X2_recall [.ref (sz + 0), .int x, .int y] M 1 6 (.inr "java/lang/IllegalArgumentException") M') : DoesH sz I_L_recall hh_L_recall [.ref (sz + 0), .int x, .int y, .ref (sz + 79)] M 1 6 (.inl (some (nI 2))) M' := by
  refine DoesH.of (L := [(0, .ref (sz + 0)), (1, .int x), (2, .int y), (3, .ref (sz + 79))]) cw_L_recall (by decide +kernel) (Nat.le_of_ble_eq_true rfl) rfl ⟨rfl, (by simp), ⟨rfl, (by simp), ⟨rfl, (by simp), ⟨rfl, (by simp), trivial⟩⟩⟩⟩ (fun VV hF => ?_)
  have hX := hF.c
  refine ro_aload_n (i := 3) (q := 1) hX dL_recall_0 rfl rfl rfl ?_
  refine ro_iconst (v := nI 0) (q := 2) hX dL_recall_1 rfl rfl ?_
  refine ro_aload_n (i := 0) (q := 3) hX dL_recall_2 rfl rfl rfl ?_
  refine ro_iload_n (i := 1) (q := 4) hX dL_recall_3 rfl rfl rfl ?_
  refine ro_iload_n (i := 2) (q := 5) hX dL_recall_4 rfl rfl rfl ?_
  refine ro_catchV (x := { startPc := 0, endPc := 10, handlerPc := 17, catchType := 15 }) (pre := tabH (hh_L_recall.take 1)) (suf := tabH (hh_L_recall.drop 2)) hF hD mw_X2_recall kl_L_32 (by decide) (fun cy => cell2 (by decide +kernel)) rfl rfl rfl (Nat.le_of_ble_eq_true rfl) ⟨Nat.le_of_ble_eq_true rfl, Nat.le_of_ble_eq_true rfl⟩ dL_recall_5 ⟨Nat.le_of_ble_eq_true rfl, Nat.le_of_ble_eq_true rfl⟩ rfl (by decide) (by decide) cl_L_15 ca_15 ?_ (fun q => ?_)
  · intro z hz
    simp only [tabH, hh_L_recall, List.take, List.map, List.mem_cons, List.not_mem_nil, or_false] at hz
    subst hz
    exact ⟨by decide, _, cl_L_13, by decide⟩
  · refine ro_astore (i := 4) (q := 19) hX dL_recall_17 (Nat.le_of_ble_eq_true rfl) rfl ?_
    refine ro_iconst (v := nI 2) (q := 20) hX dL_recall_19 rfl rfl ?_
    exact fin_h hF (Nat.le_of_ble_eq_true rfl) (Nat.le_of_ble_eq_true rfl) dL_recall_20 rfl rfl

set_option maxRecDepth 20000 in
theorem h_recall_3 (hD : Does sz I_X2_recall [.ref (sz + 0), .int x, .int y] M 1 6 (.inr "java/lang/IllegalStateException") M') : DoesH sz I_L_recall hh_L_recall [.ref (sz + 0), .int x, .int y, .ref (sz + 79)] M 1 6 (.inl (some (nI 3))) M' := by
  refine DoesH.of (L := [(0, .ref (sz + 0)), (1, .int x), (2, .int y), (3, .ref (sz + 79))]) cw_L_recall (by decide +kernel) (Nat.le_of_ble_eq_true rfl) rfl ⟨rfl, (by simp), ⟨rfl, (by simp), ⟨rfl, (by simp), ⟨rfl, (by simp), trivial⟩⟩⟩⟩ (fun VV hF => ?_)
  have hX := hF.c
  refine ro_aload_n (i := 3) (q := 1) hX dL_recall_0 rfl rfl rfl ?_
  refine ro_iconst (v := nI 0) (q := 2) hX dL_recall_1 rfl rfl ?_
  refine ro_aload_n (i := 0) (q := 3) hX dL_recall_2 rfl rfl rfl ?_
  refine ro_iload_n (i := 1) (q := 4) hX dL_recall_3 rfl rfl rfl ?_
  refine ro_iload_n (i := 2) (q := 5) hX dL_recall_4 rfl rfl rfl ?_
  refine ro_catchV (x := { startPc := 0, endPc := 10, handlerPc := 21, catchType := 17 }) (pre := tabH (hh_L_recall.take 2)) (suf := tabH (hh_L_recall.drop 3)) hF hD mw_X2_recall kl_L_32 (by decide) (fun cy => cell2 (by decide +kernel)) rfl rfl rfl (Nat.le_of_ble_eq_true rfl) ⟨Nat.le_of_ble_eq_true rfl, Nat.le_of_ble_eq_true rfl⟩ dL_recall_5 ⟨Nat.le_of_ble_eq_true rfl, Nat.le_of_ble_eq_true rfl⟩ rfl (by decide) (by decide) cl_L_17 ca_17 ?_ (fun q => ?_)
  · intro z hz
    simp only [tabH, hh_L_recall, List.take, List.map, List.mem_cons, List.not_mem_nil, or_false] at hz
    rcases hz with rfl | rfl
    · exact ⟨by decide, _, cl_L_13, by decide⟩
    · exact ⟨by decide, _, cl_L_15, by decide⟩
  · refine ro_astore (i := 4) (q := 23) hX dL_recall_21 (Nat.le_of_ble_eq_true rfl) rfl ?_
    refine ro_iconst (v := nI 3) (q := 24) hX dL_recall_23 rfl rfl ?_
    exact fin_h hF (Nat.le_of_ble_eq_true rfl) (Nat.le_of_ble_eq_true rfl) dL_recall_24 rfl rfl

set_option maxRecDepth 20000 in
theorem h_disconnect (hD : Does sz I_X2_disconnect [.ref (sz + 0), .int x] M 0 0 (.inl (some (v))) M') : DoesH sz I_L_disconnect hh_L_disconnect [.ref (sz + 0), .int x, .ref (sz + 79)] M 1 6 (.inl (some (nI 0))) (M'.1, (M'.2.1, v.toInt64)) := by
  refine DoesH.of (L := [(0, .ref (sz + 0)), (1, .int x), (2, .ref (sz + 79))]) cw_L_disconnect (by decide +kernel) (Nat.le_of_ble_eq_true rfl) rfl ⟨rfl, (by simp), ⟨rfl, (by simp), ⟨rfl, (by simp), trivial⟩⟩⟩ (fun VV hF => ?_)
  have hX := hF.c
  refine ro_aload_n (i := 2) (q := 1) hX dL_disconnect_0 rfl rfl rfl ?_
  refine ro_iconst (v := nI 0) (q := 2) hX dL_disconnect_1 rfl rfl ?_
  refine ro_aload_n (i := 0) (q := 3) hX dL_disconnect_2 rfl rfl rfl ?_
  refine ro_iload_n (i := 1) (q := 4) hX dL_disconnect_3 rfl rfl rfl ?_
  refine ro_callVi (q9 := 7) hX hD mw_X2_disconnect kl_L_35 (by decide) (fun cy => cell2 (by decide +kernel)) rfl rfl rfl (Nat.le_of_ble_eq_true rfl) ⟨Nat.le_of_ble_eq_true rfl, Nat.le_of_ble_eq_true rfl⟩ dL_disconnect_4 ⟨Nat.le_of_ble_eq_true rfl, Nat.le_of_ble_eq_true rfl⟩ rfl ?_
  refine ro_i2l (v := v.toInt64) (q := 8) hX dL_disconnect_7 rfl rfl ?_
  refine ro_last (q9 := 9) hX dL_disconnect_8 rfl ?_
  refine ro_goto (tgt := 18) hX dL_disconnect_9 (by decide) ?_
  refine ro_iconst (v := nI 0) (q := 19) hX dL_disconnect_18 rfl rfl ?_
  exact fin_h hF (Nat.le_of_ble_eq_true rfl) (Nat.le_of_ble_eq_true rfl) dL_disconnect_19 rfl rfl

set_option maxRecDepth 20000 in
theorem h_disconnect_1 (hD : Does sz I_X2_disconnect [.ref (sz + 0), .int x] M 1 6 (.inr "java/lang/IndexOutOfBoundsException") M') : DoesH sz I_L_disconnect hh_L_disconnect [.ref (sz + 0), .int x, .ref (sz + 79)] M 1 6 (.inl (some (nI 1))) M' := by
  refine DoesH.of (L := [(0, .ref (sz + 0)), (1, .int x), (2, .ref (sz + 79))]) cw_L_disconnect (by decide +kernel) (Nat.le_of_ble_eq_true rfl) rfl ⟨rfl, (by simp), ⟨rfl, (by simp), ⟨rfl, (by simp), trivial⟩⟩⟩ (fun VV hF => ?_)
  have hX := hF.c
  refine ro_aload_n (i := 2) (q := 1) hX dL_disconnect_0 rfl rfl rfl ?_
  refine ro_iconst (v := nI 0) (q := 2) hX dL_disconnect_1 rfl rfl ?_
  refine ro_aload_n (i := 0) (q := 3) hX dL_disconnect_2 rfl rfl rfl ?_
  refine ro_iload_n (i := 1) (q := 4) hX dL_disconnect_3 rfl rfl rfl ?_
  refine ro_catchV (x := { startPc := 0, endPc := 9, handlerPc := 12, catchType := 13 }) (pre := tabH (hh_L_disconnect.take 0)) (suf := tabH (hh_L_disconnect.drop 1)) hF hD mw_X2_disconnect kl_L_35 (by decide) (fun cy => cell2 (by decide +kernel)) rfl rfl rfl (Nat.le_of_ble_eq_true rfl) ⟨Nat.le_of_ble_eq_true rfl, Nat.le_of_ble_eq_true rfl⟩ dL_disconnect_4 ⟨Nat.le_of_ble_eq_true rfl, Nat.le_of_ble_eq_true rfl⟩ rfl (by decide) (by decide) cl_L_13 ca_13 ?_ (fun q => ?_)
  · intro z hz
    simp only [tabH, hh_L_disconnect, List.take, List.map, List.mem_cons, List.not_mem_nil, or_false] at hz
  · refine ro_astore_n (i := 3) (q := 13) hX dL_disconnect_12 rfl (Nat.le_of_ble_eq_true rfl) rfl ?_
    refine ro_iconst (v := nI 1) (q := 14) hX dL_disconnect_13 rfl rfl ?_
    exact fin_h hF (Nat.le_of_ble_eq_true rfl) (Nat.le_of_ble_eq_true rfl) dL_disconnect_14 rfl rfl

set_option maxRecDepth 20000 in
theorem h_disconnect_2 (hD : Does sz I_X2_disconnect [.ref (sz + 0), .int x] M 1 6 (.inr "java/lang/IllegalStateException") M') : DoesH sz I_L_disconnect hh_L_disconnect [.ref (sz + 0), .int x, .ref (sz + 79)] M 1 6 (.inl (some (nI 2))) M' := by
  refine DoesH.of (L := [(0, .ref (sz + 0)), (1, .int x), (2, .ref (sz + 79))]) cw_L_disconnect (by decide +kernel) (Nat.le_of_ble_eq_true rfl) rfl ⟨rfl, (by simp), ⟨rfl, (by simp), ⟨rfl, (by simp), trivial⟩⟩⟩ (fun VV hF => ?_)
  have hX := hF.c
  refine ro_aload_n (i := 2) (q := 1) hX dL_disconnect_0 rfl rfl rfl ?_
  refine ro_iconst (v := nI 0) (q := 2) hX dL_disconnect_1 rfl rfl ?_
  refine ro_aload_n (i := 0) (q := 3) hX dL_disconnect_2 rfl rfl rfl ?_
  refine ro_iload_n (i := 1) (q := 4) hX dL_disconnect_3 rfl rfl rfl ?_
  refine ro_catchV (x := { startPc := 0, endPc := 9, handlerPc := 15, catchType := 17 }) (pre := tabH (hh_L_disconnect.take 1)) (suf := tabH (hh_L_disconnect.drop 2)) hF hD mw_X2_disconnect kl_L_35 (by decide) (fun cy => cell2 (by decide +kernel)) rfl rfl rfl (Nat.le_of_ble_eq_true rfl) ⟨Nat.le_of_ble_eq_true rfl, Nat.le_of_ble_eq_true rfl⟩ dL_disconnect_4 ⟨Nat.le_of_ble_eq_true rfl, Nat.le_of_ble_eq_true rfl⟩ rfl (by decide) (by decide) cl_L_17 ca_17 ?_ (fun q => ?_)
  · intro z hz
    simp only [tabH, hh_L_disconnect, List.take, List.map, List.mem_cons, List.not_mem_nil, or_false] at hz
    subst hz
    exact ⟨by decide, _, cl_L_13, by decide⟩
  · refine ro_astore_n (i := 3) (q := 16) hX dL_disconnect_15 rfl (Nat.le_of_ble_eq_true rfl) rfl ?_
    refine ro_iconst (v := nI 2) (q := 17) hX dL_disconnect_16 rfl rfl ?_
    exact fin_h hF (Nat.le_of_ble_eq_true rfl) (Nat.le_of_ble_eq_true rfl) dL_disconnect_17 rfl rfl

set_option maxRecDepth 20000 in
theorem h_reconnect (hD : Does sz I_X2_reconnect [.ref (sz + 0), .int x] M 0 0 (.inl (some (v))) M') : DoesH sz I_L_reconnect hh_L_reconnect [.ref (sz + 0), .int x, .ref (sz + 79)] M 1 6 (.inl (some (nI 0))) (M'.1, (M'.2.1, v.toInt64)) := by
  refine DoesH.of (L := [(0, .ref (sz + 0)), (1, .int x), (2, .ref (sz + 79))]) cw_L_reconnect (by decide +kernel) (Nat.le_of_ble_eq_true rfl) rfl ⟨rfl, (by simp), ⟨rfl, (by simp), ⟨rfl, (by simp), trivial⟩⟩⟩ (fun VV hF => ?_)
  have hX := hF.c
  refine ro_aload_n (i := 2) (q := 1) hX dL_reconnect_0 rfl rfl rfl ?_
  refine ro_iconst (v := nI 0) (q := 2) hX dL_reconnect_1 rfl rfl ?_
  refine ro_aload_n (i := 0) (q := 3) hX dL_reconnect_2 rfl rfl rfl ?_
  refine ro_iload_n (i := 1) (q := 4) hX dL_reconnect_3 rfl rfl rfl ?_
  refine ro_callVi (q9 := 7) hX hD mw_X2_reconnect kl_L_38 (by decide) (fun cy => cell2 (by decide +kernel)) rfl rfl rfl (Nat.le_of_ble_eq_true rfl) ⟨Nat.le_of_ble_eq_true rfl, Nat.le_of_ble_eq_true rfl⟩ dL_reconnect_4 ⟨Nat.le_of_ble_eq_true rfl, Nat.le_of_ble_eq_true rfl⟩ rfl ?_
  refine ro_i2l (v := v.toInt64) (q := 8) hX dL_reconnect_7 rfl rfl ?_
  refine ro_last (q9 := 9) hX dL_reconnect_8 rfl ?_
  refine ro_goto (tgt := 18) hX dL_reconnect_9 (by decide) ?_
  refine ro_iconst (v := nI 0) (q := 19) hX dL_reconnect_18 rfl rfl ?_
  exact fin_h hF (Nat.le_of_ble_eq_true rfl) (Nat.le_of_ble_eq_true rfl) dL_reconnect_19 rfl rfl

set_option maxRecDepth 20000 in
theorem h_reconnect_1 (hD : Does sz I_X2_reconnect [.ref (sz + 0), .int x] M 1 6 (.inr "java/lang/IndexOutOfBoundsException") M') : DoesH sz I_L_reconnect hh_L_reconnect [.ref (sz + 0), .int x, .ref (sz + 79)] M 1 6 (.inl (some (nI 1))) M' := by
  refine DoesH.of (L := [(0, .ref (sz + 0)), (1, .int x), (2, .ref (sz + 79))]) cw_L_reconnect (by decide +kernel) (Nat.le_of_ble_eq_true rfl) rfl ⟨rfl, (by simp), ⟨rfl, (by simp), ⟨rfl, (by simp), trivial⟩⟩⟩ (fun VV hF => ?_)
  have hX := hF.c
  refine ro_aload_n (i := 2) (q := 1) hX dL_reconnect_0 rfl rfl rfl ?_
  refine ro_iconst (v := nI 0) (q := 2) hX dL_reconnect_1 rfl rfl ?_
  refine ro_aload_n (i := 0) (q := 3) hX dL_reconnect_2 rfl rfl rfl ?_
  refine ro_iload_n (i := 1) (q := 4) hX dL_reconnect_3 rfl rfl rfl ?_
  refine ro_catchV (x := { startPc := 0, endPc := 9, handlerPc := 12, catchType := 13 }) (pre := tabH (hh_L_reconnect.take 0)) (suf := tabH (hh_L_reconnect.drop 1)) hF hD mw_X2_reconnect kl_L_38 (by decide) (fun cy => cell2 (by decide +kernel)) rfl rfl rfl (Nat.le_of_ble_eq_true rfl) ⟨Nat.le_of_ble_eq_true rfl, Nat.le_of_ble_eq_true rfl⟩ dL_reconnect_4 ⟨Nat.le_of_ble_eq_true rfl, Nat.le_of_ble_eq_true rfl⟩ rfl (by decide) (by decide) cl_L_13 ca_13 ?_ (fun q => ?_)
  · intro z hz
    simp only [tabH, hh_L_reconnect, List.take, List.map, List.mem_cons, List.not_mem_nil, or_false] at hz
  · refine ro_astore_n (i := 3) (q := 13) hX dL_reconnect_12 rfl (Nat.le_of_ble_eq_true rfl) rfl ?_
    refine ro_iconst (v := nI 1) (q := 14) hX dL_reconnect_13 rfl rfl ?_
    exact fin_h hF (Nat.le_of_ble_eq_true rfl) (Nat.le_of_ble_eq_true rfl) dL_reconnect_14 rfl rfl

set_option maxRecDepth 20000 in
theorem h_reconnect_2 (hD : Does sz I_X2_reconnect [.ref (sz + 0), .int x] M 1 6 (.inr "java/lang/IllegalStateException") M') : DoesH sz I_L_reconnect hh_L_reconnect [.ref (sz + 0), .int x, .ref (sz + 79)] M 1 6 (.inl (some (nI 2))) M' := by
  refine DoesH.of (L := [(0, .ref (sz + 0)), (1, .int x), (2, .ref (sz + 79))]) cw_L_reconnect (by decide +kernel) (Nat.le_of_ble_eq_true rfl) rfl ⟨rfl, (by simp), ⟨rfl, (by simp), ⟨rfl, (by simp), trivial⟩⟩⟩ (fun VV hF => ?_)
  have hX := hF.c
  refine ro_aload_n (i := 2) (q := 1) hX dL_reconnect_0 rfl rfl rfl ?_
  refine ro_iconst (v := nI 0) (q := 2) hX dL_reconnect_1 rfl rfl ?_
  refine ro_aload_n (i := 0) (q := 3) hX dL_reconnect_2 rfl rfl rfl ?_
  refine ro_iload_n (i := 1) (q := 4) hX dL_reconnect_3 rfl rfl rfl ?_
  refine ro_catchV (x := { startPc := 0, endPc := 9, handlerPc := 15, catchType := 17 }) (pre := tabH (hh_L_reconnect.take 1)) (suf := tabH (hh_L_reconnect.drop 2)) hF hD mw_X2_reconnect kl_L_38 (by decide) (fun cy => cell2 (by decide +kernel)) rfl rfl rfl (Nat.le_of_ble_eq_true rfl) ⟨Nat.le_of_ble_eq_true rfl, Nat.le_of_ble_eq_true rfl⟩ dL_reconnect_4 ⟨Nat.le_of_ble_eq_true rfl, Nat.le_of_ble_eq_true rfl⟩ rfl (by decide) (by decide) cl_L_17 ca_17 ?_ (fun q => ?_)
  · intro z hz
    simp only [tabH, hh_L_reconnect, List.take, List.map, List.mem_cons, List.not_mem_nil, or_false] at hz
    subst hz
    exact ⟨by decide, _, cl_L_13, by decide⟩
  · refine ro_astore_n (i := 3) (q := 16) hX dL_reconnect_15 rfl (Nat.le_of_ble_eq_true rfl) rfl ?_
    refine ro_iconst (v := nI 2) (q := 17) hX dL_reconnect_16 rfl rfl ?_
    exact fin_h hF (Nat.le_of_ble_eq_true rfl) (Nat.le_of_ble_eq_true rfl) dL_reconnect_17 rfl rfl

set_option maxRecDepth 20000 in
theorem h_crash (hD : Does sz I_X2_crash [.ref (sz + 0), .int x] M 0 0 (.inl (some (v))) M') : DoesH sz I_L_crash hh_L_crash [.ref (sz + 0), .int x, .ref (sz + 79)] M 1 6 (.inl (some (nI 0))) (M'.1, (M'.2.1, v.toInt64)) := by
  refine DoesH.of (L := [(0, .ref (sz + 0)), (1, .int x), (2, .ref (sz + 79))]) cw_L_crash (by decide +kernel) (Nat.le_of_ble_eq_true rfl) rfl ⟨rfl, (by simp), ⟨rfl, (by simp), ⟨rfl, (by simp), trivial⟩⟩⟩ (fun VV hF => ?_)
  have hX := hF.c
  refine ro_aload_n (i := 2) (q := 1) hX dL_crash_0 rfl rfl rfl ?_
  refine ro_iconst (v := nI 0) (q := 2) hX dL_crash_1 rfl rfl ?_
  refine ro_aload_n (i := 0) (q := 3) hX dL_crash_2 rfl rfl rfl ?_
  refine ro_iload_n (i := 1) (q := 4) hX dL_crash_3 rfl rfl rfl ?_
  refine ro_callVi (q9 := 7) hX hD mw_X2_crash kl_L_41 (by decide) (fun cy => cell2 (by decide +kernel)) rfl rfl rfl (Nat.le_of_ble_eq_true rfl) ⟨Nat.le_of_ble_eq_true rfl, Nat.le_of_ble_eq_true rfl⟩ dL_crash_4 ⟨Nat.le_of_ble_eq_true rfl, Nat.le_of_ble_eq_true rfl⟩ rfl ?_
  refine ro_i2l (v := v.toInt64) (q := 8) hX dL_crash_7 rfl rfl ?_
  refine ro_last (q9 := 9) hX dL_crash_8 rfl ?_
  refine ro_goto (tgt := 18) hX dL_crash_9 (by decide) ?_
  refine ro_iconst (v := nI 0) (q := 19) hX dL_crash_18 rfl rfl ?_
  exact fin_h hF (Nat.le_of_ble_eq_true rfl) (Nat.le_of_ble_eq_true rfl) dL_crash_19 rfl rfl

set_option maxRecDepth 20000 in
theorem h_crash_1 (hD : Does sz I_X2_crash [.ref (sz + 0), .int x] M 1 6 (.inr "java/lang/IndexOutOfBoundsException") M') : DoesH sz I_L_crash hh_L_crash [.ref (sz + 0), .int x, .ref (sz + 79)] M 1 6 (.inl (some (nI 1))) M' := by
  refine DoesH.of (L := [(0, .ref (sz + 0)), (1, .int x), (2, .ref (sz + 79))]) cw_L_crash (by decide +kernel) (Nat.le_of_ble_eq_true rfl) rfl ⟨rfl, (by simp), ⟨rfl, (by simp), ⟨rfl, (by simp), trivial⟩⟩⟩ (fun VV hF => ?_)
  have hX := hF.c
  refine ro_aload_n (i := 2) (q := 1) hX dL_crash_0 rfl rfl rfl ?_
  refine ro_iconst (v := nI 0) (q := 2) hX dL_crash_1 rfl rfl ?_
  refine ro_aload_n (i := 0) (q := 3) hX dL_crash_2 rfl rfl rfl ?_
  refine ro_iload_n (i := 1) (q := 4) hX dL_crash_3 rfl rfl rfl ?_
  refine ro_catchV (x := { startPc := 0, endPc := 9, handlerPc := 12, catchType := 13 }) (pre := tabH (hh_L_crash.take 0)) (suf := tabH (hh_L_crash.drop 1)) hF hD mw_X2_crash kl_L_41 (by decide) (fun cy => cell2 (by decide +kernel)) rfl rfl rfl (Nat.le_of_ble_eq_true rfl) ⟨Nat.le_of_ble_eq_true rfl, Nat.le_of_ble_eq_true rfl⟩ dL_crash_4 ⟨Nat.le_of_ble_eq_true rfl, Nat.le_of_ble_eq_true rfl⟩ rfl (by decide) (by decide) cl_L_13 ca_13 ?_ (fun q => ?_)
  · intro z hz
    simp only [tabH, hh_L_crash, List.take, List.map, List.mem_cons, List.not_mem_nil, or_false] at hz
  · refine ro_astore_n (i := 3) (q := 13) hX dL_crash_12 rfl (Nat.le_of_ble_eq_true rfl) rfl ?_
    refine ro_iconst (v := nI 1) (q := 14) hX dL_crash_13 rfl rfl ?_
    exact fin_h hF (Nat.le_of_ble_eq_true rfl) (Nat.le_of_ble_eq_true rfl) dL_crash_14 rfl rfl

set_option maxRecDepth 20000 in
theorem h_crash_2 (hD : Does sz I_X2_crash [.ref (sz + 0), .int x] M 1 6 (.inr "java/lang/IllegalStateException") M') : DoesH sz I_L_crash hh_L_crash [.ref (sz + 0), .int x, .ref (sz + 79)] M 1 6 (.inl (some (nI 2))) M' := by
  refine DoesH.of (L := [(0, .ref (sz + 0)), (1, .int x), (2, .ref (sz + 79))]) cw_L_crash (by decide +kernel) (Nat.le_of_ble_eq_true rfl) rfl ⟨rfl, (by simp), ⟨rfl, (by simp), ⟨rfl, (by simp), trivial⟩⟩⟩ (fun VV hF => ?_)
  have hX := hF.c
  refine ro_aload_n (i := 2) (q := 1) hX dL_crash_0 rfl rfl rfl ?_
  refine ro_iconst (v := nI 0) (q := 2) hX dL_crash_1 rfl rfl ?_
  refine ro_aload_n (i := 0) (q := 3) hX dL_crash_2 rfl rfl rfl ?_
  refine ro_iload_n (i := 1) (q := 4) hX dL_crash_3 rfl rfl rfl ?_
  refine ro_catchV (x := { startPc := 0, endPc := 9, handlerPc := 15, catchType := 17 }) (pre := tabH (hh_L_crash.take 1)) (suf := tabH (hh_L_crash.drop 2)) hF hD mw_X2_crash kl_L_41 (by decide) (fun cy => cell2 (by decide +kernel)) rfl rfl rfl (Nat.le_of_ble_eq_true rfl) ⟨Nat.le_of_ble_eq_true rfl, Nat.le_of_ble_eq_true rfl⟩ dL_crash_4 ⟨Nat.le_of_ble_eq_true rfl, Nat.le_of_ble_eq_true rfl⟩ rfl (by decide) (by decide) cl_L_17 ca_17 ?_ (fun q => ?_)
  · intro z hz
    simp only [tabH, hh_L_crash, List.take, List.map, List.mem_cons, List.not_mem_nil, or_false] at hz
    subst hz
    exact ⟨by decide, _, cl_L_13, by decide⟩
  · refine ro_astore_n (i := 3) (q := 16) hX dL_crash_15 rfl (Nat.le_of_ble_eq_true rfl) rfl ?_
    refine ro_iconst (v := nI 2) (q := 17) hX dL_crash_16 rfl rfl ?_
    exact fin_h hF (Nat.le_of_ble_eq_true rfl) (Nat.le_of_ble_eq_true rfl) dL_crash_17 rfl rfl

set_option maxRecDepth 20000 in
theorem h_pass (hD : Does sz I_X2_pass [.ref (sz + 0), .int x] M 0 0 (.inl (some (v))) M') : DoesH sz I_L_pass hh_L_pass [.ref (sz + 0), .int x, .ref (sz + 79)] M 1 6 (.inl (some (nI 0))) (M'.1, (M'.2.1, v.toInt64)) := by
  refine DoesH.of (L := [(0, .ref (sz + 0)), (1, .int x), (2, .ref (sz + 79))]) cw_L_pass (by decide +kernel) (Nat.le_of_ble_eq_true rfl) rfl ⟨rfl, (by simp), ⟨rfl, (by simp), ⟨rfl, (by simp), trivial⟩⟩⟩ (fun VV hF => ?_)
  have hX := hF.c
  refine ro_aload_n (i := 2) (q := 1) hX dL_pass_0 rfl rfl rfl ?_
  refine ro_iconst (v := nI 0) (q := 2) hX dL_pass_1 rfl rfl ?_
  refine ro_aload_n (i := 0) (q := 3) hX dL_pass_2 rfl rfl rfl ?_
  refine ro_iload_n (i := 1) (q := 4) hX dL_pass_3 rfl rfl rfl ?_
  refine ro_callVi (q9 := 7) hX hD mw_X2_pass kl_L_44 (by decide) (fun cy => cell2 (by decide +kernel)) rfl rfl rfl (Nat.le_of_ble_eq_true rfl) ⟨Nat.le_of_ble_eq_true rfl, Nat.le_of_ble_eq_true rfl⟩ dL_pass_4 ⟨Nat.le_of_ble_eq_true rfl, Nat.le_of_ble_eq_true rfl⟩ rfl ?_
  refine ro_i2l (v := v.toInt64) (q := 8) hX dL_pass_7 rfl rfl ?_
  refine ro_last (q9 := 9) hX dL_pass_8 rfl ?_
  refine ro_goto (tgt := 18) hX dL_pass_9 (by decide) ?_
  refine ro_iconst (v := nI 0) (q := 19) hX dL_pass_18 rfl rfl ?_
  exact fin_h hF (Nat.le_of_ble_eq_true rfl) (Nat.le_of_ble_eq_true rfl) dL_pass_19 rfl rfl

set_option maxRecDepth 20000 in
theorem h_pass_1 (hD : Does sz I_X2_pass [.ref (sz + 0), .int x] M 1 6 (.inr "java/lang/IllegalArgumentException") M') : DoesH sz I_L_pass hh_L_pass [.ref (sz + 0), .int x, .ref (sz + 79)] M 1 6 (.inl (some (nI 1))) M' := by
  refine DoesH.of (L := [(0, .ref (sz + 0)), (1, .int x), (2, .ref (sz + 79))]) cw_L_pass (by decide +kernel) (Nat.le_of_ble_eq_true rfl) rfl ⟨rfl, (by simp), ⟨rfl, (by simp), ⟨rfl, (by simp), trivial⟩⟩⟩ (fun VV hF => ?_)
  have hX := hF.c
  refine ro_aload_n (i := 2) (q := 1) hX dL_pass_0 rfl rfl rfl ?_
  refine ro_iconst (v := nI 0) (q := 2) hX dL_pass_1 rfl rfl ?_
  refine ro_aload_n (i := 0) (q := 3) hX dL_pass_2 rfl rfl rfl ?_
  refine ro_iload_n (i := 1) (q := 4) hX dL_pass_3 rfl rfl rfl ?_
  refine ro_catchV (x := { startPc := 0, endPc := 9, handlerPc := 12, catchType := 15 }) (pre := tabH (hh_L_pass.take 0)) (suf := tabH (hh_L_pass.drop 1)) hF hD mw_X2_pass kl_L_44 (by decide) (fun cy => cell2 (by decide +kernel)) rfl rfl rfl (Nat.le_of_ble_eq_true rfl) ⟨Nat.le_of_ble_eq_true rfl, Nat.le_of_ble_eq_true rfl⟩ dL_pass_4 ⟨Nat.le_of_ble_eq_true rfl, Nat.le_of_ble_eq_true rfl⟩ rfl (by decide) (by decide) cl_L_15 ca_15 ?_ (fun q => ?_)
  · intro z hz
    simp only [tabH, hh_L_pass, List.take, List.map, List.mem_cons, List.not_mem_nil, or_false] at hz
  · refine ro_astore_n (i := 3) (q := 13) hX dL_pass_12 rfl (Nat.le_of_ble_eq_true rfl) rfl ?_
    refine ro_iconst (v := nI 1) (q := 14) hX dL_pass_13 rfl rfl ?_
    exact fin_h hF (Nat.le_of_ble_eq_true rfl) (Nat.le_of_ble_eq_true rfl) dL_pass_14 rfl rfl

set_option maxRecDepth 20000 in
theorem h_pass_2 (hD : Does sz I_X2_pass [.ref (sz + 0), .int x] M 1 6 (.inr "java/lang/IllegalStateException") M') : DoesH sz I_L_pass hh_L_pass [.ref (sz + 0), .int x, .ref (sz + 79)] M 1 6 (.inl (some (nI 2))) M' := by
  refine DoesH.of (L := [(0, .ref (sz + 0)), (1, .int x), (2, .ref (sz + 79))]) cw_L_pass (by decide +kernel) (Nat.le_of_ble_eq_true rfl) rfl ⟨rfl, (by simp), ⟨rfl, (by simp), ⟨rfl, (by simp), trivial⟩⟩⟩ (fun VV hF => ?_)
  have hX := hF.c
  refine ro_aload_n (i := 2) (q := 1) hX dL_pass_0 rfl rfl rfl ?_
  refine ro_iconst (v := nI 0) (q := 2) hX dL_pass_1 rfl rfl ?_
  refine ro_aload_n (i := 0) (q := 3) hX dL_pass_2 rfl rfl rfl ?_
  refine ro_iload_n (i := 1) (q := 4) hX dL_pass_3 rfl rfl rfl ?_
  refine ro_catchV (x := { startPc := 0, endPc := 9, handlerPc := 15, catchType := 17 }) (pre := tabH (hh_L_pass.take 1)) (suf := tabH (hh_L_pass.drop 2)) hF hD mw_X2_pass kl_L_44 (by decide) (fun cy => cell2 (by decide +kernel)) rfl rfl rfl (Nat.le_of_ble_eq_true rfl) ⟨Nat.le_of_ble_eq_true rfl, Nat.le_of_ble_eq_true rfl⟩ dL_pass_4 ⟨Nat.le_of_ble_eq_true rfl, Nat.le_of_ble_eq_true rfl⟩ rfl (by decide) (by decide) cl_L_17 ca_17 ?_ (fun q => ?_)
  · intro z hz
    simp only [tabH, hh_L_pass, List.take, List.map, List.mem_cons, List.not_mem_nil, or_false] at hz
    subst hz
    exact ⟨by decide, _, cl_L_15, by decide⟩
  · refine ro_astore_n (i := 3) (q := 16) hX dL_pass_15 rfl (Nat.le_of_ble_eq_true rfl) rfl ?_
    refine ro_iconst (v := nI 2) (q := 17) hX dL_pass_16 rfl rfl ?_
    exact fin_h hF (Nat.le_of_ble_eq_true rfl) (Nat.le_of_ble_eq_true rfl) dL_pass_17 rfl rfl

set_option maxRecDepth 20000 in
theorem h_setTransferTime (hD : Does sz I_X2_setTransferTime [.ref (sz + 0), .int x] M 0 0 (.inl (some (v))) M') : DoesH sz I_L_setTransferTime hh_L_setTransferTime [.ref (sz + 0), .int x, .ref (sz + 79)] M 1 6 (.inl (some (nI 0))) (M'.1, (M'.2.1, v.toInt64)) := by
  refine DoesH.of (L := [(0, .ref (sz + 0)), (1, .int x), (2, .ref (sz + 79))]) cw_L_setTransferTime (by decide +kernel) (Nat.le_of_ble_eq_true rfl) rfl ⟨rfl, (by simp), ⟨rfl, (by simp), ⟨rfl, (by simp), trivial⟩⟩⟩ (fun VV hF => ?_)
  have hX := hF.c
  refine ro_aload_n (i := 2) (q := 1) hX dL_setTransferTime_0 rfl rfl rfl ?_
  refine ro_iconst (v := nI 0) (q := 2) hX dL_setTransferTime_1 rfl rfl ?_
  refine ro_aload_n (i := 0) (q := 3) hX dL_setTransferTime_2 rfl rfl rfl ?_
  refine ro_iload_n (i := 1) (q := 4) hX dL_setTransferTime_3 rfl rfl rfl ?_
  refine ro_callVi (q9 := 7) hX hD mw_X2_setTransferTime kl_L_47 (by decide) (fun cy => cell2 (by decide +kernel)) rfl rfl rfl (Nat.le_of_ble_eq_true rfl) ⟨Nat.le_of_ble_eq_true rfl, Nat.le_of_ble_eq_true rfl⟩ dL_setTransferTime_4 ⟨Nat.le_of_ble_eq_true rfl, Nat.le_of_ble_eq_true rfl⟩ rfl ?_
  refine ro_i2l (v := v.toInt64) (q := 8) hX dL_setTransferTime_7 rfl rfl ?_
  refine ro_last (q9 := 9) hX dL_setTransferTime_8 rfl ?_
  refine ro_goto (tgt := 15) hX dL_setTransferTime_9 (by decide) ?_
  refine ro_iconst (v := nI 0) (q := 16) hX dL_setTransferTime_15 rfl rfl ?_
  exact fin_h hF (Nat.le_of_ble_eq_true rfl) (Nat.le_of_ble_eq_true rfl) dL_setTransferTime_16 rfl rfl

set_option maxRecDepth 20000 in
theorem h_setTransferTime_1 (hD : Does sz I_X2_setTransferTime [.ref (sz + 0), .int x] M 1 6 (.inr "java/lang/IllegalArgumentException") M') : DoesH sz I_L_setTransferTime hh_L_setTransferTime [.ref (sz + 0), .int x, .ref (sz + 79)] M 1 6 (.inl (some (nI 1))) M' := by
  refine DoesH.of (L := [(0, .ref (sz + 0)), (1, .int x), (2, .ref (sz + 79))]) cw_L_setTransferTime (by decide +kernel) (Nat.le_of_ble_eq_true rfl) rfl ⟨rfl, (by simp), ⟨rfl, (by simp), ⟨rfl, (by simp), trivial⟩⟩⟩ (fun VV hF => ?_)
  have hX := hF.c
  refine ro_aload_n (i := 2) (q := 1) hX dL_setTransferTime_0 rfl rfl rfl ?_
  refine ro_iconst (v := nI 0) (q := 2) hX dL_setTransferTime_1 rfl rfl ?_
  refine ro_aload_n (i := 0) (q := 3) hX dL_setTransferTime_2 rfl rfl rfl ?_
  refine ro_iload_n (i := 1) (q := 4) hX dL_setTransferTime_3 rfl rfl rfl ?_
  refine ro_catchV (x := { startPc := 0, endPc := 9, handlerPc := 12, catchType := 15 }) (pre := tabH (hh_L_setTransferTime.take 0)) (suf := tabH (hh_L_setTransferTime.drop 1)) hF hD mw_X2_setTransferTime kl_L_47 (by decide) (fun cy => cell2 (by decide +kernel)) rfl rfl rfl (Nat.le_of_ble_eq_true rfl) ⟨Nat.le_of_ble_eq_true rfl, Nat.le_of_ble_eq_true rfl⟩ dL_setTransferTime_4 ⟨Nat.le_of_ble_eq_true rfl, Nat.le_of_ble_eq_true rfl⟩ rfl (by decide) (by decide) cl_L_15 ca_15 ?_ (fun q => ?_)
  · intro z hz
    simp only [tabH, hh_L_setTransferTime, List.take, List.map, List.mem_cons, List.not_mem_nil, or_false] at hz
  · refine ro_astore_n (i := 3) (q := 13) hX dL_setTransferTime_12 rfl (Nat.le_of_ble_eq_true rfl) rfl ?_
    refine ro_iconst (v := nI 1) (q := 14) hX dL_setTransferTime_13 rfl rfl ?_
    exact fin_h hF (Nat.le_of_ble_eq_true rfl) (Nat.le_of_ble_eq_true rfl) dL_setTransferTime_14 rfl rfl

set_option maxRecDepth 20000 in
theorem h_appendText (hD : Does sz I_X2_appendText [.ref (sz + 0), .int x] M 0 0 (.inl (some (v))) M') : DoesH sz I_L_appendText hh_L_appendText [.ref (sz + 0), .int x, .ref (sz + 79)] M 1 6 (.inl (some (nI 0))) (M'.1, (M'.2.1, v.toInt64)) := by
  refine DoesH.of (L := [(0, .ref (sz + 0)), (1, .int x), (2, .ref (sz + 79))]) cw_L_appendText (by decide +kernel) (Nat.le_of_ble_eq_true rfl) rfl ⟨rfl, (by simp), ⟨rfl, (by simp), ⟨rfl, (by simp), trivial⟩⟩⟩ (fun VV hF => ?_)
  have hX := hF.c
  refine ro_aload_n (i := 2) (q := 1) hX dL_appendText_0 rfl rfl rfl ?_
  refine ro_iconst (v := nI 0) (q := 2) hX dL_appendText_1 rfl rfl ?_
  refine ro_aload_n (i := 0) (q := 3) hX dL_appendText_2 rfl rfl rfl ?_
  refine ro_iload_n (i := 1) (q := 4) hX dL_appendText_3 rfl rfl rfl ?_
  refine ro_callVi (q9 := 7) hX hD mw_X2_appendText kl_L_50 (by decide) (fun cy => cell2 (by decide +kernel)) rfl rfl rfl (Nat.le_of_ble_eq_true rfl) ⟨Nat.le_of_ble_eq_true rfl, Nat.le_of_ble_eq_true rfl⟩ dL_appendText_4 ⟨Nat.le_of_ble_eq_true rfl, Nat.le_of_ble_eq_true rfl⟩ rfl ?_
  refine ro_i2l (v := v.toInt64) (q := 8) hX dL_appendText_7 rfl rfl ?_
  refine ro_last (q9 := 9) hX dL_appendText_8 rfl ?_
  refine ro_goto (tgt := 18) hX dL_appendText_9 (by decide) ?_
  refine ro_iconst (v := nI 0) (q := 19) hX dL_appendText_18 rfl rfl ?_
  exact fin_h hF (Nat.le_of_ble_eq_true rfl) (Nat.le_of_ble_eq_true rfl) dL_appendText_19 rfl rfl

set_option maxRecDepth 20000 in
theorem h_appendText_1 (hD : Does sz I_X2_appendText [.ref (sz + 0), .int x] M 1 6 (.inr "java/lang/IllegalArgumentException") M') : DoesH sz I_L_appendText hh_L_appendText [.ref (sz + 0), .int x, .ref (sz + 79)] M 1 6 (.inl (some (nI 1))) M' := by
  refine DoesH.of (L := [(0, .ref (sz + 0)), (1, .int x), (2, .ref (sz + 79))]) cw_L_appendText (by decide +kernel) (Nat.le_of_ble_eq_true rfl) rfl ⟨rfl, (by simp), ⟨rfl, (by simp), ⟨rfl, (by simp), trivial⟩⟩⟩ (fun VV hF => ?_)
  have hX := hF.c
  refine ro_aload_n (i := 2) (q := 1) hX dL_appendText_0 rfl rfl rfl ?_
  refine ro_iconst (v := nI 0) (q := 2) hX dL_appendText_1 rfl rfl ?_
  refine ro_aload_n (i := 0) (q := 3) hX dL_appendText_2 rfl rfl rfl ?_
  refine ro_iload_n (i := 1) (q := 4) hX dL_appendText_3 rfl rfl rfl ?_
  refine ro_catchV (x := { startPc := 0, endPc := 9, handlerPc := 12, catchType := 15 }) (pre := tabH (hh_L_appendText.take 0)) (suf := tabH (hh_L_appendText.drop 1)) hF hD mw_X2_appendText kl_L_50 (by decide) (fun cy => cell2 (by decide +kernel)) rfl rfl rfl (Nat.le_of_ble_eq_true rfl) ⟨Nat.le_of_ble_eq_true rfl, Nat.le_of_ble_eq_true rfl⟩ dL_appendText_4 ⟨Nat.le_of_ble_eq_true rfl, Nat.le_of_ble_eq_true rfl⟩ rfl (by decide) (by decide) cl_L_15 ca_15 ?_ (fun q => ?_)
  · intro z hz
    simp only [tabH, hh_L_appendText, List.take, List.map, List.mem_cons, List.not_mem_nil, or_false] at hz
  · refine ro_astore_n (i := 3) (q := 13) hX dL_appendText_12 rfl (Nat.le_of_ble_eq_true rfl) rfl ?_
    refine ro_iconst (v := nI 1) (q := 14) hX dL_appendText_13 rfl rfl ?_
    exact fin_h hF (Nat.le_of_ble_eq_true rfl) (Nat.le_of_ble_eq_true rfl) dL_appendText_14 rfl rfl

set_option maxRecDepth 20000 in
theorem h_appendText_2 (hD : Does sz I_X2_appendText [.ref (sz + 0), .int x] M 1 6 (.inr "java/lang/IllegalStateException") M') : DoesH sz I_L_appendText hh_L_appendText [.ref (sz + 0), .int x, .ref (sz + 79)] M 1 6 (.inl (some (nI 2))) M' := by
  refine DoesH.of (L := [(0, .ref (sz + 0)), (1, .int x), (2, .ref (sz + 79))]) cw_L_appendText (by decide +kernel) (Nat.le_of_ble_eq_true rfl) rfl ⟨rfl, (by simp), ⟨rfl, (by simp), ⟨rfl, (by simp), trivial⟩⟩⟩ (fun VV hF => ?_)
  have hX := hF.c
  refine ro_aload_n (i := 2) (q := 1) hX dL_appendText_0 rfl rfl rfl ?_
  refine ro_iconst (v := nI 0) (q := 2) hX dL_appendText_1 rfl rfl ?_
  refine ro_aload_n (i := 0) (q := 3) hX dL_appendText_2 rfl rfl rfl ?_
  refine ro_iload_n (i := 1) (q := 4) hX dL_appendText_3 rfl rfl rfl ?_
  refine ro_catchV (x := { startPc := 0, endPc := 9, handlerPc := 15, catchType := 17 }) (pre := tabH (hh_L_appendText.take 1)) (suf := tabH (hh_L_appendText.drop 2)) hF hD mw_X2_appendText kl_L_50 (by decide) (fun cy => cell2 (by decide +kernel)) rfl rfl rfl (Nat.le_of_ble_eq_true rfl) ⟨Nat.le_of_ble_eq_true rfl, Nat.le_of_ble_eq_true rfl⟩ dL_appendText_4 ⟨Nat.le_of_ble_eq_true rfl, Nat.le_of_ble_eq_true rfl⟩ rfl (by decide) (by decide) cl_L_17 ca_17 ?_ (fun q => ?_)
  · intro z hz
    simp only [tabH, hh_L_appendText, List.take, List.map, List.mem_cons, List.not_mem_nil, or_false] at hz
    subst hz
    exact ⟨by decide, _, cl_L_15, by decide⟩
  · refine ro_astore_n (i := 3) (q := 16) hX dL_appendText_15 rfl (Nat.le_of_ble_eq_true rfl) rfl ?_
    refine ro_iconst (v := nI 2) (q := 17) hX dL_appendText_16 rfl rfl ?_
    exact fin_h hF (Nat.le_of_ble_eq_true rfl) (Nat.le_of_ble_eq_true rfl) dL_appendText_17 rfl rfl

set_option maxRecDepth 20000 in
theorem h_runText (hD : Does sz I_X2_runText [.ref (sz + 0)] M 0 0 (.inl (some (v))) M') : DoesH sz I_L_runText hh_L_runText [.ref (sz + 0), .ref (sz + 79)] M 1 6 (.inl (some (nI 0))) (M'.1, (M'.2.1, v.toInt64)) := by
  refine DoesH.of (L := [(0, .ref (sz + 0)), (1, .ref (sz + 79))]) cw_L_runText (by decide +kernel) (Nat.le_of_ble_eq_true rfl) rfl ⟨rfl, (by simp), ⟨rfl, (by simp), trivial⟩⟩ (fun VV hF => ?_)
  have hX := hF.c
  refine ro_aload_n (i := 1) (q := 1) hX dL_runText_0 rfl rfl rfl ?_
  refine ro_iconst (v := nI 0) (q := 2) hX dL_runText_1 rfl rfl ?_
  refine ro_aload_n (i := 0) (q := 3) hX dL_runText_2 rfl rfl rfl ?_
  refine ro_callVi (q9 := 6) hX hD mw_X2_runText kl_L_53 (by decide) (fun cy => cell2 (by decide +kernel)) rfl rfl rfl (Nat.le_of_ble_eq_true rfl) ⟨Nat.le_of_ble_eq_true rfl, Nat.le_of_ble_eq_true rfl⟩ dL_runText_3 ⟨Nat.le_of_ble_eq_true rfl, Nat.le_of_ble_eq_true rfl⟩ rfl ?_
  refine ro_i2l (v := v.toInt64) (q := 7) hX dL_runText_6 rfl rfl ?_
  refine ro_last (q9 := 8) hX dL_runText_7 rfl ?_
  refine ro_goto (tgt := 14) hX dL_runText_8 (by decide) ?_
  refine ro_iconst (v := nI 0) (q := 15) hX dL_runText_14 rfl rfl ?_
  exact fin_h hF (Nat.le_of_ble_eq_true rfl) (Nat.le_of_ble_eq_true rfl) dL_runText_15 rfl rfl

set_option maxRecDepth 20000 in
theorem h_runText_1 (hD : Does sz I_X2_runText [.ref (sz + 0)] M 1 6 (.inr "java/lang/IllegalStateException") M') : DoesH sz I_L_runText hh_L_runText [.ref (sz + 0), .ref (sz + 79)] M 1 6 (.inl (some (nI 1))) M' := by
  refine DoesH.of (L := [(0, .ref (sz + 0)), (1, .ref (sz + 79))]) cw_L_runText (by decide +kernel) (Nat.le_of_ble_eq_true rfl) rfl ⟨rfl, (by simp), ⟨rfl, (by simp), trivial⟩⟩ (fun VV hF => ?_)
  have hX := hF.c
  refine ro_aload_n (i := 1) (q := 1) hX dL_runText_0 rfl rfl rfl ?_
  refine ro_iconst (v := nI 0) (q := 2) hX dL_runText_1 rfl rfl ?_
  refine ro_aload_n (i := 0) (q := 3) hX dL_runText_2 rfl rfl rfl ?_
  refine ro_catchV (x := { startPc := 0, endPc := 8, handlerPc := 11, catchType := 17 }) (pre := tabH (hh_L_runText.take 0)) (suf := tabH (hh_L_runText.drop 1)) hF hD mw_X2_runText kl_L_53 (by decide) (fun cy => cell2 (by decide +kernel)) rfl rfl rfl (Nat.le_of_ble_eq_true rfl) ⟨Nat.le_of_ble_eq_true rfl, Nat.le_of_ble_eq_true rfl⟩ dL_runText_3 ⟨Nat.le_of_ble_eq_true rfl, Nat.le_of_ble_eq_true rfl⟩ rfl (by decide) (by decide) cl_L_17 ca_17 ?_ (fun q => ?_)
  · intro z hz
    simp only [tabH, hh_L_runText, List.take, List.map, List.mem_cons, List.not_mem_nil, or_false] at hz
  · refine ro_astore_n (i := 2) (q := 12) hX dL_runText_11 rfl (Nat.le_of_ble_eq_true rfl) rfl ?_
    refine ro_iconst (v := nI 1) (q := 13) hX dL_runText_12 rfl rfl ?_
    exact fin_h hF (Nat.le_of_ble_eq_true rfl) (Nat.le_of_ble_eq_true rfl) dL_runText_13 rfl rfl

set_option maxRecDepth 20000 in
theorem h_undo (hD : Does sz I_X2_undo [.ref (sz + 0)] M 0 0 (.inl (some (v))) M') : DoesH sz I_L_undo hh_L_undo [.ref (sz + 0), .ref (sz + 79)] M 1 6 (.inl (some (nI 0))) (M'.1, (M'.2.1, v.toInt64)) := by
  refine DoesH.of (L := [(0, .ref (sz + 0)), (1, .ref (sz + 79))]) cw_L_undo (by decide +kernel) (Nat.le_of_ble_eq_true rfl) rfl ⟨rfl, (by simp), ⟨rfl, (by simp), trivial⟩⟩ (fun VV hF => ?_)
  have hX := hF.c
  refine ro_aload_n (i := 1) (q := 1) hX dL_undo_0 rfl rfl rfl ?_
  refine ro_iconst (v := nI 0) (q := 2) hX dL_undo_1 rfl rfl ?_
  refine ro_aload_n (i := 0) (q := 3) hX dL_undo_2 rfl rfl rfl ?_
  refine ro_callVi (q9 := 6) hX hD mw_X2_undo kl_L_57 (by decide) (fun cy => cell2 (by decide +kernel)) rfl rfl rfl (Nat.le_of_ble_eq_true rfl) ⟨Nat.le_of_ble_eq_true rfl, Nat.le_of_ble_eq_true rfl⟩ dL_undo_3 ⟨Nat.le_of_ble_eq_true rfl, Nat.le_of_ble_eq_true rfl⟩ rfl ?_
  refine ro_i2l (v := v.toInt64) (q := 7) hX dL_undo_6 rfl rfl ?_
  refine ro_last (q9 := 8) hX dL_undo_7 rfl ?_
  refine ro_goto (tgt := 14) hX dL_undo_8 (by decide) ?_
  refine ro_iconst (v := nI 0) (q := 15) hX dL_undo_14 rfl rfl ?_
  exact fin_h hF (Nat.le_of_ble_eq_true rfl) (Nat.le_of_ble_eq_true rfl) dL_undo_15 rfl rfl

set_option maxRecDepth 20000 in
theorem h_undo_1 (hD : Does sz I_X2_undo [.ref (sz + 0)] M 1 6 (.inr "java/lang/IllegalStateException") M') : DoesH sz I_L_undo hh_L_undo [.ref (sz + 0), .ref (sz + 79)] M 1 6 (.inl (some (nI 1))) M' := by
  refine DoesH.of (L := [(0, .ref (sz + 0)), (1, .ref (sz + 79))]) cw_L_undo (by decide +kernel) (Nat.le_of_ble_eq_true rfl) rfl ⟨rfl, (by simp), ⟨rfl, (by simp), trivial⟩⟩ (fun VV hF => ?_)
  have hX := hF.c
  refine ro_aload_n (i := 1) (q := 1) hX dL_undo_0 rfl rfl rfl ?_
  refine ro_iconst (v := nI 0) (q := 2) hX dL_undo_1 rfl rfl ?_
  refine ro_aload_n (i := 0) (q := 3) hX dL_undo_2 rfl rfl rfl ?_
  refine ro_catchV (x := { startPc := 0, endPc := 8, handlerPc := 11, catchType := 17 }) (pre := tabH (hh_L_undo.take 0)) (suf := tabH (hh_L_undo.drop 1)) hF hD mw_X2_undo kl_L_57 (by decide) (fun cy => cell2 (by decide +kernel)) rfl rfl rfl (Nat.le_of_ble_eq_true rfl) ⟨Nat.le_of_ble_eq_true rfl, Nat.le_of_ble_eq_true rfl⟩ dL_undo_3 ⟨Nat.le_of_ble_eq_true rfl, Nat.le_of_ble_eq_true rfl⟩ rfl (by decide) (by decide) cl_L_17 ca_17 ?_ (fun q => ?_)
  · intro z hz
    simp only [tabH, hh_L_undo, List.take, List.map, List.mem_cons, List.not_mem_nil, or_false] at hz
  · refine ro_astore_n (i := 2) (q := 12) hX dL_undo_11 rfl (Nat.le_of_ble_eq_true rfl) rfl ?_
    refine ro_iconst (v := nI 1) (q := 13) hX dL_undo_12 rfl rfl ?_
    exact fin_h hF (Nat.le_of_ble_eq_true rfl) (Nat.le_of_ble_eq_true rfl) dL_undo_13 rfl rfl

set_option maxRecDepth 20000 in
theorem h_save (hD : Does sz I_X2_save [.ref (sz + 0), .int x] M 0 0 (.inl (some (v))) M') : DoesH sz I_L_save hh_L_save [.ref (sz + 0), .int x, .ref (sz + 79)] M 1 6 (.inl (some (nI 0))) (M'.1, (M'.2.1, v.toInt64)) := by
  refine DoesH.of (L := [(0, .ref (sz + 0)), (1, .int x), (2, .ref (sz + 79))]) cw_L_save (by decide +kernel) (Nat.le_of_ble_eq_true rfl) rfl ⟨rfl, (by simp), ⟨rfl, (by simp), ⟨rfl, (by simp), trivial⟩⟩⟩ (fun VV hF => ?_)
  have hX := hF.c
  refine ro_aload_n (i := 2) (q := 1) hX dL_save_0 rfl rfl rfl ?_
  refine ro_iconst (v := nI 0) (q := 2) hX dL_save_1 rfl rfl ?_
  refine ro_aload_n (i := 0) (q := 3) hX dL_save_2 rfl rfl rfl ?_
  refine ro_iload_n (i := 1) (q := 4) hX dL_save_3 rfl rfl rfl ?_
  refine ro_callVi (q9 := 7) hX hD mw_X2_save kl_L_60 (by decide) (fun cy => cell2 (by decide +kernel)) rfl rfl rfl (Nat.le_of_ble_eq_true rfl) ⟨Nat.le_of_ble_eq_true rfl, Nat.le_of_ble_eq_true rfl⟩ dL_save_4 ⟨Nat.le_of_ble_eq_true rfl, Nat.le_of_ble_eq_true rfl⟩ rfl ?_
  refine ro_i2l (v := v.toInt64) (q := 8) hX dL_save_7 rfl rfl ?_
  refine ro_last (q9 := 9) hX dL_save_8 rfl ?_
  refine ro_goto (tgt := 15) hX dL_save_9 (by decide) ?_
  refine ro_iconst (v := nI 0) (q := 16) hX dL_save_15 rfl rfl ?_
  exact fin_h hF (Nat.le_of_ble_eq_true rfl) (Nat.le_of_ble_eq_true rfl) dL_save_16 rfl rfl

set_option maxRecDepth 20000 in
theorem h_save_1 (hD : Does sz I_X2_save [.ref (sz + 0), .int x] M 1 6 (.inr "java/lang/IndexOutOfBoundsException") M') : DoesH sz I_L_save hh_L_save [.ref (sz + 0), .int x, .ref (sz + 79)] M 1 6 (.inl (some (nI 1))) M' := by
  refine DoesH.of (L := [(0, .ref (sz + 0)), (1, .int x), (2, .ref (sz + 79))]) cw_L_save (by decide +kernel) (Nat.le_of_ble_eq_true rfl) rfl ⟨rfl, (by simp), ⟨rfl, (by simp), ⟨rfl, (by simp), trivial⟩⟩⟩ (fun VV hF => ?_)
  have hX := hF.c
  refine ro_aload_n (i := 2) (q := 1) hX dL_save_0 rfl rfl rfl ?_
  refine ro_iconst (v := nI 0) (q := 2) hX dL_save_1 rfl rfl ?_
  refine ro_aload_n (i := 0) (q := 3) hX dL_save_2 rfl rfl rfl ?_
  refine ro_iload_n (i := 1) (q := 4) hX dL_save_3 rfl rfl rfl ?_
  refine ro_catchV (x := { startPc := 0, endPc := 9, handlerPc := 12, catchType := 13 }) (pre := tabH (hh_L_save.take 0)) (suf := tabH (hh_L_save.drop 1)) hF hD mw_X2_save kl_L_60 (by decide) (fun cy => cell2 (by decide +kernel)) rfl rfl rfl (Nat.le_of_ble_eq_true rfl) ⟨Nat.le_of_ble_eq_true rfl, Nat.le_of_ble_eq_true rfl⟩ dL_save_4 ⟨Nat.le_of_ble_eq_true rfl, Nat.le_of_ble_eq_true rfl⟩ rfl (by decide) (by decide) cl_L_13 ca_13 ?_ (fun q => ?_)
  · intro z hz
    simp only [tabH, hh_L_save, List.take, List.map, List.mem_cons, List.not_mem_nil, or_false] at hz
  · refine ro_astore_n (i := 3) (q := 13) hX dL_save_12 rfl (Nat.le_of_ble_eq_true rfl) rfl ?_
    refine ro_iconst (v := nI 1) (q := 14) hX dL_save_13 rfl rfl ?_
    exact fin_h hF (Nat.le_of_ble_eq_true rfl) (Nat.le_of_ble_eq_true rfl) dL_save_14 rfl rfl

set_option maxRecDepth 20000 in
theorem h_restore (hD : Does sz I_X2_restore [.ref (sz + 0), .int x] M 0 0 (.inl (some (v))) M') : DoesH sz I_L_restore hh_L_restore [.ref (sz + 0), .int x, .ref (sz + 79)] M 1 6 (.inl (some (nI 0))) (M'.1, (M'.2.1, v.toInt64)) := by
  refine DoesH.of (L := [(0, .ref (sz + 0)), (1, .int x), (2, .ref (sz + 79))]) cw_L_restore (by decide +kernel) (Nat.le_of_ble_eq_true rfl) rfl ⟨rfl, (by simp), ⟨rfl, (by simp), ⟨rfl, (by simp), trivial⟩⟩⟩ (fun VV hF => ?_)
  have hX := hF.c
  refine ro_aload_n (i := 2) (q := 1) hX dL_restore_0 rfl rfl rfl ?_
  refine ro_iconst (v := nI 0) (q := 2) hX dL_restore_1 rfl rfl ?_
  refine ro_aload_n (i := 0) (q := 3) hX dL_restore_2 rfl rfl rfl ?_
  refine ro_iload_n (i := 1) (q := 4) hX dL_restore_3 rfl rfl rfl ?_
  refine ro_callVi (q9 := 7) hX hD mw_X2_restore kl_L_63 (by decide) (fun cy => cell2 (by decide +kernel)) rfl rfl rfl (Nat.le_of_ble_eq_true rfl) ⟨Nat.le_of_ble_eq_true rfl, Nat.le_of_ble_eq_true rfl⟩ dL_restore_4 ⟨Nat.le_of_ble_eq_true rfl, Nat.le_of_ble_eq_true rfl⟩ rfl ?_
  refine ro_i2l (v := v.toInt64) (q := 8) hX dL_restore_7 rfl rfl ?_
  refine ro_last (q9 := 9) hX dL_restore_8 rfl ?_
  refine ro_goto (tgt := 18) hX dL_restore_9 (by decide) ?_
  refine ro_iconst (v := nI 0) (q := 19) hX dL_restore_18 rfl rfl ?_
  exact fin_h hF (Nat.le_of_ble_eq_true rfl) (Nat.le_of_ble_eq_true rfl) dL_restore_19 rfl rfl

set_option maxRecDepth 20000 in
theorem h_restore_1 (hD : Does sz I_X2_restore [.ref (sz + 0), .int x] M 1 6 (.inr "java/lang/IndexOutOfBoundsException") M') : DoesH sz I_L_restore hh_L_restore [.ref (sz + 0), .int x, .ref (sz + 79)] M 1 6 (.inl (some (nI 1))) M' := by
  refine DoesH.of (L := [(0, .ref (sz + 0)), (1, .int x), (2, .ref (sz + 79))]) cw_L_restore (by decide +kernel) (Nat.le_of_ble_eq_true rfl) rfl ⟨rfl, (by simp), ⟨rfl, (by simp), ⟨rfl, (by simp), trivial⟩⟩⟩ (fun VV hF => ?_)
  have hX := hF.c
  refine ro_aload_n (i := 2) (q := 1) hX dL_restore_0 rfl rfl rfl ?_
  refine ro_iconst (v := nI 0) (q := 2) hX dL_restore_1 rfl rfl ?_
  refine ro_aload_n (i := 0) (q := 3) hX dL_restore_2 rfl rfl rfl ?_
  refine ro_iload_n (i := 1) (q := 4) hX dL_restore_3 rfl rfl rfl ?_
  refine ro_catchV (x := { startPc := 0, endPc := 9, handlerPc := 12, catchType := 13 }) (pre := tabH (hh_L_restore.take 0)) (suf := tabH (hh_L_restore.drop 1)) hF hD mw_X2_restore kl_L_63 (by decide) (fun cy => cell2 (by decide +kernel)) rfl rfl rfl (Nat.le_of_ble_eq_true rfl) ⟨Nat.le_of_ble_eq_true rfl, Nat.le_of_ble_eq_true rfl⟩ dL_restore_4 ⟨Nat.le_of_ble_eq_true rfl, Nat.le_of_ble_eq_true rfl⟩ rfl (by decide) (by decide) cl_L_13 ca_13 ?_ (fun q => ?_)
  · intro z hz
    simp only [tabH, hh_L_restore, List.take, List.map, List.mem_cons, List.not_mem_nil, or_false] at hz
  · refine ro_astore_n (i := 3) (q := 13) hX dL_restore_12 rfl (Nat.le_of_ble_eq_true rfl) rfl ?_
    refine ro_iconst (v := nI 1) (q := 14) hX dL_restore_13 rfl rfl ?_
    exact fin_h hF (Nat.le_of_ble_eq_true rfl) (Nat.le_of_ble_eq_true rfl) dL_restore_14 rfl rfl

set_option maxRecDepth 20000 in
theorem h_restore_2 (hD : Does sz I_X2_restore [.ref (sz + 0), .int x] M 1 6 (.inr "java/lang/IllegalStateException") M') : DoesH sz I_L_restore hh_L_restore [.ref (sz + 0), .int x, .ref (sz + 79)] M 1 6 (.inl (some (nI 2))) M' := by
  refine DoesH.of (L := [(0, .ref (sz + 0)), (1, .int x), (2, .ref (sz + 79))]) cw_L_restore (by decide +kernel) (Nat.le_of_ble_eq_true rfl) rfl ⟨rfl, (by simp), ⟨rfl, (by simp), ⟨rfl, (by simp), trivial⟩⟩⟩ (fun VV hF => ?_)
  have hX := hF.c
  refine ro_aload_n (i := 2) (q := 1) hX dL_restore_0 rfl rfl rfl ?_
  refine ro_iconst (v := nI 0) (q := 2) hX dL_restore_1 rfl rfl ?_
  refine ro_aload_n (i := 0) (q := 3) hX dL_restore_2 rfl rfl rfl ?_
  refine ro_iload_n (i := 1) (q := 4) hX dL_restore_3 rfl rfl rfl ?_
  refine ro_catchV (x := { startPc := 0, endPc := 9, handlerPc := 15, catchType := 17 }) (pre := tabH (hh_L_restore.take 1)) (suf := tabH (hh_L_restore.drop 2)) hF hD mw_X2_restore kl_L_63 (by decide) (fun cy => cell2 (by decide +kernel)) rfl rfl rfl (Nat.le_of_ble_eq_true rfl) ⟨Nat.le_of_ble_eq_true rfl, Nat.le_of_ble_eq_true rfl⟩ dL_restore_4 ⟨Nat.le_of_ble_eq_true rfl, Nat.le_of_ble_eq_true rfl⟩ rfl (by decide) (by decide) cl_L_17 ca_17 ?_ (fun q => ?_)
  · intro z hz
    simp only [tabH, hh_L_restore, List.take, List.map, List.mem_cons, List.not_mem_nil, or_false] at hz
    subst hz
    exact ⟨by decide, _, cl_L_13, by decide⟩
  · refine ro_astore_n (i := 3) (q := 16) hX dL_restore_15 rfl (Nat.le_of_ble_eq_true rfl) rfl ?_
    refine ro_iconst (v := nI 2) (q := 17) hX dL_restore_16 rfl rfl ?_
    exact fin_h hF (Nat.le_of_ble_eq_true rfl) (Nat.le_of_ble_eq_true rfl) dL_restore_17 rfl rfl

set_option maxRecDepth 20000 in
theorem h_status (hD : Does sz I_X2_status [.ref (sz + 0), .int x] M 0 0 (.inl (some (v))) M') : DoesH sz I_L_status hh_L_status [.ref (sz + 0), .int x, .ref (sz + 79)] M 1 6 (.inl (some (nI 0))) (M'.1, (M'.2.1, v.toInt64)) := by
  refine DoesH.of (L := [(0, .ref (sz + 0)), (1, .int x), (2, .ref (sz + 79))]) cw_L_status (by decide +kernel) (Nat.le_of_ble_eq_true rfl) rfl ⟨rfl, (by simp), ⟨rfl, (by simp), ⟨rfl, (by simp), trivial⟩⟩⟩ (fun VV hF => ?_)
  have hX := hF.c
  refine ro_aload_n (i := 2) (q := 1) hX dL_status_0 rfl rfl rfl ?_
  refine ro_iconst (v := nI 0) (q := 2) hX dL_status_1 rfl rfl ?_
  refine ro_aload_n (i := 0) (q := 3) hX dL_status_2 rfl rfl rfl ?_
  refine ro_iload_n (i := 1) (q := 4) hX dL_status_3 rfl rfl rfl ?_
  refine ro_callVi (q9 := 7) hX hD mw_X2_status kl_L_66 (by decide) (fun cy => cell2 (by decide +kernel)) rfl rfl rfl (Nat.le_of_ble_eq_true rfl) ⟨Nat.le_of_ble_eq_true rfl, Nat.le_of_ble_eq_true rfl⟩ dL_status_4 ⟨Nat.le_of_ble_eq_true rfl, Nat.le_of_ble_eq_true rfl⟩ rfl ?_
  refine ro_i2l (v := v.toInt64) (q := 8) hX dL_status_7 rfl rfl ?_
  refine ro_last (q9 := 9) hX dL_status_8 rfl ?_
  refine ro_goto (tgt := 15) hX dL_status_9 (by decide) ?_
  refine ro_iconst (v := nI 0) (q := 16) hX dL_status_15 rfl rfl ?_
  exact fin_h hF (Nat.le_of_ble_eq_true rfl) (Nat.le_of_ble_eq_true rfl) dL_status_16 rfl rfl

set_option maxRecDepth 20000 in
theorem h_status_1 (hD : Does sz I_X2_status [.ref (sz + 0), .int x] M 1 6 (.inr "java/lang/IndexOutOfBoundsException") M') : DoesH sz I_L_status hh_L_status [.ref (sz + 0), .int x, .ref (sz + 79)] M 1 6 (.inl (some (nI 1))) M' := by
  refine DoesH.of (L := [(0, .ref (sz + 0)), (1, .int x), (2, .ref (sz + 79))]) cw_L_status (by decide +kernel) (Nat.le_of_ble_eq_true rfl) rfl ⟨rfl, (by simp), ⟨rfl, (by simp), ⟨rfl, (by simp), trivial⟩⟩⟩ (fun VV hF => ?_)
  have hX := hF.c
  refine ro_aload_n (i := 2) (q := 1) hX dL_status_0 rfl rfl rfl ?_
  refine ro_iconst (v := nI 0) (q := 2) hX dL_status_1 rfl rfl ?_
  refine ro_aload_n (i := 0) (q := 3) hX dL_status_2 rfl rfl rfl ?_
  refine ro_iload_n (i := 1) (q := 4) hX dL_status_3 rfl rfl rfl ?_
  refine ro_catchV (x := { startPc := 0, endPc := 9, handlerPc := 12, catchType := 13 }) (pre := tabH (hh_L_status.take 0)) (suf := tabH (hh_L_status.drop 1)) hF hD mw_X2_status kl_L_66 (by decide) (fun cy => cell2 (by decide +kernel)) rfl rfl rfl (Nat.le_of_ble_eq_true rfl) ⟨Nat.le_of_ble_eq_true rfl, Nat.le_of_ble_eq_true rfl⟩ dL_status_4 ⟨Nat.le_of_ble_eq_true rfl, Nat.le_of_ble_eq_true rfl⟩ rfl (by decide) (by decide) cl_L_13 ca_13 ?_ (fun q => ?_)
  · intro z hz
    simp only [tabH, hh_L_status, List.take, List.map, List.mem_cons, List.not_mem_nil, or_false] at hz
  · refine ro_astore_n (i := 3) (q := 13) hX dL_status_12 rfl (Nat.le_of_ble_eq_true rfl) rfl ?_
    refine ro_iconst (v := nI 1) (q := 14) hX dL_status_13 rfl rfl ?_
    exact fin_h hF (Nat.le_of_ble_eq_true rfl) (Nat.le_of_ble_eq_true rfl) dL_status_14 rfl rfl

set_option maxRecDepth 20000 in
theorem h_copies (hD : Does sz I_X2_copies [.ref (sz + 0), .int x] M 0 0 (.inl (some (v))) M') : DoesH sz I_L_copies hh_L_copies [.ref (sz + 0), .int x, .ref (sz + 79)] M 1 6 (.inl (some (nI 0))) (M'.1, (M'.2.1, v.toInt64)) := by
  refine DoesH.of (L := [(0, .ref (sz + 0)), (1, .int x), (2, .ref (sz + 79))]) cw_L_copies (by decide +kernel) (Nat.le_of_ble_eq_true rfl) rfl ⟨rfl, (by simp), ⟨rfl, (by simp), ⟨rfl, (by simp), trivial⟩⟩⟩ (fun VV hF => ?_)
  have hX := hF.c
  refine ro_aload_n (i := 2) (q := 1) hX dL_copies_0 rfl rfl rfl ?_
  refine ro_iconst (v := nI 0) (q := 2) hX dL_copies_1 rfl rfl ?_
  refine ro_aload_n (i := 0) (q := 3) hX dL_copies_2 rfl rfl rfl ?_
  refine ro_iload_n (i := 1) (q := 4) hX dL_copies_3 rfl rfl rfl ?_
  refine ro_callVi (q9 := 7) hX hD mw_X2_copies kl_L_69 (by decide) (fun cy => cell2 (by decide +kernel)) rfl rfl rfl (Nat.le_of_ble_eq_true rfl) ⟨Nat.le_of_ble_eq_true rfl, Nat.le_of_ble_eq_true rfl⟩ dL_copies_4 ⟨Nat.le_of_ble_eq_true rfl, Nat.le_of_ble_eq_true rfl⟩ rfl ?_
  refine ro_i2l (v := v.toInt64) (q := 8) hX dL_copies_7 rfl rfl ?_
  refine ro_last (q9 := 9) hX dL_copies_8 rfl ?_
  refine ro_goto (tgt := 15) hX dL_copies_9 (by decide) ?_
  refine ro_iconst (v := nI 0) (q := 16) hX dL_copies_15 rfl rfl ?_
  exact fin_h hF (Nat.le_of_ble_eq_true rfl) (Nat.le_of_ble_eq_true rfl) dL_copies_16 rfl rfl

set_option maxRecDepth 20000 in
theorem h_copies_1 (hD : Does sz I_X2_copies [.ref (sz + 0), .int x] M 1 6 (.inr "java/lang/IndexOutOfBoundsException") M') : DoesH sz I_L_copies hh_L_copies [.ref (sz + 0), .int x, .ref (sz + 79)] M 1 6 (.inl (some (nI 1))) M' := by
  refine DoesH.of (L := [(0, .ref (sz + 0)), (1, .int x), (2, .ref (sz + 79))]) cw_L_copies (by decide +kernel) (Nat.le_of_ble_eq_true rfl) rfl ⟨rfl, (by simp), ⟨rfl, (by simp), ⟨rfl, (by simp), trivial⟩⟩⟩ (fun VV hF => ?_)
  have hX := hF.c
  refine ro_aload_n (i := 2) (q := 1) hX dL_copies_0 rfl rfl rfl ?_
  refine ro_iconst (v := nI 0) (q := 2) hX dL_copies_1 rfl rfl ?_
  refine ro_aload_n (i := 0) (q := 3) hX dL_copies_2 rfl rfl rfl ?_
  refine ro_iload_n (i := 1) (q := 4) hX dL_copies_3 rfl rfl rfl ?_
  refine ro_catchV (x := { startPc := 0, endPc := 9, handlerPc := 12, catchType := 13 }) (pre := tabH (hh_L_copies.take 0)) (suf := tabH (hh_L_copies.drop 1)) hF hD mw_X2_copies kl_L_69 (by decide) (fun cy => cell2 (by decide +kernel)) rfl rfl rfl (Nat.le_of_ble_eq_true rfl) ⟨Nat.le_of_ble_eq_true rfl, Nat.le_of_ble_eq_true rfl⟩ dL_copies_4 ⟨Nat.le_of_ble_eq_true rfl, Nat.le_of_ble_eq_true rfl⟩ rfl (by decide) (by decide) cl_L_13 ca_13 ?_ (fun q => ?_)
  · intro z hz
    simp only [tabH, hh_L_copies, List.take, List.map, List.mem_cons, List.not_mem_nil, or_false] at hz
  · refine ro_astore_n (i := 3) (q := 13) hX dL_copies_12 rfl (Nat.le_of_ble_eq_true rfl) rfl ?_
    refine ro_iconst (v := nI 1) (q := 14) hX dL_copies_13 rfl rfl ?_
    exact fin_h hF (Nat.le_of_ble_eq_true rfl) (Nat.le_of_ble_eq_true rfl) dL_copies_14 rfl rfl

set_option maxRecDepth 20000 in
theorem h_countStatus (hD : Does sz I_X2_countStatus [.ref (sz + 0), .int x] M 0 0 (.inl (some (v))) M') : DoesH sz I_L_countStatus hh_L_countStatus [.ref (sz + 0), .int x, .ref (sz + 79)] M 1 6 (.inl (some (nI 0))) (M'.1, (M'.2.1, v.toInt64)) := by
  refine DoesH.of (L := [(0, .ref (sz + 0)), (1, .int x), (2, .ref (sz + 79))]) cw_L_countStatus (by decide +kernel) (Nat.le_of_ble_eq_true rfl) rfl ⟨rfl, (by simp), ⟨rfl, (by simp), ⟨rfl, (by simp), trivial⟩⟩⟩ (fun VV hF => ?_)
  have hX := hF.c
  refine ro_aload_n (i := 2) (q := 1) hX dL_countStatus_0 rfl rfl rfl ?_
  refine ro_iconst (v := nI 0) (q := 2) hX dL_countStatus_1 rfl rfl ?_
  refine ro_aload_n (i := 0) (q := 3) hX dL_countStatus_2 rfl rfl rfl ?_
  refine ro_iload_n (i := 1) (q := 4) hX dL_countStatus_3 rfl rfl rfl ?_
  refine ro_callVi (q9 := 7) hX hD mw_X2_countStatus kl_L_72 (by decide) (fun cy => cell2 (by decide +kernel)) rfl rfl rfl (Nat.le_of_ble_eq_true rfl) ⟨Nat.le_of_ble_eq_true rfl, Nat.le_of_ble_eq_true rfl⟩ dL_countStatus_4 ⟨Nat.le_of_ble_eq_true rfl, Nat.le_of_ble_eq_true rfl⟩ rfl ?_
  refine ro_i2l (v := v.toInt64) (q := 8) hX dL_countStatus_7 rfl rfl ?_
  refine ro_last (q9 := 9) hX dL_countStatus_8 rfl ?_
  refine ro_goto (tgt := 15) hX dL_countStatus_9 (by decide) ?_
  refine ro_iconst (v := nI 0) (q := 16) hX dL_countStatus_15 rfl rfl ?_
  exact fin_h hF (Nat.le_of_ble_eq_true rfl) (Nat.le_of_ble_eq_true rfl) dL_countStatus_16 rfl rfl

set_option maxRecDepth 20000 in
theorem h_countStatus_1 (hD : Does sz I_X2_countStatus [.ref (sz + 0), .int x] M 1 6 (.inr "java/lang/IllegalArgumentException") M') : DoesH sz I_L_countStatus hh_L_countStatus [.ref (sz + 0), .int x, .ref (sz + 79)] M 1 6 (.inl (some (nI 1))) M' := by
  refine DoesH.of (L := [(0, .ref (sz + 0)), (1, .int x), (2, .ref (sz + 79))]) cw_L_countStatus (by decide +kernel) (Nat.le_of_ble_eq_true rfl) rfl ⟨rfl, (by simp), ⟨rfl, (by simp), ⟨rfl, (by simp), trivial⟩⟩⟩ (fun VV hF => ?_)
  have hX := hF.c
  refine ro_aload_n (i := 2) (q := 1) hX dL_countStatus_0 rfl rfl rfl ?_
  refine ro_iconst (v := nI 0) (q := 2) hX dL_countStatus_1 rfl rfl ?_
  refine ro_aload_n (i := 0) (q := 3) hX dL_countStatus_2 rfl rfl rfl ?_
  refine ro_iload_n (i := 1) (q := 4) hX dL_countStatus_3 rfl rfl rfl ?_
  refine ro_catchV (x := { startPc := 0, endPc := 9, handlerPc := 12, catchType := 15 }) (pre := tabH (hh_L_countStatus.take 0)) (suf := tabH (hh_L_countStatus.drop 1)) hF hD mw_X2_countStatus kl_L_72 (by decide) (fun cy => cell2 (by decide +kernel)) rfl rfl rfl (Nat.le_of_ble_eq_true rfl) ⟨Nat.le_of_ble_eq_true rfl, Nat.le_of_ble_eq_true rfl⟩ dL_countStatus_4 ⟨Nat.le_of_ble_eq_true rfl, Nat.le_of_ble_eq_true rfl⟩ rfl (by decide) (by decide) cl_L_15 ca_15 ?_ (fun q => ?_)
  · intro z hz
    simp only [tabH, hh_L_countStatus, List.take, List.map, List.mem_cons, List.not_mem_nil, or_false] at hz
  · refine ro_astore_n (i := 3) (q := 13) hX dL_countStatus_12 rfl (Nat.le_of_ble_eq_true rfl) rfl ?_
    refine ro_iconst (v := nI 1) (q := 14) hX dL_countStatus_13 rfl rfl ?_
    exact fin_h hF (Nat.le_of_ble_eq_true rfl) (Nat.le_of_ble_eq_true rfl) dL_countStatus_14 rfl rfl

set_option maxRecDepth 20000 in
theorem h_mode (hD : Does sz I_X2_mode [.ref (sz + 0), .int x] M 0 0 (.inl (some (v))) M') : DoesH sz I_L_mode hh_L_mode [.ref (sz + 0), .int x, .ref (sz + 79)] M 1 6 (.inl (some (nI 0))) (M'.1, (M'.2.1, v.toInt64)) := by
  refine DoesH.of (L := [(0, .ref (sz + 0)), (1, .int x), (2, .ref (sz + 79))]) cw_L_mode (by decide +kernel) (Nat.le_of_ble_eq_true rfl) rfl ⟨rfl, (by simp), ⟨rfl, (by simp), ⟨rfl, (by simp), trivial⟩⟩⟩ (fun VV hF => ?_)
  have hX := hF.c
  refine ro_aload_n (i := 2) (q := 1) hX dL_mode_0 rfl rfl rfl ?_
  refine ro_iconst (v := nI 0) (q := 2) hX dL_mode_1 rfl rfl ?_
  refine ro_aload_n (i := 0) (q := 3) hX dL_mode_2 rfl rfl rfl ?_
  refine ro_iload_n (i := 1) (q := 4) hX dL_mode_3 rfl rfl rfl ?_
  refine ro_callVi (q9 := 7) hX hD mw_X2_mode kl_L_75 (by decide) (fun cy => cell2 (by decide +kernel)) rfl rfl rfl (Nat.le_of_ble_eq_true rfl) ⟨Nat.le_of_ble_eq_true rfl, Nat.le_of_ble_eq_true rfl⟩ dL_mode_4 ⟨Nat.le_of_ble_eq_true rfl, Nat.le_of_ble_eq_true rfl⟩ rfl ?_
  refine ro_i2l (v := v.toInt64) (q := 8) hX dL_mode_7 rfl rfl ?_
  refine ro_last (q9 := 9) hX dL_mode_8 rfl ?_
  refine ro_goto (tgt := 15) hX dL_mode_9 (by decide) ?_
  refine ro_iconst (v := nI 0) (q := 16) hX dL_mode_15 rfl rfl ?_
  exact fin_h hF (Nat.le_of_ble_eq_true rfl) (Nat.le_of_ble_eq_true rfl) dL_mode_16 rfl rfl

set_option maxRecDepth 20000 in
theorem h_mode_1 (hD : Does sz I_X2_mode [.ref (sz + 0), .int x] M 1 6 (.inr "java/lang/IndexOutOfBoundsException") M') : DoesH sz I_L_mode hh_L_mode [.ref (sz + 0), .int x, .ref (sz + 79)] M 1 6 (.inl (some (nI 1))) M' := by
  refine DoesH.of (L := [(0, .ref (sz + 0)), (1, .int x), (2, .ref (sz + 79))]) cw_L_mode (by decide +kernel) (Nat.le_of_ble_eq_true rfl) rfl ⟨rfl, (by simp), ⟨rfl, (by simp), ⟨rfl, (by simp), trivial⟩⟩⟩ (fun VV hF => ?_)
  have hX := hF.c
  refine ro_aload_n (i := 2) (q := 1) hX dL_mode_0 rfl rfl rfl ?_
  refine ro_iconst (v := nI 0) (q := 2) hX dL_mode_1 rfl rfl ?_
  refine ro_aload_n (i := 0) (q := 3) hX dL_mode_2 rfl rfl rfl ?_
  refine ro_iload_n (i := 1) (q := 4) hX dL_mode_3 rfl rfl rfl ?_
  refine ro_catchV (x := { startPc := 0, endPc := 9, handlerPc := 12, catchType := 13 }) (pre := tabH (hh_L_mode.take 0)) (suf := tabH (hh_L_mode.drop 1)) hF hD mw_X2_mode kl_L_75 (by decide) (fun cy => cell2 (by decide +kernel)) rfl rfl rfl (Nat.le_of_ble_eq_true rfl) ⟨Nat.le_of_ble_eq_true rfl, Nat.le_of_ble_eq_true rfl⟩ dL_mode_4 ⟨Nat.le_of_ble_eq_true rfl, Nat.le_of_ble_eq_true rfl⟩ rfl (by decide) (by decide) cl_L_13 ca_13 ?_ (fun q => ?_)
  · intro z hz
    simp only [tabH, hh_L_mode, List.take, List.map, List.mem_cons, List.not_mem_nil, or_false] at hz
  · refine ro_astore_n (i := 3) (q := 13) hX dL_mode_12 rfl (Nat.le_of_ble_eq_true rfl) rfl ?_
    refine ro_iconst (v := nI 1) (q := 14) hX dL_mode_13 rfl rfl ?_
    exact fin_h hF (Nat.le_of_ble_eq_true rfl) (Nat.le_of_ble_eq_true rfl) dL_mode_14 rfl rfl

set_option maxRecDepth 20000 in
theorem h_isConnected {b : Bool} (hD : Does sz I_X2_isConnected [.ref (sz + 0), .int x] M 0 0 (.inl (some (bi b))) M') : DoesH sz I_L_isConnected hh_L_isConnected [.ref (sz + 0), .int x, .ref (sz + 79)] M 1 6 (.inl (some (nI 0))) (M'.1, (M'.2.1, (bif b then 1 else 0))) := by
  refine DoesH.of (L := [(0, .ref (sz + 0)), (1, .int x), (2, .ref (sz + 79))]) cw_L_isConnected (by decide +kernel) (Nat.le_of_ble_eq_true rfl) rfl ⟨rfl, (by simp), ⟨rfl, (by simp), ⟨rfl, (by simp), trivial⟩⟩⟩ (fun VV hF => ?_)
  have hX := hF.c
  refine ro_aload_n (i := 2) (q := 1) hX dL_isConnected_0 rfl rfl rfl ?_
  refine ro_iconst (v := nI 0) (q := 2) hX dL_isConnected_1 rfl rfl ?_
  refine ro_aload_n (i := 0) (q := 3) hX dL_isConnected_2 rfl rfl rfl ?_
  refine ro_iload_n (i := 1) (q := 4) hX dL_isConnected_3 rfl rfl rfl ?_
  refine ro_callVi (q9 := 7) hX hD mw_X2_isConnected kl_L_78 (by decide) (fun cy => cell2 (by decide +kernel)) rfl rfl rfl (Nat.le_of_ble_eq_true rfl) ⟨Nat.le_of_ble_eq_true rfl, Nat.le_of_ble_eq_true rfl⟩ dL_isConnected_4 ⟨Nat.le_of_ble_eq_true rfl, Nat.le_of_ble_eq_true rfl⟩ rfl ?_
  cases b
  · refine ro_ifb_eq (tgt := 14) (q := 10) hX dL_isConnected_7 (by decide) rfl (fun _ => ?_) (fun q => by cases q)
    refine ro_lconst (v := 0) (q := 15) hX dL_isConnected_14 rfl rfl ?_
    refine ro_last (q9 := 16) hX dL_isConnected_15 rfl ?_
    refine ro_goto (tgt := 22) hX dL_isConnected_16 (by decide) ?_
    refine ro_iconst (v := nI 0) (q := 23) hX dL_isConnected_22 rfl rfl ?_
    exact fin_h hF (Nat.le_of_ble_eq_true rfl) (Nat.le_of_ble_eq_true rfl) dL_isConnected_23 rfl rfl
  · refine ro_ifb_eq (tgt := 14) (q := 10) hX dL_isConnected_7 (by decide) rfl (fun q => by cases q) (fun _ => ?_)
    refine ro_lconst (v := 1) (q := 11) hX dL_isConnected_10 rfl rfl ?_
    refine ro_goto (tgt := 15) hX dL_isConnected_11 (by decide) ?_
    refine ro_last (q9 := 16) hX dL_isConnected_15 rfl ?_
    refine ro_goto (tgt := 22) hX dL_isConnected_16 (by decide) ?_
    refine ro_iconst (v := nI 0) (q := 23) hX dL_isConnected_22 rfl rfl ?_
    exact fin_h hF (Nat.le_of_ble_eq_true rfl) (Nat.le_of_ble_eq_true rfl) dL_isConnected_23 rfl rfl

set_option maxRecDepth 20000 in
theorem h_isConnected_1 (hD : Does sz I_X2_isConnected [.ref (sz + 0), .int x] M 1 6 (.inr "java/lang/IndexOutOfBoundsException") M') : DoesH sz I_L_isConnected hh_L_isConnected [.ref (sz + 0), .int x, .ref (sz + 79)] M 1 6 (.inl (some (nI 1))) M' := by
  refine DoesH.of (L := [(0, .ref (sz + 0)), (1, .int x), (2, .ref (sz + 79))]) cw_L_isConnected (by decide +kernel) (Nat.le_of_ble_eq_true rfl) rfl ⟨rfl, (by simp), ⟨rfl, (by simp), ⟨rfl, (by simp), trivial⟩⟩⟩ (fun VV hF => ?_)
  have hX := hF.c
  refine ro_aload_n (i := 2) (q := 1) hX dL_isConnected_0 rfl rfl rfl ?_
  refine ro_iconst (v := nI 0) (q := 2) hX dL_isConnected_1 rfl rfl ?_
  refine ro_aload_n (i := 0) (q := 3) hX dL_isConnected_2 rfl rfl rfl ?_
  refine ro_iload_n (i := 1) (q := 4) hX dL_isConnected_3 rfl rfl rfl ?_
  refine ro_catchV (x := { startPc := 0, endPc := 16, handlerPc := 19, catchType := 13 }) (pre := tabH (hh_L_isConnected.take 0)) (suf := tabH (hh_L_isConnected.drop 1)) hF hD mw_X2_isConnected kl_L_78 (by decide) (fun cy => cell2 (by decide +kernel)) rfl rfl rfl (Nat.le_of_ble_eq_true rfl) ⟨Nat.le_of_ble_eq_true rfl, Nat.le_of_ble_eq_true rfl⟩ dL_isConnected_4 ⟨Nat.le_of_ble_eq_true rfl, Nat.le_of_ble_eq_true rfl⟩ rfl (by decide) (by decide) cl_L_13 ca_13 ?_ (fun q => ?_)
  · intro z hz
    simp only [tabH, hh_L_isConnected, List.take, List.map, List.mem_cons, List.not_mem_nil, or_false] at hz
  · refine ro_astore_n (i := 3) (q := 20) hX dL_isConnected_19 rfl (Nat.le_of_ble_eq_true rfl) rfl ?_
    refine ro_iconst (v := nI 1) (q := 21) hX dL_isConnected_20 rfl rfl ?_
    exact fin_h hF (Nat.le_of_ble_eq_true rfl) (Nat.le_of_ble_eq_true rfl) dL_isConnected_21 rfl rfl

set_option maxRecDepth 20000 in
theorem h_usedRoom (hD : Does sz I_X2_usedRoom [.ref (sz + 0), .int x] M 0 0 (.inl (some (v))) M') : DoesH sz I_L_usedRoom hh_L_usedRoom [.ref (sz + 0), .int x, .ref (sz + 79)] M 1 6 (.inl (some (nI 0))) (M'.1, (M'.2.1, v.toInt64)) := by
  refine DoesH.of (L := [(0, .ref (sz + 0)), (1, .int x), (2, .ref (sz + 79))]) cw_L_usedRoom (by decide +kernel) (Nat.le_of_ble_eq_true rfl) rfl ⟨rfl, (by simp), ⟨rfl, (by simp), ⟨rfl, (by simp), trivial⟩⟩⟩ (fun VV hF => ?_)
  have hX := hF.c
  refine ro_aload_n (i := 2) (q := 1) hX dL_usedRoom_0 rfl rfl rfl ?_
  refine ro_iconst (v := nI 0) (q := 2) hX dL_usedRoom_1 rfl rfl ?_
  refine ro_aload_n (i := 0) (q := 3) hX dL_usedRoom_2 rfl rfl rfl ?_
  refine ro_iload_n (i := 1) (q := 4) hX dL_usedRoom_3 rfl rfl rfl ?_
  refine ro_callVi (q9 := 7) hX hD mw_X2_usedRoom kl_L_82 (by decide) (fun cy => cell2 (by decide +kernel)) rfl rfl rfl (Nat.le_of_ble_eq_true rfl) ⟨Nat.le_of_ble_eq_true rfl, Nat.le_of_ble_eq_true rfl⟩ dL_usedRoom_4 ⟨Nat.le_of_ble_eq_true rfl, Nat.le_of_ble_eq_true rfl⟩ rfl ?_
  refine ro_i2l (v := v.toInt64) (q := 8) hX dL_usedRoom_7 rfl rfl ?_
  refine ro_last (q9 := 9) hX dL_usedRoom_8 rfl ?_
  refine ro_goto (tgt := 15) hX dL_usedRoom_9 (by decide) ?_
  refine ro_iconst (v := nI 0) (q := 16) hX dL_usedRoom_15 rfl rfl ?_
  exact fin_h hF (Nat.le_of_ble_eq_true rfl) (Nat.le_of_ble_eq_true rfl) dL_usedRoom_16 rfl rfl

set_option maxRecDepth 20000 in
theorem h_usedRoom_1 (hD : Does sz I_X2_usedRoom [.ref (sz + 0), .int x] M 1 6 (.inr "java/lang/IndexOutOfBoundsException") M') : DoesH sz I_L_usedRoom hh_L_usedRoom [.ref (sz + 0), .int x, .ref (sz + 79)] M 1 6 (.inl (some (nI 1))) M' := by
  refine DoesH.of (L := [(0, .ref (sz + 0)), (1, .int x), (2, .ref (sz + 79))]) cw_L_usedRoom (by decide +kernel) (Nat.le_of_ble_eq_true rfl) rfl ⟨rfl, (by simp), ⟨rfl, (by simp), ⟨rfl, (by simp), trivial⟩⟩⟩ (fun VV hF => ?_)
  have hX := hF.c
  refine ro_aload_n (i := 2) (q := 1) hX dL_usedRoom_0 rfl rfl rfl ?_
  refine ro_iconst (v := nI 0) (q := 2) hX dL_usedRoom_1 rfl rfl ?_
  refine ro_aload_n (i := 0) (q := 3) hX dL_usedRoom_2 rfl rfl rfl ?_
  refine ro_iload_n (i := 1) (q := 4) hX dL_usedRoom_3 rfl rfl rfl ?_
  refine ro_catchV (x := { startPc := 0, endPc := 9, handlerPc := 12, catchType := 13 }) (pre := tabH (hh_L_usedRoom.take 0)) (suf := tabH (hh_L_usedRoom.drop 1)) hF hD mw_X2_usedRoom kl_L_82 (by decide) (fun cy => cell2 (by decide +kernel)) rfl rfl rfl (Nat.le_of_ble_eq_true rfl) ⟨Nat.le_of_ble_eq_true rfl, Nat.le_of_ble_eq_true rfl⟩ dL_usedRoom_4 ⟨Nat.le_of_ble_eq_true rfl, Nat.le_of_ble_eq_true rfl⟩ rfl (by decide) (by decide) cl_L_13 ca_13 ?_ (fun q => ?_)
  · intro z hz
    simp only [tabH, hh_L_usedRoom, List.take, List.map, List.mem_cons, List.not_mem_nil, or_false] at hz
  · refine ro_astore_n (i := 3) (q := 13) hX dL_usedRoom_12 rfl (Nat.le_of_ble_eq_true rfl) rfl ?_
    refine ro_iconst (v := nI 1) (q := 14) hX dL_usedRoom_13 rfl rfl ?_
    exact fin_h hF (Nat.le_of_ble_eq_true rfl) (Nat.le_of_ble_eq_true rfl) dL_usedRoom_14 rfl rfl

set_option maxRecDepth 20000 in
theorem h_freeRoom (hD : Does sz I_X2_freeRoom [.ref (sz + 0), .int x] M 0 0 (.inl (some (v))) M') : DoesH sz I_L_freeRoom hh_L_freeRoom [.ref (sz + 0), .int x, .ref (sz + 79)] M 1 6 (.inl (some (nI 0))) (M'.1, (M'.2.1, v.toInt64)) := by
  refine DoesH.of (L := [(0, .ref (sz + 0)), (1, .int x), (2, .ref (sz + 79))]) cw_L_freeRoom (by decide +kernel) (Nat.le_of_ble_eq_true rfl) rfl ⟨rfl, (by simp), ⟨rfl, (by simp), ⟨rfl, (by simp), trivial⟩⟩⟩ (fun VV hF => ?_)
  have hX := hF.c
  refine ro_aload_n (i := 2) (q := 1) hX dL_freeRoom_0 rfl rfl rfl ?_
  refine ro_iconst (v := nI 0) (q := 2) hX dL_freeRoom_1 rfl rfl ?_
  refine ro_aload_n (i := 0) (q := 3) hX dL_freeRoom_2 rfl rfl rfl ?_
  refine ro_iload_n (i := 1) (q := 4) hX dL_freeRoom_3 rfl rfl rfl ?_
  refine ro_callVi (q9 := 7) hX hD mw_X2_freeRoom kl_L_85 (by decide) (fun cy => cell2 (by decide +kernel)) rfl rfl rfl (Nat.le_of_ble_eq_true rfl) ⟨Nat.le_of_ble_eq_true rfl, Nat.le_of_ble_eq_true rfl⟩ dL_freeRoom_4 ⟨Nat.le_of_ble_eq_true rfl, Nat.le_of_ble_eq_true rfl⟩ rfl ?_
  refine ro_i2l (v := v.toInt64) (q := 8) hX dL_freeRoom_7 rfl rfl ?_
  refine ro_last (q9 := 9) hX dL_freeRoom_8 rfl ?_
  refine ro_goto (tgt := 15) hX dL_freeRoom_9 (by decide) ?_
  refine ro_iconst (v := nI 0) (q := 16) hX dL_freeRoom_15 rfl rfl ?_
  exact fin_h hF (Nat.le_of_ble_eq_true rfl) (Nat.le_of_ble_eq_true rfl) dL_freeRoom_16 rfl rfl

set_option maxRecDepth 20000 in
theorem h_freeRoom_1 (hD : Does sz I_X2_freeRoom [.ref (sz + 0), .int x] M 1 6 (.inr "java/lang/IndexOutOfBoundsException") M') : DoesH sz I_L_freeRoom hh_L_freeRoom [.ref (sz + 0), .int x, .ref (sz + 79)] M 1 6 (.inl (some (nI 1))) M' := by
  refine DoesH.of (L := [(0, .ref (sz + 0)), (1, .int x), (2, .ref (sz + 79))]) cw_L_freeRoom (by decide +kernel) (Nat.le_of_ble_eq_true rfl) rfl ⟨rfl, (by simp), ⟨rfl, (by simp), ⟨rfl, (by simp), trivial⟩⟩⟩ (fun VV hF => ?_)
  have hX := hF.c
  refine ro_aload_n (i := 2) (q := 1) hX dL_freeRoom_0 rfl rfl rfl ?_
  refine ro_iconst (v := nI 0) (q := 2) hX dL_freeRoom_1 rfl rfl ?_
  refine ro_aload_n (i := 0) (q := 3) hX dL_freeRoom_2 rfl rfl rfl ?_
  refine ro_iload_n (i := 1) (q := 4) hX dL_freeRoom_3 rfl rfl rfl ?_
  refine ro_catchV (x := { startPc := 0, endPc := 9, handlerPc := 12, catchType := 13 }) (pre := tabH (hh_L_freeRoom.take 0)) (suf := tabH (hh_L_freeRoom.drop 1)) hF hD mw_X2_freeRoom kl_L_85 (by decide) (fun cy => cell2 (by decide +kernel)) rfl rfl rfl (Nat.le_of_ble_eq_true rfl) ⟨Nat.le_of_ble_eq_true rfl, Nat.le_of_ble_eq_true rfl⟩ dL_freeRoom_4 ⟨Nat.le_of_ble_eq_true rfl, Nat.le_of_ble_eq_true rfl⟩ rfl (by decide) (by decide) cl_L_13 ca_13 ?_ (fun q => ?_)
  · intro z hz
    simp only [tabH, hh_L_freeRoom, List.take, List.map, List.mem_cons, List.not_mem_nil, or_false] at hz
  · refine ro_astore_n (i := 3) (q := 13) hX dL_freeRoom_12 rfl (Nat.le_of_ble_eq_true rfl) rfl ?_
    refine ro_iconst (v := nI 1) (q := 14) hX dL_freeRoom_13 rfl rfl ?_
    exact fin_h hF (Nat.le_of_ble_eq_true rfl) (Nat.le_of_ble_eq_true rfl) dL_freeRoom_14 rfl rfl

set_option maxRecDepth 20000 in
theorem h_deadlineIn (hD : Does sz I_X2_deadlineIn [.ref (sz + 0), .int x] M 0 0 (.inl (some (v))) M') : DoesH sz I_L_deadlineIn hh_L_deadlineIn [.ref (sz + 0), .int x, .ref (sz + 79)] M 1 6 (.inl (some (nI 0))) (M'.1, (M'.2.1, v.toInt64)) := by
  refine DoesH.of (L := [(0, .ref (sz + 0)), (1, .int x), (2, .ref (sz + 79))]) cw_L_deadlineIn (by decide +kernel) (Nat.le_of_ble_eq_true rfl) rfl ⟨rfl, (by simp), ⟨rfl, (by simp), ⟨rfl, (by simp), trivial⟩⟩⟩ (fun VV hF => ?_)
  have hX := hF.c
  refine ro_aload_n (i := 2) (q := 1) hX dL_deadlineIn_0 rfl rfl rfl ?_
  refine ro_iconst (v := nI 0) (q := 2) hX dL_deadlineIn_1 rfl rfl ?_
  refine ro_aload_n (i := 0) (q := 3) hX dL_deadlineIn_2 rfl rfl rfl ?_
  refine ro_iload_n (i := 1) (q := 4) hX dL_deadlineIn_3 rfl rfl rfl ?_
  refine ro_callVi (q9 := 7) hX hD mw_X2_deadlineIn kl_L_88 (by decide) (fun cy => cell2 (by decide +kernel)) rfl rfl rfl (Nat.le_of_ble_eq_true rfl) ⟨Nat.le_of_ble_eq_true rfl, Nat.le_of_ble_eq_true rfl⟩ dL_deadlineIn_4 ⟨Nat.le_of_ble_eq_true rfl, Nat.le_of_ble_eq_true rfl⟩ rfl ?_
  refine ro_i2l (v := v.toInt64) (q := 8) hX dL_deadlineIn_7 rfl rfl ?_
  refine ro_last (q9 := 9) hX dL_deadlineIn_8 rfl ?_
  refine ro_goto (tgt := 15) hX dL_deadlineIn_9 (by decide) ?_
  refine ro_iconst (v := nI 0) (q := 16) hX dL_deadlineIn_15 rfl rfl ?_
  exact fin_h hF (Nat.le_of_ble_eq_true rfl) (Nat.le_of_ble_eq_true rfl) dL_deadlineIn_16 rfl rfl

set_option maxRecDepth 20000 in
theorem h_deadlineIn_1 (hD : Does sz I_X2_deadlineIn [.ref (sz + 0), .int x] M 1 6 (.inr "java/lang/IndexOutOfBoundsException") M') : DoesH sz I_L_deadlineIn hh_L_deadlineIn [.ref (sz + 0), .int x, .ref (sz + 79)] M 1 6 (.inl (some (nI 1))) M' := by
  refine DoesH.of (L := [(0, .ref (sz + 0)), (1, .int x), (2, .ref (sz + 79))]) cw_L_deadlineIn (by decide +kernel) (Nat.le_of_ble_eq_true rfl) rfl ⟨rfl, (by simp), ⟨rfl, (by simp), ⟨rfl, (by simp), trivial⟩⟩⟩ (fun VV hF => ?_)
  have hX := hF.c
  refine ro_aload_n (i := 2) (q := 1) hX dL_deadlineIn_0 rfl rfl rfl ?_
  refine ro_iconst (v := nI 0) (q := 2) hX dL_deadlineIn_1 rfl rfl ?_
  refine ro_aload_n (i := 0) (q := 3) hX dL_deadlineIn_2 rfl rfl rfl ?_
  refine ro_iload_n (i := 1) (q := 4) hX dL_deadlineIn_3 rfl rfl rfl ?_
  refine ro_catchV (x := { startPc := 0, endPc := 9, handlerPc := 12, catchType := 13 }) (pre := tabH (hh_L_deadlineIn.take 0)) (suf := tabH (hh_L_deadlineIn.drop 1)) hF hD mw_X2_deadlineIn kl_L_88 (by decide) (fun cy => cell2 (by decide +kernel)) rfl rfl rfl (Nat.le_of_ble_eq_true rfl) ⟨Nat.le_of_ble_eq_true rfl, Nat.le_of_ble_eq_true rfl⟩ dL_deadlineIn_4 ⟨Nat.le_of_ble_eq_true rfl, Nat.le_of_ble_eq_true rfl⟩ rfl (by decide) (by decide) cl_L_13 ca_13 ?_ (fun q => ?_)
  · intro z hz
    simp only [tabH, hh_L_deadlineIn, List.take, List.map, List.mem_cons, List.not_mem_nil, or_false] at hz
  · refine ro_astore_n (i := 3) (q := 13) hX dL_deadlineIn_12 rfl (Nat.le_of_ble_eq_true rfl) rfl ?_
    refine ro_iconst (v := nI 1) (q := 14) hX dL_deadlineIn_13 rfl rfl ?_
    exact fin_h hF (Nat.le_of_ble_eq_true rfl) (Nat.le_of_ble_eq_true rfl) dL_deadlineIn_14 rfl rfl

set_option maxRecDepth 20000 in
theorem h_replica (hD : Does sz I_X2_replica [.ref (sz + 0), .int x, .int y] M 0 0 (.inl (some (v))) M') : DoesH sz I_L_replica hh_L_replica [.ref (sz + 0), .int x, .int y, .ref (sz + 79)] M 1 6 (.inl (some (nI 0))) (M'.1, (M'.2.1, v.toInt64)) := by
  refine DoesH.of (L := [(0, .ref (sz + 0)), (1, .int x), (2, .int y), (3, .ref (sz + 79))]) cw_L_replica (by decide +kernel) (Nat.le_of_ble_eq_true rfl) rfl ⟨rfl, (by simp), ⟨rfl, (by simp), ⟨rfl, (by simp), ⟨rfl, (by simp), trivial⟩⟩⟩⟩ (fun VV hF => ?_)
  have hX := hF.c
  refine ro_aload_n (i := 3) (q := 1) hX dL_replica_0 rfl rfl rfl ?_
  refine ro_iconst (v := nI 0) (q := 2) hX dL_replica_1 rfl rfl ?_
  refine ro_aload_n (i := 0) (q := 3) hX dL_replica_2 rfl rfl rfl ?_
  refine ro_iload_n (i := 1) (q := 4) hX dL_replica_3 rfl rfl rfl ?_
  refine ro_iload_n (i := 2) (q := 5) hX dL_replica_4 rfl rfl rfl ?_
  refine ro_callVi (q9 := 8) hX hD mw_X2_replica kl_L_91 (by decide) (fun cy => cell2 (by decide +kernel)) rfl rfl rfl (Nat.le_of_ble_eq_true rfl) ⟨Nat.le_of_ble_eq_true rfl, Nat.le_of_ble_eq_true rfl⟩ dL_replica_5 ⟨Nat.le_of_ble_eq_true rfl, Nat.le_of_ble_eq_true rfl⟩ rfl ?_
  refine ro_i2l (v := v.toInt64) (q := 9) hX dL_replica_8 rfl rfl ?_
  refine ro_last (q9 := 10) hX dL_replica_9 rfl ?_
  refine ro_goto (tgt := 17) hX dL_replica_10 (by decide) ?_
  refine ro_iconst (v := nI 0) (q := 18) hX dL_replica_17 rfl rfl ?_
  exact fin_h hF (Nat.le_of_ble_eq_true rfl) (Nat.le_of_ble_eq_true rfl) dL_replica_18 rfl rfl

set_option maxRecDepth 20000 in
theorem h_replica_1 (hD : Does sz I_X2_replica [.ref (sz + 0), .int x, .int y] M 1 6 (.inr "java/lang/IndexOutOfBoundsException") M') : DoesH sz I_L_replica hh_L_replica [.ref (sz + 0), .int x, .int y, .ref (sz + 79)] M 1 6 (.inl (some (nI 1))) M' := by
  refine DoesH.of (L := [(0, .ref (sz + 0)), (1, .int x), (2, .int y), (3, .ref (sz + 79))]) cw_L_replica (by decide +kernel) (Nat.le_of_ble_eq_true rfl) rfl ⟨rfl, (by simp), ⟨rfl, (by simp), ⟨rfl, (by simp), ⟨rfl, (by simp), trivial⟩⟩⟩⟩ (fun VV hF => ?_)
  have hX := hF.c
  refine ro_aload_n (i := 3) (q := 1) hX dL_replica_0 rfl rfl rfl ?_
  refine ro_iconst (v := nI 0) (q := 2) hX dL_replica_1 rfl rfl ?_
  refine ro_aload_n (i := 0) (q := 3) hX dL_replica_2 rfl rfl rfl ?_
  refine ro_iload_n (i := 1) (q := 4) hX dL_replica_3 rfl rfl rfl ?_
  refine ro_iload_n (i := 2) (q := 5) hX dL_replica_4 rfl rfl rfl ?_
  refine ro_catchV (x := { startPc := 0, endPc := 10, handlerPc := 13, catchType := 13 }) (pre := tabH (hh_L_replica.take 0)) (suf := tabH (hh_L_replica.drop 1)) hF hD mw_X2_replica kl_L_91 (by decide) (fun cy => cell2 (by decide +kernel)) rfl rfl rfl (Nat.le_of_ble_eq_true rfl) ⟨Nat.le_of_ble_eq_true rfl, Nat.le_of_ble_eq_true rfl⟩ dL_replica_5 ⟨Nat.le_of_ble_eq_true rfl, Nat.le_of_ble_eq_true rfl⟩ rfl (by decide) (by decide) cl_L_13 ca_13 ?_ (fun q => ?_)
  · intro z hz
    simp only [tabH, hh_L_replica, List.take, List.map, List.mem_cons, List.not_mem_nil, or_false] at hz
  · refine ro_astore (i := 4) (q := 15) hX dL_replica_13 (Nat.le_of_ble_eq_true rfl) rfl ?_
    refine ro_iconst (v := nI 1) (q := 16) hX dL_replica_15 rfl rfl ?_
    exact fin_h hF (Nat.le_of_ble_eq_true rfl) (Nat.le_of_ble_eq_true rfl) dL_replica_16 rfl rfl

set_option maxRecDepth 20000 in
theorem h_transfer (hD : Does sz I_X2_transfer [.ref (sz + 0), .int x] M 0 0 (.inl (some (v))) M') : DoesH sz I_L_transfer hh_L_transfer [.ref (sz + 0), .int x, .ref (sz + 79)] M 1 6 (.inl (some (nI 0))) (M'.1, (M'.2.1, v.toInt64)) := by
  refine DoesH.of (L := [(0, .ref (sz + 0)), (1, .int x), (2, .ref (sz + 79))]) cw_L_transfer (by decide +kernel) (Nat.le_of_ble_eq_true rfl) rfl ⟨rfl, (by simp), ⟨rfl, (by simp), ⟨rfl, (by simp), trivial⟩⟩⟩ (fun VV hF => ?_)
  have hX := hF.c
  refine ro_aload_n (i := 2) (q := 1) hX dL_transfer_0 rfl rfl rfl ?_
  refine ro_iconst (v := nI 0) (q := 2) hX dL_transfer_1 rfl rfl ?_
  refine ro_aload_n (i := 0) (q := 3) hX dL_transfer_2 rfl rfl rfl ?_
  refine ro_iload_n (i := 1) (q := 4) hX dL_transfer_3 rfl rfl rfl ?_
  refine ro_callVi (q9 := 7) hX hD mw_X2_transfer kl_L_94 (by decide) (fun cy => cell2 (by decide +kernel)) rfl rfl rfl (Nat.le_of_ble_eq_true rfl) ⟨Nat.le_of_ble_eq_true rfl, Nat.le_of_ble_eq_true rfl⟩ dL_transfer_4 ⟨Nat.le_of_ble_eq_true rfl, Nat.le_of_ble_eq_true rfl⟩ rfl ?_
  refine ro_i2l (v := v.toInt64) (q := 8) hX dL_transfer_7 rfl rfl ?_
  refine ro_last (q9 := 9) hX dL_transfer_8 rfl ?_
  refine ro_goto (tgt := 15) hX dL_transfer_9 (by decide) ?_
  refine ro_iconst (v := nI 0) (q := 16) hX dL_transfer_15 rfl rfl ?_
  exact fin_h hF (Nat.le_of_ble_eq_true rfl) (Nat.le_of_ble_eq_true rfl) dL_transfer_16 rfl rfl

set_option maxRecDepth 20000 in
theorem h_transfer_1 (hD : Does sz I_X2_transfer [.ref (sz + 0), .int x] M 1 6 (.inr "java/lang/IllegalArgumentException") M') : DoesH sz I_L_transfer hh_L_transfer [.ref (sz + 0), .int x, .ref (sz + 79)] M 1 6 (.inl (some (nI 1))) M' := by
  refine DoesH.of (L := [(0, .ref (sz + 0)), (1, .int x), (2, .ref (sz + 79))]) cw_L_transfer (by decide +kernel) (Nat.le_of_ble_eq_true rfl) rfl ⟨rfl, (by simp), ⟨rfl, (by simp), ⟨rfl, (by simp), trivial⟩⟩⟩ (fun VV hF => ?_)
  have hX := hF.c
  refine ro_aload_n (i := 2) (q := 1) hX dL_transfer_0 rfl rfl rfl ?_
  refine ro_iconst (v := nI 0) (q := 2) hX dL_transfer_1 rfl rfl ?_
  refine ro_aload_n (i := 0) (q := 3) hX dL_transfer_2 rfl rfl rfl ?_
  refine ro_iload_n (i := 1) (q := 4) hX dL_transfer_3 rfl rfl rfl ?_
  refine ro_catchV (x := { startPc := 0, endPc := 9, handlerPc := 12, catchType := 15 }) (pre := tabH (hh_L_transfer.take 0)) (suf := tabH (hh_L_transfer.drop 1)) hF hD mw_X2_transfer kl_L_94 (by decide) (fun cy => cell2 (by decide +kernel)) rfl rfl rfl (Nat.le_of_ble_eq_true rfl) ⟨Nat.le_of_ble_eq_true rfl, Nat.le_of_ble_eq_true rfl⟩ dL_transfer_4 ⟨Nat.le_of_ble_eq_true rfl, Nat.le_of_ble_eq_true rfl⟩ rfl (by decide) (by decide) cl_L_15 ca_15 ?_ (fun q => ?_)
  · intro z hz
    simp only [tabH, hh_L_transfer, List.take, List.map, List.mem_cons, List.not_mem_nil, or_false] at hz
  · refine ro_astore_n (i := 3) (q := 13) hX dL_transfer_12 rfl (Nat.le_of_ble_eq_true rfl) rfl ?_
    refine ro_iconst (v := nI 1) (q := 14) hX dL_transfer_13 rfl rfl ?_
    exact fin_h hF (Nat.le_of_ble_eq_true rfl) (Nat.le_of_ble_eq_true rfl) dL_transfer_14 rfl rfl

set_option maxRecDepth 20000 in
theorem h_lostWithout (hD : Does sz I_X2_lostWithout [.ref (sz + 0), .int x] M 0 0 (.inl (some (v))) M') : DoesH sz I_L_lostWithout hh_L_lostWithout [.ref (sz + 0), .int x, .ref (sz + 79)] M 1 6 (.inl (some (nI 0))) (M'.1, (M'.2.1, v.toInt64)) := by
  refine DoesH.of (L := [(0, .ref (sz + 0)), (1, .int x), (2, .ref (sz + 79))]) cw_L_lostWithout (by decide +kernel) (Nat.le_of_ble_eq_true rfl) rfl ⟨rfl, (by simp), ⟨rfl, (by simp), ⟨rfl, (by simp), trivial⟩⟩⟩ (fun VV hF => ?_)
  have hX := hF.c
  refine ro_aload_n (i := 2) (q := 1) hX dL_lostWithout_0 rfl rfl rfl ?_
  refine ro_iconst (v := nI 0) (q := 2) hX dL_lostWithout_1 rfl rfl ?_
  refine ro_aload_n (i := 0) (q := 3) hX dL_lostWithout_2 rfl rfl rfl ?_
  refine ro_iload_n (i := 1) (q := 4) hX dL_lostWithout_3 rfl rfl rfl ?_
  refine ro_callVi (q9 := 7) hX hD mw_X2_lostWithout kl_L_97 (by decide) (fun cy => cell2 (by decide +kernel)) rfl rfl rfl (Nat.le_of_ble_eq_true rfl) ⟨Nat.le_of_ble_eq_true rfl, Nat.le_of_ble_eq_true rfl⟩ dL_lostWithout_4 ⟨Nat.le_of_ble_eq_true rfl, Nat.le_of_ble_eq_true rfl⟩ rfl ?_
  refine ro_i2l (v := v.toInt64) (q := 8) hX dL_lostWithout_7 rfl rfl ?_
  refine ro_last (q9 := 9) hX dL_lostWithout_8 rfl ?_
  refine ro_goto (tgt := 15) hX dL_lostWithout_9 (by decide) ?_
  refine ro_iconst (v := nI 0) (q := 16) hX dL_lostWithout_15 rfl rfl ?_
  exact fin_h hF (Nat.le_of_ble_eq_true rfl) (Nat.le_of_ble_eq_true rfl) dL_lostWithout_16 rfl rfl

set_option maxRecDepth 20000 in
theorem h_lostWithout_1 (hD : Does sz I_X2_lostWithout [.ref (sz + 0), .int x] M 1 6 (.inr "java/lang/IllegalArgumentException") M') : DoesH sz I_L_lostWithout hh_L_lostWithout [.ref (sz + 0), .int x, .ref (sz + 79)] M 1 6 (.inl (some (nI 1))) M' := by
  refine DoesH.of (L := [(0, .ref (sz + 0)), (1, .int x), (2, .ref (sz + 79))]) cw_L_lostWithout (by decide +kernel) (Nat.le_of_ble_eq_true rfl) rfl ⟨rfl, (by simp), ⟨rfl, (by simp), ⟨rfl, (by simp), trivial⟩⟩⟩ (fun VV hF => ?_)
  have hX := hF.c
  refine ro_aload_n (i := 2) (q := 1) hX dL_lostWithout_0 rfl rfl rfl ?_
  refine ro_iconst (v := nI 0) (q := 2) hX dL_lostWithout_1 rfl rfl ?_
  refine ro_aload_n (i := 0) (q := 3) hX dL_lostWithout_2 rfl rfl rfl ?_
  refine ro_iload_n (i := 1) (q := 4) hX dL_lostWithout_3 rfl rfl rfl ?_
  refine ro_catchV (x := { startPc := 0, endPc := 9, handlerPc := 12, catchType := 15 }) (pre := tabH (hh_L_lostWithout.take 0)) (suf := tabH (hh_L_lostWithout.drop 1)) hF hD mw_X2_lostWithout kl_L_97 (by decide) (fun cy => cell2 (by decide +kernel)) rfl rfl rfl (Nat.le_of_ble_eq_true rfl) ⟨Nat.le_of_ble_eq_true rfl, Nat.le_of_ble_eq_true rfl⟩ dL_lostWithout_4 ⟨Nat.le_of_ble_eq_true rfl, Nat.le_of_ble_eq_true rfl⟩ rfl (by decide) (by decide) cl_L_15 ca_15 ?_ (fun q => ?_)
  · intro z hz
    simp only [tabH, hh_L_lostWithout, List.take, List.map, List.mem_cons, List.not_mem_nil, or_false] at hz
  · refine ro_astore_n (i := 3) (q := 13) hX dL_lostWithout_12 rfl (Nat.le_of_ble_eq_true rfl) rfl ?_
    refine ro_iconst (v := nI 1) (q := 14) hX dL_lostWithout_13 rfl rfl ?_
    exact fin_h hF (Nat.le_of_ble_eq_true rfl) (Nat.le_of_ble_eq_true rfl) dL_lostWithout_14 rfl rfl

set_option maxRecDepth 20000 in
theorem h_lostIn (hD : Does sz I_X2_lostIn [.ref (sz + 0), .int x] M 0 0 (.inl (some (v))) M') : DoesH sz I_L_lostIn hh_L_lostIn [.ref (sz + 0), .int x, .ref (sz + 79)] M 1 6 (.inl (some (nI 0))) (M'.1, (M'.2.1, v.toInt64)) := by
  refine DoesH.of (L := [(0, .ref (sz + 0)), (1, .int x), (2, .ref (sz + 79))]) cw_L_lostIn (by decide +kernel) (Nat.le_of_ble_eq_true rfl) rfl ⟨rfl, (by simp), ⟨rfl, (by simp), ⟨rfl, (by simp), trivial⟩⟩⟩ (fun VV hF => ?_)
  have hX := hF.c
  refine ro_aload_n (i := 2) (q := 1) hX dL_lostIn_0 rfl rfl rfl ?_
  refine ro_iconst (v := nI 0) (q := 2) hX dL_lostIn_1 rfl rfl ?_
  refine ro_aload_n (i := 0) (q := 3) hX dL_lostIn_2 rfl rfl rfl ?_
  refine ro_iload_n (i := 1) (q := 4) hX dL_lostIn_3 rfl rfl rfl ?_
  refine ro_callVi (q9 := 7) hX hD mw_X2_lostIn kl_L_100 (by decide) (fun cy => cell2 (by decide +kernel)) rfl rfl rfl (Nat.le_of_ble_eq_true rfl) ⟨Nat.le_of_ble_eq_true rfl, Nat.le_of_ble_eq_true rfl⟩ dL_lostIn_4 ⟨Nat.le_of_ble_eq_true rfl, Nat.le_of_ble_eq_true rfl⟩ rfl ?_
  refine ro_i2l (v := v.toInt64) (q := 8) hX dL_lostIn_7 rfl rfl ?_
  refine ro_last (q9 := 9) hX dL_lostIn_8 rfl ?_
  refine ro_goto (tgt := 15) hX dL_lostIn_9 (by decide) ?_
  refine ro_iconst (v := nI 0) (q := 16) hX dL_lostIn_15 rfl rfl ?_
  exact fin_h hF (Nat.le_of_ble_eq_true rfl) (Nat.le_of_ble_eq_true rfl) dL_lostIn_16 rfl rfl

set_option maxRecDepth 20000 in
theorem h_lostIn_1 (hD : Does sz I_X2_lostIn [.ref (sz + 0), .int x] M 1 6 (.inr "java/lang/IllegalArgumentException") M') : DoesH sz I_L_lostIn hh_L_lostIn [.ref (sz + 0), .int x, .ref (sz + 79)] M 1 6 (.inl (some (nI 1))) M' := by
  refine DoesH.of (L := [(0, .ref (sz + 0)), (1, .int x), (2, .ref (sz + 79))]) cw_L_lostIn (by decide +kernel) (Nat.le_of_ble_eq_true rfl) rfl ⟨rfl, (by simp), ⟨rfl, (by simp), ⟨rfl, (by simp), trivial⟩⟩⟩ (fun VV hF => ?_)
  have hX := hF.c
  refine ro_aload_n (i := 2) (q := 1) hX dL_lostIn_0 rfl rfl rfl ?_
  refine ro_iconst (v := nI 0) (q := 2) hX dL_lostIn_1 rfl rfl ?_
  refine ro_aload_n (i := 0) (q := 3) hX dL_lostIn_2 rfl rfl rfl ?_
  refine ro_iload_n (i := 1) (q := 4) hX dL_lostIn_3 rfl rfl rfl ?_
  refine ro_catchV (x := { startPc := 0, endPc := 9, handlerPc := 12, catchType := 15 }) (pre := tabH (hh_L_lostIn.take 0)) (suf := tabH (hh_L_lostIn.drop 1)) hF hD mw_X2_lostIn kl_L_100 (by decide) (fun cy => cell2 (by decide +kernel)) rfl rfl rfl (Nat.le_of_ble_eq_true rfl) ⟨Nat.le_of_ble_eq_true rfl, Nat.le_of_ble_eq_true rfl⟩ dL_lostIn_4 ⟨Nat.le_of_ble_eq_true rfl, Nat.le_of_ble_eq_true rfl⟩ rfl (by decide) (by decide) cl_L_15 ca_15 ?_ (fun q => ?_)
  · intro z hz
    simp only [tabH, hh_L_lostIn, List.take, List.map, List.mem_cons, List.not_mem_nil, or_false] at hz
  · refine ro_astore_n (i := 3) (q := 13) hX dL_lostIn_12 rfl (Nat.le_of_ble_eq_true rfl) rfl ?_
    refine ro_iconst (v := nI 1) (q := 14) hX dL_lostIn_13 rfl rfl ?_
    exact fin_h hF (Nat.le_of_ble_eq_true rfl) (Nat.le_of_ble_eq_true rfl) dL_lostIn_14 rfl rfl

end
