section
variable {sz r : Nat} {G : Nat → Nat → Int32} {T : (Nat → Nat) × Int64} {F : SV} {s : NV}
set_option maxRecDepth 20000 in
set_option maxHeartbeats 2000000 in
theorem m_sign {L : Nat} {tx : Nat → Nat} (hL : F 0 5 = nI L) (hL8 : L ≤ 80) (hx : ∀ i, i < L → F 3 i = nI (tx i)) (hx2 : ∀ i, i < L → tx i < 128) {A : Nat} (hA : A ≤ 81) {l x y : Int32} : Does sz I_X3_sign [.ref (sz + 75)] (patch G 75 4 (mS (tF F A l x y) s), T) 0 0 (.inl (some (nI (sgT L tx A)))) (patch G 75 4 (mS (tF F A l x y) s), T) := by
  refine Does.of (L := [(0, .ref (sz + 75))]) (by decide +kernel) (Nat.le_of_ble_eq_true rfl) rfl ⟨rfl, (by simp), trivial⟩ (fun VV hF => ?_)
  have hX := hF.c
  refine ro_aload_n (i := 0) (q := 1) hX dX3_sign_0 rfl rfl rfl ?_
  refine ro_Ngi (j := 6) (q9 := 4) (by decide) hX kf_X3_161 dX3_sign_1 rfl ?_
  refine vv_top (y := (nI A)) (rfl) ?_
  refine ro_aload_n (i := 0) (q := 5) hX dX3_sign_4 rfl rfl rfl ?_
  refine ro_Ngi (j := 5) (q9 := 8) (by decide) hX kf_X3_158 dX3_sign_5 rfl ?_
  refine vv_top (y := (nI L)) (hL) ?_
  refine ro_icmp_ge (tgt := 23) (q := 11) hX dX3_sign_8 (by decide) rfl (fun q1 => ?_) (fun q1 => ?_)
  · rw [nI_leI (by omega) (by omega)] at q1
    refine ro_iconst (v := nI 0) (q := 24) hX dX3_sign_23 rfl rfl ?_
    exact fin_i hF (Nat.le_of_ble_eq_true rfl) (Nat.le_of_ble_eq_true rfl) dX3_sign_24 (by first | with_reducible rfl | (simp [sgT, setL_s, setL_t, setL_0, dropL_0, dropL_c, *]; done) | (simp only [sgT, setL_s, setL_t, setL_0, dropL_0, dropL_c]; (repeat' split) <;> first | with_reducible rfl | contradiction | (exfalso; omega) | (simp_all; done)) | rfl) (by first | with_reducible rfl | (simp [sgT, setL_s, setL_t, setL_0, dropL_0, dropL_c, *]; done) | (simp only [sgT, setL_s, setL_t, setL_0, dropL_0, dropL_c]; (repeat' split) <;> first | with_reducible rfl | contradiction | (exfalso; omega) | (simp_all; done)) | rfl)
  · rw [nI_leI (by omega) (by omega)] at q1
    refine ro_aload_n (i := 0) (q := 12) hX dX3_sign_11 rfl rfl rfl ?_
    refine ro_Nga4 (q9 := 15) hX kf_X3_17 dX3_sign_12 rfl ?_
    refine ro_aload_n (i := 0) (q := 16) hX dX3_sign_15 rfl rfl rfl ?_
    refine ro_Ngi (j := 6) (q9 := 19) (by decide) hX kf_X3_161 dX3_sign_16 rfl ?_
    refine vv_top (y := (nI A)) (rfl) ?_
    refine ro_Ntld (n := A) (q9 := 20) hX rfl (by omega) dX3_sign_19 rfl ?_
    refine vv_top (y := (nI (tx A))) (hx A (by omega)) ?_
    refine ro_goto (tgt := 24) hX dX3_sign_20 (by decide) ?_
    exact fin_i hF (Nat.le_of_ble_eq_true rfl) (Nat.le_of_ble_eq_true rfl) dX3_sign_24 (by first | with_reducible rfl | (simp [sgT, setL_s, setL_t, setL_0, dropL_0, dropL_c, *]; done) | (simp only [sgT, setL_s, setL_t, setL_0, dropL_0, dropL_c]; (repeat' split) <;> first | with_reducible rfl | contradiction | (exfalso; omega) | (simp_all; done)) | rfl) (by first | with_reducible rfl | (simp [sgT, setL_s, setL_t, setL_0, dropL_0, dropL_c, *]; done) | (simp only [sgT, setL_s, setL_t, setL_0, dropL_0, dropL_c]; (repeat' split) <;> first | with_reducible rfl | contradiction | (exfalso; omega) | (simp_all; done)) | rfl)
theorem m_inB {x y z : Int32} : Does sz I_X3_in [.int x, .int y, .int z] (patch G 75 4 (mS F s), T) 0 0 (.inl (some (bi (inB x y z)))) (patch G 75 4 (mS F s), T) := m_in
set_option maxRecDepth 20000 in
set_option maxHeartbeats 2000000 in
theorem m_takes_1 {L : Nat} {tx : Nat → Nat} (hL : F 0 5 = nI L) (hL8 : L ≤ 80) (hx : ∀ i, i < L → F 3 i = nI (tx i)) (hx2 : ∀ i, i < L → tx i < 128) {A : Nat} (hA : A ≤ 81) {l x y : Int32} {c : Nat} (hc2 : c < 128) (hc : sgT L tx A = c) : Does sz I_X3_takes [.ref (sz + 75), .int (nI c)] (patch G 75 4 (mS (tF F A l x y) s), T) 0 0 (.inl (some (nI 1))) (patch G 75 4 (mS (tF F (A + 1) l x y) s), T) := by
  refine Does.of (L := [(0, .ref (sz + 75)), (1, .int (nI c))]) (by decide +kernel) (Nat.le_of_ble_eq_true rfl) rfl ⟨rfl, (by simp), ⟨rfl, (by simp), trivial⟩⟩ (fun VV hF => ?_)
  have hX := hF.c
  have hs0 := sgT_lt (A := A) hx2
  refine ro_aload_n (i := 0) (q := 1) hX dX3_takes_0 rfl rfl rfl ?_
  refine ro_callVi (q9 := 4) hX (m_sign hL hL8 hx hx2 (by omega)) mw_X3_sign kl_X3_164 (by decide) (fun cy => cell3 (by decide +kernel)) rfl rfl rfl (Nat.le_of_ble_eq_true rfl) ⟨Nat.le_of_ble_eq_true rfl, Nat.le_of_ble_eq_true rfl⟩ dX3_takes_1 ⟨Nat.le_of_ble_eq_true rfl, Nat.le_of_ble_eq_true rfl⟩ rfl ?_
  refine ro_iload_n (i := 1) (q := 5) hX dX3_takes_4 rfl rfl rfl ?_
  refine ro_icmp_ne (tgt := 12) (q := 8) hX dX3_takes_5 (by decide) rfl (fun q => absurd (by rw [hc]) q) (fun _ => ?_)
  refine ro_iconst (v := nI 1) (q := 9) hX dX3_takes_8 rfl rfl ?_
  refine ro_goto (tgt := 13) hX dX3_takes_9 (by decide) ?_
  refine ro_istore_n (i := 2) (q := 14) hX dX3_takes_13 rfl (Nat.le_of_ble_eq_true rfl) rfl ?_
  refine ro_aload_n (i := 0) (q := 15) hX dX3_takes_14 rfl rfl rfl ?_
  refine ro_dup (q := 16) hX dX3_takes_15 rfl rfl ?_
  refine ro_Ngi (j := 6) (q9 := 19) (by decide) hX kf_X3_161 dX3_takes_16 rfl ?_
  refine vv_top (y := (nI A)) (rfl) ?_
  refine ro_iload_n (i := 2) (q := 20) hX dX3_takes_19 rfl rfl rfl ?_
  refine ro_if_eq (tgt := 27) (q := 23) hX dX3_takes_20 (by decide) rfl (fun q => absurd q (by decide)) (fun _ => ?_)
  refine ro_iconst (v := nI 1) (q := 24) hX dX3_takes_23 rfl rfl ?_
  refine ro_goto (tgt := 28) hX dX3_takes_24 (by decide) ?_
  refine ro_iadd (q := 29) hX dX3_takes_28 rfl ?_
  refine vv_top (y := nI (A + 1)) (nI_add' rfl rfl) ?_
  refine ro_Npi (j := 6) (q9 := 32) (ty := .int) (by decide) hX rfl rfl rfl kf_X3_161 dX3_takes_29 rfl ?_
  refine ro_iload_n (i := 2) (q := 33) hX dX3_takes_32 rfl rfl rfl ?_
  exact fin_z hF (Nat.le_of_ble_eq_true rfl) (Nat.le_of_ble_eq_true rfl) dX3_takes_33 rfl (by rfl) (by exact mT6)
set_option maxRecDepth 20000 in
set_option maxHeartbeats 2000000 in
theorem m_takes_0 {L : Nat} {tx : Nat → Nat} (hL : F 0 5 = nI L) (hL8 : L ≤ 80) (hx : ∀ i, i < L → F 3 i = nI (tx i)) (hx2 : ∀ i, i < L → tx i < 128) {A : Nat} (hA : A ≤ 81) {l x y : Int32} {c : Nat} (hc2 : c < 128) (hc : ¬ sgT L tx A = c) : Does sz I_X3_takes [.ref (sz + 75), .int (nI c)] (patch G 75 4 (mS (tF F A l x y) s), T) 0 0 (.inl (some (nI 0))) (patch G 75 4 (mS (tF F A l x y) s), T) := by
  refine Does.of (L := [(0, .ref (sz + 75)), (1, .int (nI c))]) (by decide +kernel) (Nat.le_of_ble_eq_true rfl) rfl ⟨rfl, (by simp), ⟨rfl, (by simp), trivial⟩⟩ (fun VV hF => ?_)
  have hX := hF.c
  have hs0 := sgT_lt (A := A) hx2
  refine ro_aload_n (i := 0) (q := 1) hX dX3_takes_0 rfl rfl rfl ?_
  refine ro_callVi (q9 := 4) hX (m_sign hL hL8 hx hx2 (by omega)) mw_X3_sign kl_X3_164 (by decide) (fun cy => cell3 (by decide +kernel)) rfl rfl rfl (Nat.le_of_ble_eq_true rfl) ⟨Nat.le_of_ble_eq_true rfl, Nat.le_of_ble_eq_true rfl⟩ dX3_takes_1 ⟨Nat.le_of_ble_eq_true rfl, Nat.le_of_ble_eq_true rfl⟩ rfl ?_
  refine ro_iload_n (i := 1) (q := 5) hX dX3_takes_4 rfl rfl rfl ?_
  refine ro_icmp_ne (tgt := 12) (q := 8) hX dX3_takes_5 (by decide) rfl (fun _ => ?_) (fun q => absurd q (ni_ne hc (by omega) (by omega)))
  refine ro_iconst (v := nI 0) (q := 13) hX dX3_takes_12 rfl rfl ?_
  refine ro_istore_n (i := 2) (q := 14) hX dX3_takes_13 rfl (Nat.le_of_ble_eq_true rfl) rfl ?_
  refine ro_aload_n (i := 0) (q := 15) hX dX3_takes_14 rfl rfl rfl ?_
  refine ro_dup (q := 16) hX dX3_takes_15 rfl rfl ?_
  refine ro_Ngi (j := 6) (q9 := 19) (by decide) hX kf_X3_161 dX3_takes_16 rfl ?_
  refine vv_top (y := (nI A)) (rfl) ?_
  refine ro_iload_n (i := 2) (q := 20) hX dX3_takes_19 rfl rfl rfl ?_
  refine ro_if_eq (tgt := 27) (q := 23) hX dX3_takes_20 (by decide) rfl (fun _ => ?_) (fun q => absurd (by decide) q)
  refine ro_iconst (v := nI 0) (q := 28) hX dX3_takes_27 rfl rfl ?_
  refine ro_iadd (q := 29) hX dX3_takes_28 rfl ?_
  refine vv_top (y := nI (A + 0)) (nI_add' rfl rfl) ?_
  refine ro_Npi (j := 6) (q9 := 32) (ty := .int) (by decide) hX rfl rfl rfl kf_X3_161 dX3_takes_29 rfl ?_
  refine ro_iload_n (i := 2) (q := 33) hX dX3_takes_32 rfl rfl rfl ?_
  exact fin_z hF (Nat.le_of_ble_eq_true rfl) (Nat.le_of_ble_eq_true rfl) dX3_takes_33 rfl (by rfl) (by exact mT6)
set_option maxRecDepth 20000 in
set_option maxHeartbeats 2000000 in
theorem m_number_a {L : Nat} {tx : Nat → Nat} (hL : F 0 5 = nI L) (hL8 : L ≤ 80) (hx : ∀ i, i < L → F 3 i = nI (tx i)) (hx2 : ∀ i, i < L → tx i < 128) {A : Nat} (hA : A ≤ 81) {l x y : Int32} {lo hi : Nat} (hlo : lo ≤ 1) (hhi : hi ≤ 9999) (hn : ¬ (48 + lo ≤ sgT L tx A ∧ sgT L tx A ≤ 57)) : Does sz I_X3_number [.ref (sz + 75), .int (nI lo), .int (nI hi)] (patch G 75 4 (mS (tF F A l x y) s), T) 0 0 (.inl (some (-1))) (patch G 75 4 (mS (tF F A l x y) s), T) := by
  refine Does.of (L := [(0, .ref (sz + 75)), (1, .int (nI lo)), (2, .int (nI hi))]) (by decide +kernel) (Nat.le_of_ble_eq_true rfl) rfl ⟨rfl, (by simp), ⟨rfl, (by simp), ⟨rfl, (by simp), trivial⟩⟩⟩ (fun VV hF => ?_)
  have hX := hF.c
  have hs0 := sgT_lt (A := A) hx2
  refine ro_aload_n (i := 0) (q := 1) hX dX3_number_0 rfl rfl rfl ?_
  refine ro_callVi (q9 := 4) hX (m_sign hL hL8 hx hx2 (by omega)) mw_X3_sign kl_X3_164 (by decide) (fun cy => cell3 (by decide +kernel)) rfl rfl rfl (Nat.le_of_ble_eq_true rfl) ⟨Nat.le_of_ble_eq_true rfl, Nat.le_of_ble_eq_true rfl⟩ dX3_number_1 ⟨Nat.le_of_ble_eq_true rfl, Nat.le_of_ble_eq_true rfl⟩ rfl ?_
  refine ro_bipush (v := nI 48) (q := 6) hX dX3_number_4 rfl rfl ?_
  refine ro_iload_n (i := 1) (q := 7) hX dX3_number_6 rfl rfl rfl ?_
  refine ro_iadd (q := 8) hX dX3_number_7 rfl ?_
  refine vv_top (y := nI (48 + lo)) (nI_add' rfl rfl) ?_
  refine ro_bipush (v := nI 57) (q := 10) hX dX3_number_8 rfl rfl ?_
  refine ro_callSi (q9 := 13) hX (m_in_f (by rw [inB_f (by omega) (by omega) (by omega)]; omega)) mw_X3_in kl_X3_24 rfl rfl (Nat.le_of_ble_eq_true rfl) ⟨Nat.le_of_ble_eq_true rfl, Nat.le_of_ble_eq_true rfl⟩ dX3_number_10 ⟨Nat.le_of_ble_eq_true rfl, Nat.le_of_ble_eq_true rfl⟩ rfl ?_
  refine ro_if_eq (tgt := 27) (q := 16) hX dX3_number_13 (by decide) rfl (fun _ => ?_) (fun q => absurd (by decide) q)
  refine ro_iconst (v := (-1)) (q := 28) hX dX3_number_27 rfl rfl ?_
  exact fin_i hF (Nat.le_of_ble_eq_true rfl) (Nat.le_of_ble_eq_true rfl) dX3_number_28 (by rfl) (by rfl)
set_option maxRecDepth 20000 in
set_option maxHeartbeats 2000000 in
theorem m_number_b {L : Nat} {tx : Nat → Nat} (hL : F 0 5 = nI L) (hL8 : L ≤ 80) (hx : ∀ i, i < L → F 3 i = nI (tx i)) (hx2 : ∀ i, i < L → tx i < 128) {A : Nat} (hA : A ≤ 81) {l x y : Int32} {lo hi : Nat} (hlo : lo ≤ 1) (hhi : hi ≤ 9999) (hn : 48 + lo ≤ sgT L tx A ∧ sgT L tx A ≤ 57) (hb : ¬ sgT L tx A - 48 ≤ hi) : Does sz I_X3_number [.ref (sz + 75), .int (nI lo), .int (nI hi)] (patch G 75 4 (mS (tF F A l x y) s), T) 0 0 (.inl (some (-1))) (patch G 75 4 (mS (tF F A l x y) s), T) := by
  refine Does.of (L := [(0, .ref (sz + 75)), (1, .int (nI lo)), (2, .int (nI hi))]) (by decide +kernel) (Nat.le_of_ble_eq_true rfl) rfl ⟨rfl, (by simp), ⟨rfl, (by simp), ⟨rfl, (by simp), trivial⟩⟩⟩ (fun VV hF => ?_)
  have hX := hF.c
  have hs0 := sgT_lt (A := A) hx2
  refine ro_aload_n (i := 0) (q := 1) hX dX3_number_0 rfl rfl rfl ?_
  refine ro_callVi (q9 := 4) hX (m_sign hL hL8 hx hx2 (by omega)) mw_X3_sign kl_X3_164 (by decide) (fun cy => cell3 (by decide +kernel)) rfl rfl rfl (Nat.le_of_ble_eq_true rfl) ⟨Nat.le_of_ble_eq_true rfl, Nat.le_of_ble_eq_true rfl⟩ dX3_number_1 ⟨Nat.le_of_ble_eq_true rfl, Nat.le_of_ble_eq_true rfl⟩ rfl ?_
  refine ro_bipush (v := nI 48) (q := 6) hX dX3_number_4 rfl rfl ?_
  refine ro_iload_n (i := 1) (q := 7) hX dX3_number_6 rfl rfl rfl ?_
  refine ro_iadd (q := 8) hX dX3_number_7 rfl ?_
  refine vv_top (y := nI (48 + lo)) (nI_add' rfl rfl) ?_
  refine ro_bipush (v := nI 57) (q := 10) hX dX3_number_8 rfl rfl ?_
  refine ro_callSi (q9 := 13) hX (m_in_t (by rw [inB_t (by omega) (by omega) (by omega)]; omega)) mw_X3_in kl_X3_24 rfl rfl (Nat.le_of_ble_eq_true rfl) ⟨Nat.le_of_ble_eq_true rfl, Nat.le_of_ble_eq_true rfl⟩ dX3_number_10 ⟨Nat.le_of_ble_eq_true rfl, Nat.le_of_ble_eq_true rfl⟩ rfl ?_
  refine ro_if_eq (tgt := 27) (q := 16) hX dX3_number_13 (by decide) rfl (fun q => absurd q (by decide)) (fun _ => ?_)
  refine ro_aload_n (i := 0) (q := 17) hX dX3_number_16 rfl rfl rfl ?_
  refine ro_callVi (q9 := 20) hX (m_sign hL hL8 hx hx2 (by omega)) mw_X3_sign kl_X3_164 (by decide) (fun cy => cell3 (by decide +kernel)) rfl rfl rfl (Nat.le_of_ble_eq_true rfl) ⟨Nat.le_of_ble_eq_true rfl, Nat.le_of_ble_eq_true rfl⟩ dX3_number_17 ⟨Nat.le_of_ble_eq_true rfl, Nat.le_of_ble_eq_true rfl⟩ rfl ?_
  refine ro_bipush (v := nI 48) (q := 22) hX dX3_number_20 rfl rfl ?_
  refine ro_isub (q := 23) hX dX3_number_22 rfl ?_
  refine vv_top (y := (nI (sgT L tx A - 48))) (ni_sub (by omega)) ?_
  refine ro_iload_n (i := 2) (q := 24) hX dX3_number_23 rfl rfl rfl ?_
  refine ro_icmp_le (tgt := 29) (q := 27) hX dX3_number_24 (by decide) rfl (fun q => absurd q (ni_nle (by omega) (by omega))) (fun _ => ?_)
  refine ro_iconst (v := (-1)) (q := 28) hX dX3_number_27 rfl rfl ?_
  exact fin_i hF (Nat.le_of_ble_eq_true rfl) (Nat.le_of_ble_eq_true rfl) dX3_number_28 (by rfl) (by rfl)
set_option maxRecDepth 20000 in
set_option maxHeartbeats 2000000 in
theorem m_number_c {L : Nat} {tx : Nat → Nat} (hL : F 0 5 = nI L) (hL8 : L ≤ 80) (hx : ∀ i, i < L → F 3 i = nI (tx i)) (hx2 : ∀ i, i < L → tx i < 128) {A : Nat} (hA : A ≤ 81) {l x y : Int32} {lo hi : Nat} (hlo : lo ≤ 1) (hhi : hi ≤ 9999) (hn : 48 + lo ≤ sgT L tx A ∧ sgT L tx A ≤ 57) (hb : sgT L tx A - 48 ≤ hi) {N : Nat} (hN : A + 1 + N ≤ 81) (hcc : ∀ k, k < N → nuC L tx hi A k) (hce : ¬ nuC L tx hi A N) : Does sz I_X3_number [.ref (sz + 75), .int (nI lo), .int (nI hi)] (patch G 75 4 (mS (tF F A l x y) s), T) 0 0 (.inl (some (nI (nuV L tx A N)))) (patch G 75 4 (mS (tF F (A + 1 + N) l x y) s), T) := by
  refine Does.of (L := [(0, .ref (sz + 75)), (1, .int (nI lo)), (2, .int (nI hi))]) (by decide +kernel) (Nat.le_of_ble_eq_true rfl) rfl ⟨rfl, (by simp), ⟨rfl, (by simp), ⟨rfl, (by simp), trivial⟩⟩⟩ (fun VV hF => ?_)
  have hX := hF.c
  have hs0 := sgT_lt (A := A) hx2
  have hvl := nuV_le hb hcc
  refine ro_aload_n (i := 0) (q := 1) hX dX3_number_0 rfl rfl rfl ?_
  refine ro_callVi (q9 := 4) hX (m_sign hL hL8 hx hx2 (by omega)) mw_X3_sign kl_X3_164 (by decide) (fun cy => cell3 (by decide +kernel)) rfl rfl rfl (Nat.le_of_ble_eq_true rfl) ⟨Nat.le_of_ble_eq_true rfl, Nat.le_of_ble_eq_true rfl⟩ dX3_number_1 ⟨Nat.le_of_ble_eq_true rfl, Nat.le_of_ble_eq_true rfl⟩ rfl ?_
  refine ro_bipush (v := nI 48) (q := 6) hX dX3_number_4 rfl rfl ?_
  refine ro_iload_n (i := 1) (q := 7) hX dX3_number_6 rfl rfl rfl ?_
  refine ro_iadd (q := 8) hX dX3_number_7 rfl ?_
  refine vv_top (y := nI (48 + lo)) (nI_add' rfl rfl) ?_
  refine ro_bipush (v := nI 57) (q := 10) hX dX3_number_8 rfl rfl ?_
  refine ro_callSi (q9 := 13) hX (m_in_t (by rw [inB_t (by omega) (by omega) (by omega)]; omega)) mw_X3_in kl_X3_24 rfl rfl (Nat.le_of_ble_eq_true rfl) ⟨Nat.le_of_ble_eq_true rfl, Nat.le_of_ble_eq_true rfl⟩ dX3_number_10 ⟨Nat.le_of_ble_eq_true rfl, Nat.le_of_ble_eq_true rfl⟩ rfl ?_
  refine ro_if_eq (tgt := 27) (q := 16) hX dX3_number_13 (by decide) rfl (fun q => absurd q (by decide)) (fun _ => ?_)
  refine ro_aload_n (i := 0) (q := 17) hX dX3_number_16 rfl rfl rfl ?_
  refine ro_callVi (q9 := 20) hX (m_sign hL hL8 hx hx2 (by omega)) mw_X3_sign kl_X3_164 (by decide) (fun cy => cell3 (by decide +kernel)) rfl rfl rfl (Nat.le_of_ble_eq_true rfl) ⟨Nat.le_of_ble_eq_true rfl, Nat.le_of_ble_eq_true rfl⟩ dX3_number_17 ⟨Nat.le_of_ble_eq_true rfl, Nat.le_of_ble_eq_true rfl⟩ rfl ?_
  refine ro_bipush (v := nI 48) (q := 22) hX dX3_number_20 rfl rfl ?_
  refine ro_isub (q := 23) hX dX3_number_22 rfl ?_
  refine vv_top (y := (nI (sgT L tx A - 48))) (ni_sub (by omega)) ?_
  refine ro_iload_n (i := 2) (q := 24) hX dX3_number_23 rfl rfl rfl ?_
  refine ro_icmp_le (tgt := 29) (q := 27) hX dX3_number_24 (by decide) rfl (fun _ => ?_) (fun q => absurd (ni_le (by omega) (by omega)) q)
  refine ro_aload_n (i := 0) (q := 30) hX dX3_number_29 rfl rfl rfl ?_
  refine ro_callVi (q9 := 33) hX (m_sign hL hL8 hx hx2 (by omega)) mw_X3_sign kl_X3_164 (by decide) (fun cy => cell3 (by decide +kernel)) rfl rfl rfl (Nat.le_of_ble_eq_true rfl) ⟨Nat.le_of_ble_eq_true rfl, Nat.le_of_ble_eq_true rfl⟩ dX3_number_30 ⟨Nat.le_of_ble_eq_true rfl, Nat.le_of_ble_eq_true rfl⟩ rfl ?_
  refine ro_bipush (v := nI 48) (q := 35) hX dX3_number_33 rfl rfl ?_
  refine ro_isub (q := 36) hX dX3_number_35 rfl ?_
  refine vv_top (y := (nI (nuV L tx A 0))) (ni_sub (by omega)) ?_
  refine ro_istore_n (i := 3) (q := 37) hX dX3_number_36 rfl (Nat.le_of_ble_eq_true rfl) rfl ?_
  refine ro_aload_n (i := 0) (q := 38) hX dX3_number_37 rfl rfl rfl ?_
  refine ro_dup (q := 39) hX dX3_number_38 rfl rfl ?_
  refine ro_Ngi (j := 6) (q9 := 42) (by decide) hX kf_X3_161 dX3_number_39 rfl ?_
  refine vv_top (y := (nI A)) (rfl) ?_
  refine ro_iconst (v := nI 1) (q := 43) hX dX3_number_42 rfl rfl ?_
  refine ro_iadd (q := 44) hX dX3_number_43 rfl ?_
  refine vv_top (y := nI (A + 1)) (nI_add' rfl rfl) ?_
  refine ro_Npi (j := 6) (q9 := 47) (ty := .int) (by decide) hX rfl rfl rfl kf_X3_161 dX3_number_44 rfl ?_
  refine vv_LM (L' := [(0, .ref (sz + 75)), (1, .int (nI lo)), (2, .int (nI hi)), (3, .int (nI (nuV L tx A 0)))]) (M' := (patch G 75 4 (mS (tF F (A + 1 + 0) l x y) s), T)) (by rfl) mT6 ?_
  refine down_ind (P := fun k47 => VV 0 0 47 [(0, .ref (sz + 75)), (1, .int (nI lo)), (2, .int (nI hi)), (3, .int (nI (nuV L tx A k47)))] [] (patch G 75 4 (mS (tF F (A + 1 + k47) l x y) s), T)) (N) (fun k47 hk47 ih47 => ?_) ?_
  · have ih47 : VV 0 0 47 [(0, .ref (sz + 75)), (1, .int (nI lo)), (2, .int (nI hi)), (3, .int (nI (nuV L tx A (k47 + 1))))] [] (patch G 75 4 (mS (tF F (A + 1 + (k47 + 1)) l x y) s), T) := ih47
    show VV 0 0 47 [(0, .ref (sz + 75)), (1, .int (nI lo)), (2, .int (nI hi)), (3, .int (nI (nuV L tx A k47)))] [] (patch G 75 4 (mS (tF F (A + 1 + k47) l x y) s), T)
    have hs1 := sgT_lt (A := A + 1 + k47) hx2
    have hv1 := hvl k47 (by omega)
    obtain ⟨c1, c2, c3⟩ := hcc k47 hk47
    refine ro_iload_n (i := 3) (q := 48) hX dX3_number_47 rfl rfl rfl ?_
    refine ro_if_le (tgt := 107) (q := 51) hX dX3_number_48 (by decide) rfl (fun q => absurd q (fun q => absurd (ni_le0 (by omega) |>.mp q) (by omega))) (fun _ => ?_)
    refine ro_aload_n (i := 0) (q := 52) hX dX3_number_51 rfl rfl rfl ?_
    refine ro_callVi (q9 := 55) hX (m_sign hL hL8 hx hx2 (by omega)) mw_X3_sign kl_X3_164 (by decide) (fun cy => cell3 (by decide +kernel)) rfl rfl rfl (Nat.le_of_ble_eq_true rfl) ⟨Nat.le_of_ble_eq_true rfl, Nat.le_of_ble_eq_true rfl⟩ dX3_number_52 ⟨Nat.le_of_ble_eq_true rfl, Nat.le_of_ble_eq_true rfl⟩ rfl ?_
    refine ro_bipush (v := nI 48) (q := 57) hX dX3_number_55 rfl rfl ?_
    refine ro_bipush (v := nI 57) (q := 59) hX dX3_number_57 rfl rfl ?_
    refine ro_callSi (q9 := 62) hX (m_inB) mw_X3_in kl_X3_24 rfl rfl (Nat.le_of_ble_eq_true rfl) ⟨Nat.le_of_ble_eq_true rfl, Nat.le_of_ble_eq_true rfl⟩ dX3_number_59 ⟨Nat.le_of_ble_eq_true rfl, Nat.le_of_ble_eq_true rfl⟩ rfl ?_
    refine ro_ifb_eq (tgt := 107) (q := 65) hX dX3_number_62 (by decide) rfl (fun q => absurd q (by rw [inB_f (by omega) (by omega) (by omega)]; omega)) (fun _ => ?_)
    refine ro_bipush (v := nI 10) (q := 67) hX dX3_number_65 rfl rfl ?_
    refine ro_iload_n (i := 3) (q := 68) hX dX3_number_67 rfl rfl rfl ?_
    refine ro_imul (q := 69) hX dX3_number_68 rfl ?_
    refine vv_top (y := nI (10 * (nuV L tx A k47))) (nI_mul' rfl rfl) ?_
    refine ro_aload_n (i := 0) (q := 70) hX dX3_number_69 rfl rfl rfl ?_
    refine ro_callVi (q9 := 73) hX (m_sign hL hL8 hx hx2 (by omega)) mw_X3_sign kl_X3_164 (by decide) (fun cy => cell3 (by decide +kernel)) rfl rfl rfl (Nat.le_of_ble_eq_true rfl) ⟨Nat.le_of_ble_eq_true rfl, Nat.le_of_ble_eq_true rfl⟩ dX3_number_70 ⟨Nat.le_of_ble_eq_true rfl, Nat.le_of_ble_eq_true rfl⟩ rfl ?_
    refine ro_iadd (q := 74) hX dX3_number_73 rfl ?_
    refine vv_top (y := nI (10 * (nuV L tx A k47) + (sgT L tx (A + 1 + k47)))) (nI_add' rfl rfl) ?_
    refine ro_bipush (v := nI 48) (q := 76) hX dX3_number_74 rfl rfl ?_
    refine ro_isub (q := 77) hX dX3_number_76 rfl ?_
    refine vv_top (y := (nI (10 * nuV L tx A k47 + sgT L tx (A + 1 + k47) - 48))) (ni_sub (by omega)) ?_
    refine ro_iload_n (i := 2) (q := 78) hX dX3_number_77 rfl rfl rfl ?_
    refine ro_icmp_gt (tgt := 107) (q := 81) hX dX3_number_78 (by decide) rfl (fun q => absurd q (ni_nlt (by omega) (by omega))) (fun _ => ?_)
    refine ro_bipush (v := nI 10) (q := 83) hX dX3_number_81 rfl rfl ?_
    refine ro_iload_n (i := 3) (q := 84) hX dX3_number_83 rfl rfl rfl ?_
    refine ro_imul (q := 85) hX dX3_number_84 rfl ?_
    refine vv_top (y := nI (10 * (nuV L tx A k47))) (nI_mul' rfl rfl) ?_
    refine ro_aload_n (i := 0) (q := 86) hX dX3_number_85 rfl rfl rfl ?_
    refine ro_callVi (q9 := 89) hX (m_sign hL hL8 hx hx2 (by omega)) mw_X3_sign kl_X3_164 (by decide) (fun cy => cell3 (by decide +kernel)) rfl rfl rfl (Nat.le_of_ble_eq_true rfl) ⟨Nat.le_of_ble_eq_true rfl, Nat.le_of_ble_eq_true rfl⟩ dX3_number_86 ⟨Nat.le_of_ble_eq_true rfl, Nat.le_of_ble_eq_true rfl⟩ rfl ?_
    refine ro_iadd (q := 90) hX dX3_number_89 rfl ?_
    refine vv_top (y := nI (10 * (nuV L tx A k47) + (sgT L tx (A + 1 + k47)))) (nI_add' rfl rfl) ?_
    refine ro_bipush (v := nI 48) (q := 92) hX dX3_number_90 rfl rfl ?_
    refine ro_isub (q := 93) hX dX3_number_92 rfl ?_
    refine vv_top (y := (nI (10 * nuV L tx A k47 + sgT L tx (A + 1 + k47) - 48))) (ni_sub (by omega)) ?_
    refine ro_istore_n (i := 3) (q := 94) hX dX3_number_93 rfl (Nat.le_of_ble_eq_true rfl) rfl ?_
    refine ro_aload_n (i := 0) (q := 95) hX dX3_number_94 rfl rfl rfl ?_
    refine ro_dup (q := 96) hX dX3_number_95 rfl rfl ?_
    refine ro_Ngi (j := 6) (q9 := 99) (by decide) hX kf_X3_161 dX3_number_96 rfl ?_
    refine vv_top (y := (nI (A + 1 + k47))) (rfl) ?_
    refine ro_iconst (v := nI 1) (q := 100) hX dX3_number_99 rfl rfl ?_
    refine ro_iadd (q := 101) hX dX3_number_100 rfl ?_
    refine vv_top (y := nI (A + 1 + k47 + 1)) (nI_add' rfl rfl) ?_
    refine ro_Npi (j := 6) (q9 := 104) (ty := .int) (by decide) hX rfl rfl rfl kf_X3_161 dX3_number_101 rfl ?_
    refine ro_goto (tgt := 47) hX dX3_number_104 (by decide) ?_
    have hs1 := sgT_lt (A := A + 1 + k47) hx2
    have hv1 := hvl k47 (by omega)
    obtain ⟨c1, c2, c3⟩ := hcc k47 hk47
    exact vv_LM (by rfl) mT6 ih47
  · show VV 0 0 47 [(0, .ref (sz + 75)), (1, .int (nI lo)), (2, .int (nI hi)), (3, .int (nI (nuV L tx A N)))] [] (patch G 75 4 (mS (tF F (A + 1 + N) l x y) s), T)
    have hs1 := sgT_lt (A := A + 1 + N) hx2
    have hv1 := hvl N (by omega)
    refine ro_iload_n (i := 3) (q := 48) hX dX3_number_47 rfl rfl rfl ?_
    refine ro_if_le (tgt := 107) (q := 51) hX dX3_number_48 (by decide) rfl (fun q1 => ?_) (fun q1 => ?_)
    · rw [ni_le0 (by omega)] at q1
      refine ro_iload_n (i := 3) (q := 108) hX dX3_number_107 rfl rfl rfl ?_
      exact fin_i hF (Nat.le_of_ble_eq_true rfl) (Nat.le_of_ble_eq_true rfl) dX3_number_108 (by rfl) (by rfl)
    · rw [ni_le0 (by omega)] at q1
      refine ro_aload_n (i := 0) (q := 52) hX dX3_number_51 rfl rfl rfl ?_
      refine ro_callVi (q9 := 55) hX (m_sign hL hL8 hx hx2 (by omega)) mw_X3_sign kl_X3_164 (by decide) (fun cy => cell3 (by decide +kernel)) rfl rfl rfl (Nat.le_of_ble_eq_true rfl) ⟨Nat.le_of_ble_eq_true rfl, Nat.le_of_ble_eq_true rfl⟩ dX3_number_52 ⟨Nat.le_of_ble_eq_true rfl, Nat.le_of_ble_eq_true rfl⟩ rfl ?_
      refine ro_bipush (v := nI 48) (q := 57) hX dX3_number_55 rfl rfl ?_
      refine ro_bipush (v := nI 57) (q := 59) hX dX3_number_57 rfl rfl ?_
      refine ro_callSi (q9 := 62) hX (m_inB) mw_X3_in kl_X3_24 rfl rfl (Nat.le_of_ble_eq_true rfl) ⟨Nat.le_of_ble_eq_true rfl, Nat.le_of_ble_eq_true rfl⟩ dX3_number_59 ⟨Nat.le_of_ble_eq_true rfl, Nat.le_of_ble_eq_true rfl⟩ rfl ?_
      refine ro_ifb_eq (tgt := 107) (q := 65) hX dX3_number_62 (by decide) rfl (fun q2 => ?_) (fun q2 => ?_)
      · first | rw [inB_t (by omega) (by omega) (by omega)] at q2 | rw [inB_f (by omega) (by omega) (by omega)] at q2
        refine ro_iload_n (i := 3) (q := 108) hX dX3_number_107 rfl rfl rfl ?_
        exact fin_i hF (Nat.le_of_ble_eq_true rfl) (Nat.le_of_ble_eq_true rfl) dX3_number_108 (by rfl) (by rfl)
      · first | rw [inB_t (by omega) (by omega) (by omega)] at q2 | rw [inB_f (by omega) (by omega) (by omega)] at q2
        refine ro_bipush (v := nI 10) (q := 67) hX dX3_number_65 rfl rfl ?_
        refine ro_iload_n (i := 3) (q := 68) hX dX3_number_67 rfl rfl rfl ?_
        refine ro_imul (q := 69) hX dX3_number_68 rfl ?_
        refine vv_top (y := nI (10 * (nuV L tx A N))) (nI_mul' rfl rfl) ?_
        refine ro_aload_n (i := 0) (q := 70) hX dX3_number_69 rfl rfl rfl ?_
        refine ro_callVi (q9 := 73) hX (m_sign hL hL8 hx hx2 (by omega)) mw_X3_sign kl_X3_164 (by decide) (fun cy => cell3 (by decide +kernel)) rfl rfl rfl (Nat.le_of_ble_eq_true rfl) ⟨Nat.le_of_ble_eq_true rfl, Nat.le_of_ble_eq_true rfl⟩ dX3_number_70 ⟨Nat.le_of_ble_eq_true rfl, Nat.le_of_ble_eq_true rfl⟩ rfl ?_
        refine ro_iadd (q := 74) hX dX3_number_73 rfl ?_
        refine vv_top (y := nI (10 * (nuV L tx A N) + (sgT L tx (A + 1 + N)))) (nI_add' rfl rfl) ?_
        refine ro_bipush (v := nI 48) (q := 76) hX dX3_number_74 rfl rfl ?_
        refine ro_isub (q := 77) hX dX3_number_76 rfl ?_
        refine vv_top (y := (nI (10 * nuV L tx A N + sgT L tx (A + 1 + N) - 48))) (ni_sub (by omega)) ?_
        refine ro_iload_n (i := 2) (q := 78) hX dX3_number_77 rfl rfl rfl ?_
        refine ro_icmp_gt (tgt := 107) (q := 81) hX dX3_number_78 (by decide) rfl (fun _ => ?_) (fun q => absurd (ni_lt (by omega) (by omega)) q)
        refine ro_iload_n (i := 3) (q := 108) hX dX3_number_107 rfl rfl rfl ?_
        exact fin_i hF (Nat.le_of_ble_eq_true rfl) (Nat.le_of_ble_eq_true rfl) dX3_number_108 (by rfl) (by rfl)
theorem nuA_le {L : Nat} {tx : Nat → Nat} {lo hi A : Nat} (hL8 : L ≤ 80) (hA : A ≤ 80) : nuA L tx lo hi A ≤ 80 ∧ A ≤ nuA L tx lo hi A := by
  unfold nuA
  split
  · rename_i h
    have h1 := nuN_lt (tx := tx) (hi := hi) (A := A) hL8
    have h2 := h.1
    unfold sgT at h2
    split at h2 <;> omega
  · omega
theorem nuR_le {L : Nat} {tx : Nat → Nat} {lo hi A k : Nat} (h : nuR L tx lo hi A = some k) : k ≤ hi := by
  unfold nuR at h
  split at h
  · rename_i ho
    cases h
    exact nuV_le (N := nuN L tx hi A) ho.2 (fun k hk => nuN_c hk) _ (Nat.le_refl _)
  · cases h
theorem nuR_oN {L : Nat} {tx : Nat → Nat} {lo hi A : Nat} (hhi : hi ≤ 9999) : oN (nuR L tx lo hi A) = -1 ↔ nuR L tx lo hi A = none := by
  cases hn : nuR L tx lo hi A with
  | none => simp [oN]
  | some k =>
    have := nuR_le hn
    simp [oN, ni_m1 (k := k) (by omega)]
theorem m_number {L : Nat} {tx : Nat → Nat} (hL : F 0 5 = nI L) (hL8 : L ≤ 80) (hx : ∀ i, i < L → F 3 i = nI (tx i)) (hx2 : ∀ i, i < L → tx i < 128) {A : Nat} (hA : A ≤ 80) {l x y : Int32} {lo hi : Nat} (hlo : lo ≤ 1) (hhi : hi ≤ 9999) : Does sz I_X3_number [.ref (sz + 75), .int (nI lo), .int (nI hi)] (patch G 75 4 (mS (tF F A l x y) s), T) 0 0 (.inl (some (oN (nuR L tx lo hi A)))) (patch G 75 4 (mS (tF F (nuA L tx lo hi A) l x y) s), T) := by
  unfold nuR nuA
  by_cases h1 : 48 + lo ≤ sgT L tx A ∧ sgT L tx A ≤ 57
  · by_cases h2 : sgT L tx A - 48 ≤ hi
    · have h := nuA_le (tx := tx) (lo := lo) (hi := hi) hL8 hA
      unfold nuA at h
      rw [if_pos ⟨h1, h2⟩] at h
      rw [if_pos ⟨h1, h2⟩, if_pos ⟨h1, h2⟩]
      exact m_number_c hL hL8 hx hx2 (by omega) hlo hhi h1 h2 (by omega) (fun k hk => nuN_c hk) (nuN_n hL8)
    · rw [if_neg (fun h => h2 h.2), if_neg (fun h => h2 h.2)]
      exact m_number_b hL hL8 hx hx2 (by omega) hlo hhi h1 h2
  · rw [if_neg (fun h => h1 h.1), if_neg (fun h => h1 h.1)]
    exact m_number_a hL hL8 hx hx2 (by omega) hlo hhi h1
end
