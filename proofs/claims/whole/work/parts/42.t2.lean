section
variable {sz r : Nat} {G : Nat → Nat → Int32} {T : (Nat → Nat) × Int64} {F : SV} {s : NV}
set_option maxRecDepth 20000 in
set_option maxHeartbeats 2000000 in
theorem m_readsOne_0 {L : Nat} {tx : Nat → Nat} (hL : F 0 5 = nI L) (hL8 : L ≤ 80) (hx : ∀ i, i < L → F 3 i = nI (tx i)) (hx2 : ∀ i, i < L → tx i < 128) {A : Nat} (hA : A ≤ 80) {l x y : Int32} {lo hi : Nat} (hlo : lo ≤ 1) (hhi : hi ≤ 9999) (hn : nuR L tx lo hi A = none) : Does sz I_X3_readsOne [.ref (sz + 75), .int (nI lo), .int (nI hi)] (patch G 75 4 (mS (tF F A l x y) s), T) 0 0 (.inl (some (nI 0))) (patch G 75 4 (mS (mRC F (r1T L tx lo hi A l y)) s), T) := by
  refine Does.of (L := [(0, .ref (sz + 75)), (1, .int (nI lo)), (2, .int (nI hi))]) (by decide +kernel) (Nat.le_of_ble_eq_true rfl) rfl ⟨rfl, (by simp), ⟨rfl, (by simp), ⟨rfl, (by simp), trivial⟩⟩⟩ (fun VV hF => ?_)
  have hX := hF.c
  refine ro_aload_n (i := 0) (q := 1) hX dX3_readsOne_0 rfl rfl rfl ?_
  refine ro_aload_n (i := 0) (q := 2) hX dX3_readsOne_1 rfl rfl rfl ?_
  refine ro_iload_n (i := 1) (q := 3) hX dX3_readsOne_2 rfl rfl rfl ?_
  refine ro_iload_n (i := 2) (q := 4) hX dX3_readsOne_3 rfl rfl rfl ?_
  refine ro_callVi (q9 := 7) hX (m_number hL hL8 hx hx2 (by omega) (by omega) (by omega)) mw_X3_number kl_X3_168 (by decide) (fun cy => cell3 (by decide +kernel)) rfl rfl rfl (Nat.le_of_ble_eq_true rfl) ⟨Nat.le_of_ble_eq_true rfl, Nat.le_of_ble_eq_true rfl⟩ dX3_readsOne_4 ⟨Nat.le_of_ble_eq_true rfl, Nat.le_of_ble_eq_true rfl⟩ rfl ?_
  refine ro_Npi (j := 8) (q9 := 10) (ty := .int) (by decide) hX rfl rfl rfl kf_X3_171 dX3_readsOne_7 rfl ?_
  refine ro_aload_n (i := 0) (q := 11) hX dX3_readsOne_10 rfl rfl rfl ?_
  refine ro_Ngi (j := 8) (q9 := 14) (by decide) hX kf_X3_171 dX3_readsOne_11 rfl ?_
  refine ro_iconst (v := (-1)) (q := 15) hX dX3_readsOne_14 rfl rfl ?_
  refine ro_icmp_eq (tgt := 22) (q := 18) hX dX3_readsOne_15 (by decide) rfl (fun _ => ?_) (fun q => absurd (by rw [hn]; rfl) q)
  refine ro_iconst (v := nI 0) (q := 23) hX dX3_readsOne_22 rfl rfl ?_
  exact fin_z hF (Nat.le_of_ble_eq_true rfl) (Nat.le_of_ble_eq_true rfl) dX3_readsOne_23 rfl (by rfl) (by exact mT8)
set_option maxRecDepth 20000 in
set_option maxHeartbeats 2000000 in
theorem m_readsOne_1 {L : Nat} {tx : Nat → Nat} (hL : F 0 5 = nI L) (hL8 : L ≤ 80) (hx : ∀ i, i < L → F 3 i = nI (tx i)) (hx2 : ∀ i, i < L → tx i < 128) {A : Nat} (hA : A ≤ 80) {l x y : Int32} {lo hi : Nat} (hlo : lo ≤ 1) (hhi : hi ≤ 9999) (hn : ¬ nuR L tx lo hi A = none) : Does sz I_X3_readsOne [.ref (sz + 75), .int (nI lo), .int (nI hi)] (patch G 75 4 (mS (tF F A l x y) s), T) 0 0 (.inl (some (nI 1))) (patch G 75 4 (mS (mRC F (r1T L tx lo hi A l y)) s), T) := by
  refine Does.of (L := [(0, .ref (sz + 75)), (1, .int (nI lo)), (2, .int (nI hi))]) (by decide +kernel) (Nat.le_of_ble_eq_true rfl) rfl ⟨rfl, (by simp), ⟨rfl, (by simp), ⟨rfl, (by simp), trivial⟩⟩⟩ (fun VV hF => ?_)
  have hX := hF.c
  refine ro_aload_n (i := 0) (q := 1) hX dX3_readsOne_0 rfl rfl rfl ?_
  refine ro_aload_n (i := 0) (q := 2) hX dX3_readsOne_1 rfl rfl rfl ?_
  refine ro_iload_n (i := 1) (q := 3) hX dX3_readsOne_2 rfl rfl rfl ?_
  refine ro_iload_n (i := 2) (q := 4) hX dX3_readsOne_3 rfl rfl rfl ?_
  refine ro_callVi (q9 := 7) hX (m_number hL hL8 hx hx2 (by omega) (by omega) (by omega)) mw_X3_number kl_X3_168 (by decide) (fun cy => cell3 (by decide +kernel)) rfl rfl rfl (Nat.le_of_ble_eq_true rfl) ⟨Nat.le_of_ble_eq_true rfl, Nat.le_of_ble_eq_true rfl⟩ dX3_readsOne_4 ⟨Nat.le_of_ble_eq_true rfl, Nat.le_of_ble_eq_true rfl⟩ rfl ?_
  refine ro_Npi (j := 8) (q9 := 10) (ty := .int) (by decide) hX rfl rfl rfl kf_X3_171 dX3_readsOne_7 rfl ?_
  refine ro_aload_n (i := 0) (q := 11) hX dX3_readsOne_10 rfl rfl rfl ?_
  refine ro_Ngi (j := 8) (q9 := 14) (by decide) hX kf_X3_171 dX3_readsOne_11 rfl ?_
  refine ro_iconst (v := (-1)) (q := 15) hX dX3_readsOne_14 rfl rfl ?_
  refine ro_icmp_eq (tgt := 22) (q := 18) hX dX3_readsOne_15 (by decide) rfl (fun q => absurd q (fun q => hn ((nuR_oN hhi).mp q))) (fun _ => ?_)
  refine ro_iconst (v := nI 1) (q := 19) hX dX3_readsOne_18 rfl rfl ?_
  refine ro_goto (tgt := 23) hX dX3_readsOne_19 (by decide) ?_
  exact fin_z hF (Nat.le_of_ble_eq_true rfl) (Nat.le_of_ble_eq_true rfl) dX3_readsOne_23 rfl (by rfl) (by exact mT8)
theorem m_readsOne {L : Nat} {tx : Nat → Nat} (hL : F 0 5 = nI L) (hL8 : L ≤ 80) (hx : ∀ i, i < L → F 3 i = nI (tx i)) (hx2 : ∀ i, i < L → tx i < 128) {A : Nat} (hA : A ≤ 80) {l x y : Int32} {lo hi : Nat} (hlo : lo ≤ 1) (hhi : hi ≤ 9999) : Does sz I_X3_readsOne [.ref (sz + 75), .int (nI lo), .int (nI hi)] (patch G 75 4 (mS (tF F A l x y) s), T) 0 0 (.inl (some (bi (r1T L tx lo hi A l y).1))) (patch G 75 4 (mS (mRC F (r1T L tx lo hi A l y)) s), T) := by
  by_cases h : nuR L tx lo hi A = none
  · exact Does.M (m_readsOne_0 hL hL8 hx hx2 hA hlo hhi h) rfl (by unfold r1T; rw [h]; rfl) rfl
  · refine Does.M (m_readsOne_1 hL hL8 hx hx2 hA hlo hhi h) rfl ?_ rfl
    unfold r1T
    cases hn : nuR L tx lo hi A with
    | none => exact absurd hn h
    | some k => rfl
set_option maxRecDepth 20000 in
set_option maxHeartbeats 2000000 in
theorem m_readsTwo_a {L : Nat} {tx : Nat → Nat} (hL : F 0 5 = nI L) (hL8 : L ≤ 80) (hx : ∀ i, i < L → F 3 i = nI (tx i)) (hx2 : ∀ i, i < L → tx i < 128) {A : Nat} (hA : A ≤ 80) {l x y : Int32} {m1 l2 m2 : Nat} (hm1 : m1 ≤ 9999) (hl2 : l2 ≤ 1) (hm2 : m2 ≤ 9999) (hn : nuR L tx 0 m1 A = none) : Does sz I_X3_readsTwo [.ref (sz + 75), .int (nI m1), .int (nI l2), .int (nI m2)] (patch G 75 4 (mS (tF F A l x y) s), T) 0 0 (.inl (some (nI 0))) (patch G 75 4 (mS (mRC F (r2T L tx m1 l2 m2 A l y)) s), T) := by
  refine Does.of (L := [(0, .ref (sz + 75)), (1, .int (nI m1)), (2, .int (nI l2)), (3, .int (nI m2))]) (by decide +kernel) (Nat.le_of_ble_eq_true rfl) rfl ⟨rfl, (by simp), ⟨rfl, (by simp), ⟨rfl, (by simp), ⟨rfl, (by simp), trivial⟩⟩⟩⟩ (fun VV hF => ?_)
  have hX := hF.c
  refine ro_aload_n (i := 0) (q := 1) hX dX3_readsTwo_0 rfl rfl rfl ?_
  refine ro_aload_n (i := 0) (q := 2) hX dX3_readsTwo_1 rfl rfl rfl ?_
  refine ro_iconst (v := nI 0) (q := 3) hX dX3_readsTwo_2 rfl rfl ?_
  refine ro_iload_n (i := 1) (q := 4) hX dX3_readsTwo_3 rfl rfl rfl ?_
  refine ro_callVi (q9 := 7) hX (m_number hL hL8 hx hx2 (by omega) (by omega) (by omega)) mw_X3_number kl_X3_168 (by decide) (fun cy => cell3 (by decide +kernel)) rfl rfl rfl (Nat.le_of_ble_eq_true rfl) ⟨Nat.le_of_ble_eq_true rfl, Nat.le_of_ble_eq_true rfl⟩ dX3_readsTwo_4 ⟨Nat.le_of_ble_eq_true rfl, Nat.le_of_ble_eq_true rfl⟩ rfl ?_
  refine ro_Npi (j := 8) (q9 := 10) (ty := .int) (by decide) hX rfl rfl rfl kf_X3_171 dX3_readsTwo_7 rfl ?_
  refine vv_LM rfl mT8 ?_
  refine ro_aload_n (i := 0) (q := 11) hX dX3_readsTwo_10 rfl rfl rfl ?_
  refine ro_aload_n (i := 0) (q := 12) hX dX3_readsTwo_11 rfl rfl rfl ?_
  refine ro_Ngi (j := 8) (q9 := 15) (by decide) hX kf_X3_171 dX3_readsTwo_12 rfl ?_
  refine ro_iconst (v := (-1)) (q := 16) hX dX3_readsTwo_15 rfl rfl ?_
  refine ro_icmp_eq (tgt := 37) (q := 19) hX dX3_readsTwo_16 (by decide) rfl (fun _ => ?_) (fun q => absurd (by rw [hn]; rfl) q)
  refine ro_iconst (v := (-1)) (q := 38) hX dX3_readsTwo_37 rfl rfl ?_
  refine ro_Npi (j := 9) (q9 := 41) (ty := .int) (by decide) hX rfl rfl rfl kf_X3_177 dX3_readsTwo_38 rfl ?_
  refine ro_aload_n (i := 0) (q := 42) hX dX3_readsTwo_41 rfl rfl rfl ?_
  refine ro_Ngi (j := 9) (q9 := 45) (by decide) hX kf_X3_177 dX3_readsTwo_42 rfl ?_
  refine ro_iconst (v := (-1)) (q := 46) hX dX3_readsTwo_45 rfl rfl ?_
  refine ro_icmp_eq (tgt := 53) (q := 49) hX dX3_readsTwo_46 (by decide) rfl (fun _ => ?_) (fun q => absurd (rfl) q)
  refine ro_iconst (v := nI 0) (q := 54) hX dX3_readsTwo_53 rfl rfl ?_
  exact fin_z hF (Nat.le_of_ble_eq_true rfl) (Nat.le_of_ble_eq_true rfl) dX3_readsTwo_54 rfl (by rfl) (by rw [tF_9, hn]; unfold r2T; rw [if_pos hn]; rfl)
set_option maxRecDepth 20000 in
set_option maxHeartbeats 2000000 in
theorem m_readsTwo_b {L : Nat} {tx : Nat → Nat} (hL : F 0 5 = nI L) (hL8 : L ≤ 80) (hx : ∀ i, i < L → F 3 i = nI (tx i)) (hx2 : ∀ i, i < L → tx i < 128) {A : Nat} (hA : A ≤ 80) {l x y : Int32} {m1 l2 m2 : Nat} (hm1 : m1 ≤ 9999) (hl2 : l2 ≤ 1) (hm2 : m2 ≤ 9999) (hn : ¬ nuR L tx 0 m1 A = none) (hs : ¬ sgT L tx (nuA L tx 0 m1 A) = 44) : Does sz I_X3_readsTwo [.ref (sz + 75), .int (nI m1), .int (nI l2), .int (nI m2)] (patch G 75 4 (mS (tF F A l x y) s), T) 0 0 (.inl (some (nI 0))) (patch G 75 4 (mS (mRC F (r2T L tx m1 l2 m2 A l y)) s), T) := by
  refine Does.of (L := [(0, .ref (sz + 75)), (1, .int (nI m1)), (2, .int (nI l2)), (3, .int (nI m2))]) (by decide +kernel) (Nat.le_of_ble_eq_true rfl) rfl ⟨rfl, (by simp), ⟨rfl, (by simp), ⟨rfl, (by simp), ⟨rfl, (by simp), trivial⟩⟩⟩⟩ (fun VV hF => ?_)
  have hX := hF.c
  have hle := nuA_le (tx := tx) (lo := 0) (hi := m1) hL8 hA
  refine ro_aload_n (i := 0) (q := 1) hX dX3_readsTwo_0 rfl rfl rfl ?_
  refine ro_aload_n (i := 0) (q := 2) hX dX3_readsTwo_1 rfl rfl rfl ?_
  refine ro_iconst (v := nI 0) (q := 3) hX dX3_readsTwo_2 rfl rfl ?_
  refine ro_iload_n (i := 1) (q := 4) hX dX3_readsTwo_3 rfl rfl rfl ?_
  refine ro_callVi (q9 := 7) hX (m_number hL hL8 hx hx2 (by omega) (by omega) (by omega)) mw_X3_number kl_X3_168 (by decide) (fun cy => cell3 (by decide +kernel)) rfl rfl rfl (Nat.le_of_ble_eq_true rfl) ⟨Nat.le_of_ble_eq_true rfl, Nat.le_of_ble_eq_true rfl⟩ dX3_readsTwo_4 ⟨Nat.le_of_ble_eq_true rfl, Nat.le_of_ble_eq_true rfl⟩ rfl ?_
  refine ro_Npi (j := 8) (q9 := 10) (ty := .int) (by decide) hX rfl rfl rfl kf_X3_171 dX3_readsTwo_7 rfl ?_
  refine vv_LM rfl mT8 ?_
  refine ro_aload_n (i := 0) (q := 11) hX dX3_readsTwo_10 rfl rfl rfl ?_
  refine ro_aload_n (i := 0) (q := 12) hX dX3_readsTwo_11 rfl rfl rfl ?_
  refine ro_Ngi (j := 8) (q9 := 15) (by decide) hX kf_X3_171 dX3_readsTwo_12 rfl ?_
  refine ro_iconst (v := (-1)) (q := 16) hX dX3_readsTwo_15 rfl rfl ?_
  refine ro_icmp_eq (tgt := 37) (q := 19) hX dX3_readsTwo_16 (by decide) rfl (fun q => absurd q (fun q => hn ((nuR_oN hm1).mp q))) (fun _ => ?_)
  refine ro_aload_n (i := 0) (q := 20) hX dX3_readsTwo_19 rfl rfl rfl ?_
  refine ro_bipush (v := nI 44) (q := 22) hX dX3_readsTwo_20 rfl rfl ?_
  refine ro_callVi (q9 := 25) hX (m_takes_0 hL hL8 hx hx2 (by omega) (by decide) hs) mw_X3_takes kl_X3_174 (by decide) (fun cy => cell3 (by decide +kernel)) rfl rfl rfl (Nat.le_of_ble_eq_true rfl) ⟨Nat.le_of_ble_eq_true rfl, Nat.le_of_ble_eq_true rfl⟩ dX3_readsTwo_22 ⟨Nat.le_of_ble_eq_true rfl, Nat.le_of_ble_eq_true rfl⟩ rfl ?_
  refine ro_if_eq (tgt := 37) (q := 28) hX dX3_readsTwo_25 (by decide) rfl (fun _ => ?_) (fun q => absurd (by decide) q)
  refine ro_iconst (v := (-1)) (q := 38) hX dX3_readsTwo_37 rfl rfl ?_
  refine ro_Npi (j := 9) (q9 := 41) (ty := .int) (by decide) hX rfl rfl rfl kf_X3_177 dX3_readsTwo_38 rfl ?_
  refine ro_aload_n (i := 0) (q := 42) hX dX3_readsTwo_41 rfl rfl rfl ?_
  refine ro_Ngi (j := 9) (q9 := 45) (by decide) hX kf_X3_177 dX3_readsTwo_42 rfl ?_
  refine ro_iconst (v := (-1)) (q := 46) hX dX3_readsTwo_45 rfl rfl ?_
  refine ro_icmp_eq (tgt := 53) (q := 49) hX dX3_readsTwo_46 (by decide) rfl (fun _ => ?_) (fun q => absurd (rfl) q)
  refine ro_iconst (v := nI 0) (q := 54) hX dX3_readsTwo_53 rfl rfl ?_
  exact fin_z hF (Nat.le_of_ble_eq_true rfl) (Nat.le_of_ble_eq_true rfl) dX3_readsTwo_54 rfl (by rfl) (by rw [tF_9]; unfold r2T; rw [if_neg hn, if_neg hs]; rfl)
set_option maxRecDepth 20000 in
set_option maxHeartbeats 2000000 in
theorem m_readsTwo_0 {L : Nat} {tx : Nat → Nat} (hL : F 0 5 = nI L) (hL8 : L ≤ 80) (hx : ∀ i, i < L → F 3 i = nI (tx i)) (hx2 : ∀ i, i < L → tx i < 128) {A : Nat} (hA : A ≤ 80) {l x y : Int32} {m1 l2 m2 : Nat} (hm1 : m1 ≤ 9999) (hl2 : l2 ≤ 1) (hm2 : m2 ≤ 9999) (hn : ¬ nuR L tx 0 m1 A = none) (hs : sgT L tx (nuA L tx 0 m1 A) = 44) (hA2 : nuA L tx 0 m1 A < 80) (hn2 : nuR L tx l2 m2 (nuA L tx 0 m1 A + 1) = none) : Does sz I_X3_readsTwo [.ref (sz + 75), .int (nI m1), .int (nI l2), .int (nI m2)] (patch G 75 4 (mS (tF F A l x y) s), T) 0 0 (.inl (some (nI 0))) (patch G 75 4 (mS (mRC F (r2T L tx m1 l2 m2 A l y)) s), T) := by
  refine Does.of (L := [(0, .ref (sz + 75)), (1, .int (nI m1)), (2, .int (nI l2)), (3, .int (nI m2))]) (by decide +kernel) (Nat.le_of_ble_eq_true rfl) rfl ⟨rfl, (by simp), ⟨rfl, (by simp), ⟨rfl, (by simp), ⟨rfl, (by simp), trivial⟩⟩⟩⟩ (fun VV hF => ?_)
  have hX := hF.c
  have hle := nuA_le (tx := tx) (lo := 0) (hi := m1) hL8 hA
  refine ro_aload_n (i := 0) (q := 1) hX dX3_readsTwo_0 rfl rfl rfl ?_
  refine ro_aload_n (i := 0) (q := 2) hX dX3_readsTwo_1 rfl rfl rfl ?_
  refine ro_iconst (v := nI 0) (q := 3) hX dX3_readsTwo_2 rfl rfl ?_
  refine ro_iload_n (i := 1) (q := 4) hX dX3_readsTwo_3 rfl rfl rfl ?_
  refine ro_callVi (q9 := 7) hX (m_number hL hL8 hx hx2 (by omega) (by omega) (by omega)) mw_X3_number kl_X3_168 (by decide) (fun cy => cell3 (by decide +kernel)) rfl rfl rfl (Nat.le_of_ble_eq_true rfl) ⟨Nat.le_of_ble_eq_true rfl, Nat.le_of_ble_eq_true rfl⟩ dX3_readsTwo_4 ⟨Nat.le_of_ble_eq_true rfl, Nat.le_of_ble_eq_true rfl⟩ rfl ?_
  refine ro_Npi (j := 8) (q9 := 10) (ty := .int) (by decide) hX rfl rfl rfl kf_X3_171 dX3_readsTwo_7 rfl ?_
  refine vv_LM rfl mT8 ?_
  refine ro_aload_n (i := 0) (q := 11) hX dX3_readsTwo_10 rfl rfl rfl ?_
  refine ro_aload_n (i := 0) (q := 12) hX dX3_readsTwo_11 rfl rfl rfl ?_
  refine ro_Ngi (j := 8) (q9 := 15) (by decide) hX kf_X3_171 dX3_readsTwo_12 rfl ?_
  refine ro_iconst (v := (-1)) (q := 16) hX dX3_readsTwo_15 rfl rfl ?_
  refine ro_icmp_eq (tgt := 37) (q := 19) hX dX3_readsTwo_16 (by decide) rfl (fun q => absurd q (fun q => hn ((nuR_oN hm1).mp q))) (fun _ => ?_)
  refine ro_aload_n (i := 0) (q := 20) hX dX3_readsTwo_19 rfl rfl rfl ?_
  refine ro_bipush (v := nI 44) (q := 22) hX dX3_readsTwo_20 rfl rfl ?_
  refine ro_callVi (q9 := 25) hX (m_takes_1 hL hL8 hx hx2 (by omega) (by decide) hs) mw_X3_takes kl_X3_174 (by decide) (fun cy => cell3 (by decide +kernel)) rfl rfl rfl (Nat.le_of_ble_eq_true rfl) ⟨Nat.le_of_ble_eq_true rfl, Nat.le_of_ble_eq_true rfl⟩ dX3_readsTwo_22 ⟨Nat.le_of_ble_eq_true rfl, Nat.le_of_ble_eq_true rfl⟩ rfl ?_
  refine ro_if_eq (tgt := 37) (q := 28) hX dX3_readsTwo_25 (by decide) rfl (fun q => absurd q (by decide)) (fun _ => ?_)
  refine ro_aload_n (i := 0) (q := 29) hX dX3_readsTwo_28 rfl rfl rfl ?_
  refine ro_iload_n (i := 2) (q := 30) hX dX3_readsTwo_29 rfl rfl rfl ?_
  refine ro_iload_n (i := 3) (q := 31) hX dX3_readsTwo_30 rfl rfl rfl ?_
  refine ro_callVi (q9 := 34) hX (m_number hL hL8 hx hx2 (by omega) (by omega) (by omega)) mw_X3_number kl_X3_168 (by decide) (fun cy => cell3 (by decide +kernel)) rfl rfl rfl (Nat.le_of_ble_eq_true rfl) ⟨Nat.le_of_ble_eq_true rfl, Nat.le_of_ble_eq_true rfl⟩ dX3_readsTwo_31 ⟨Nat.le_of_ble_eq_true rfl, Nat.le_of_ble_eq_true rfl⟩ rfl ?_
  refine ro_goto (tgt := 38) hX dX3_readsTwo_34 (by decide) ?_
  refine ro_Npi (j := 9) (q9 := 41) (ty := .int) (by decide) hX rfl rfl rfl kf_X3_177 dX3_readsTwo_38 rfl ?_
  refine ro_aload_n (i := 0) (q := 42) hX dX3_readsTwo_41 rfl rfl rfl ?_
  refine ro_Ngi (j := 9) (q9 := 45) (by decide) hX kf_X3_177 dX3_readsTwo_42 rfl ?_
  refine ro_iconst (v := (-1)) (q := 46) hX dX3_readsTwo_45 rfl rfl ?_
  refine ro_icmp_eq (tgt := 53) (q := 49) hX dX3_readsTwo_46 (by decide) rfl (fun _ => ?_) (fun q => absurd (by rw [hn2]; rfl) q)
  refine ro_iconst (v := nI 0) (q := 54) hX dX3_readsTwo_53 rfl rfl ?_
  exact fin_z hF (Nat.le_of_ble_eq_true rfl) (Nat.le_of_ble_eq_true rfl) dX3_readsTwo_54 rfl (by rfl) (by rw [tF_9]; unfold r2T; rw [if_neg hn, if_pos hs]; rfl)
set_option maxRecDepth 20000 in
set_option maxHeartbeats 2000000 in
theorem m_readsTwo_1 {L : Nat} {tx : Nat → Nat} (hL : F 0 5 = nI L) (hL8 : L ≤ 80) (hx : ∀ i, i < L → F 3 i = nI (tx i)) (hx2 : ∀ i, i < L → tx i < 128) {A : Nat} (hA : A ≤ 80) {l x y : Int32} {m1 l2 m2 : Nat} (hm1 : m1 ≤ 9999) (hl2 : l2 ≤ 1) (hm2 : m2 ≤ 9999) (hn : ¬ nuR L tx 0 m1 A = none) (hs : sgT L tx (nuA L tx 0 m1 A) = 44) (hA2 : nuA L tx 0 m1 A < 80) (hn2 : ¬ nuR L tx l2 m2 (nuA L tx 0 m1 A + 1) = none) : Does sz I_X3_readsTwo [.ref (sz + 75), .int (nI m1), .int (nI l2), .int (nI m2)] (patch G 75 4 (mS (tF F A l x y) s), T) 0 0 (.inl (some (nI 1))) (patch G 75 4 (mS (mRC F (r2T L tx m1 l2 m2 A l y)) s), T) := by
  refine Does.of (L := [(0, .ref (sz + 75)), (1, .int (nI m1)), (2, .int (nI l2)), (3, .int (nI m2))]) (by decide +kernel) (Nat.le_of_ble_eq_true rfl) rfl ⟨rfl, (by simp), ⟨rfl, (by simp), ⟨rfl, (by simp), ⟨rfl, (by simp), trivial⟩⟩⟩⟩ (fun VV hF => ?_)
  have hX := hF.c
  have hle := nuA_le (tx := tx) (lo := 0) (hi := m1) hL8 hA
  refine ro_aload_n (i := 0) (q := 1) hX dX3_readsTwo_0 rfl rfl rfl ?_
  refine ro_aload_n (i := 0) (q := 2) hX dX3_readsTwo_1 rfl rfl rfl ?_
  refine ro_iconst (v := nI 0) (q := 3) hX dX3_readsTwo_2 rfl rfl ?_
  refine ro_iload_n (i := 1) (q := 4) hX dX3_readsTwo_3 rfl rfl rfl ?_
  refine ro_callVi (q9 := 7) hX (m_number hL hL8 hx hx2 (by omega) (by omega) (by omega)) mw_X3_number kl_X3_168 (by decide) (fun cy => cell3 (by decide +kernel)) rfl rfl rfl (Nat.le_of_ble_eq_true rfl) ⟨Nat.le_of_ble_eq_true rfl, Nat.le_of_ble_eq_true rfl⟩ dX3_readsTwo_4 ⟨Nat.le_of_ble_eq_true rfl, Nat.le_of_ble_eq_true rfl⟩ rfl ?_
  refine ro_Npi (j := 8) (q9 := 10) (ty := .int) (by decide) hX rfl rfl rfl kf_X3_171 dX3_readsTwo_7 rfl ?_
  refine vv_LM rfl mT8 ?_
  refine ro_aload_n (i := 0) (q := 11) hX dX3_readsTwo_10 rfl rfl rfl ?_
  refine ro_aload_n (i := 0) (q := 12) hX dX3_readsTwo_11 rfl rfl rfl ?_
  refine ro_Ngi (j := 8) (q9 := 15) (by decide) hX kf_X3_171 dX3_readsTwo_12 rfl ?_
  refine ro_iconst (v := (-1)) (q := 16) hX dX3_readsTwo_15 rfl rfl ?_
  refine ro_icmp_eq (tgt := 37) (q := 19) hX dX3_readsTwo_16 (by decide) rfl (fun q => absurd q (fun q => hn ((nuR_oN hm1).mp q))) (fun _ => ?_)
  refine ro_aload_n (i := 0) (q := 20) hX dX3_readsTwo_19 rfl rfl rfl ?_
  refine ro_bipush (v := nI 44) (q := 22) hX dX3_readsTwo_20 rfl rfl ?_
  refine ro_callVi (q9 := 25) hX (m_takes_1 hL hL8 hx hx2 (by omega) (by decide) hs) mw_X3_takes kl_X3_174 (by decide) (fun cy => cell3 (by decide +kernel)) rfl rfl rfl (Nat.le_of_ble_eq_true rfl) ⟨Nat.le_of_ble_eq_true rfl, Nat.le_of_ble_eq_true rfl⟩ dX3_readsTwo_22 ⟨Nat.le_of_ble_eq_true rfl, Nat.le_of_ble_eq_true rfl⟩ rfl ?_
  refine ro_if_eq (tgt := 37) (q := 28) hX dX3_readsTwo_25 (by decide) rfl (fun q => absurd q (by decide)) (fun _ => ?_)
  refine ro_aload_n (i := 0) (q := 29) hX dX3_readsTwo_28 rfl rfl rfl ?_
  refine ro_iload_n (i := 2) (q := 30) hX dX3_readsTwo_29 rfl rfl rfl ?_
  refine ro_iload_n (i := 3) (q := 31) hX dX3_readsTwo_30 rfl rfl rfl ?_
  refine ro_callVi (q9 := 34) hX (m_number hL hL8 hx hx2 (by omega) (by omega) (by omega)) mw_X3_number kl_X3_168 (by decide) (fun cy => cell3 (by decide +kernel)) rfl rfl rfl (Nat.le_of_ble_eq_true rfl) ⟨Nat.le_of_ble_eq_true rfl, Nat.le_of_ble_eq_true rfl⟩ dX3_readsTwo_31 ⟨Nat.le_of_ble_eq_true rfl, Nat.le_of_ble_eq_true rfl⟩ rfl ?_
  refine ro_goto (tgt := 38) hX dX3_readsTwo_34 (by decide) ?_
  refine ro_Npi (j := 9) (q9 := 41) (ty := .int) (by decide) hX rfl rfl rfl kf_X3_177 dX3_readsTwo_38 rfl ?_
  refine ro_aload_n (i := 0) (q := 42) hX dX3_readsTwo_41 rfl rfl rfl ?_
  refine ro_Ngi (j := 9) (q9 := 45) (by decide) hX kf_X3_177 dX3_readsTwo_42 rfl ?_
  refine ro_iconst (v := (-1)) (q := 46) hX dX3_readsTwo_45 rfl rfl ?_
  refine ro_icmp_eq (tgt := 53) (q := 49) hX dX3_readsTwo_46 (by decide) rfl (fun q => absurd q (fun q => hn2 ((nuR_oN hm2).mp q))) (fun _ => ?_)
  refine ro_iconst (v := nI 1) (q := 50) hX dX3_readsTwo_49 rfl rfl ?_
  refine ro_goto (tgt := 54) hX dX3_readsTwo_50 (by decide) ?_
  exact fin_z hF (Nat.le_of_ble_eq_true rfl) (Nat.le_of_ble_eq_true rfl) dX3_readsTwo_54 rfl (by rfl) (by rw [tF_9]; unfold r2T; rw [if_neg hn, if_pos hs]; rfl)
theorem m_readsTwo {L : Nat} {tx : Nat → Nat} (hL : F 0 5 = nI L) (hL8 : L ≤ 80) (hx : ∀ i, i < L → F 3 i = nI (tx i)) (hx2 : ∀ i, i < L → tx i < 128) {A : Nat} (hA : A ≤ 80) {l x y : Int32} {m1 l2 m2 : Nat} (hm1 : m1 ≤ 9999) (hl2 : l2 ≤ 1) (hm2 : m2 ≤ 9999) : Does sz I_X3_readsTwo [.ref (sz + 75), .int (nI m1), .int (nI l2), .int (nI m2)] (patch G 75 4 (mS (tF F A l x y) s), T) 0 0 (.inl (some (bi (r2T L tx m1 l2 m2 A l y).1))) (patch G 75 4 (mS (mRC F (r2T L tx m1 l2 m2 A l y)) s), T) := by
  by_cases h1 : nuR L tx 0 m1 A = none
  · exact Does.M (m_readsTwo_a hL hL8 hx hx2 hA hm1 hl2 hm2 h1) rfl (by unfold r2T; rw [if_pos h1]; rfl) rfl
  · by_cases h2 : sgT L tx (nuA L tx 0 m1 A) = 44
    · have h3 : nuA L tx 0 m1 A < 80 := by
        have := h2; unfold sgT at this; split at this <;> omega
      by_cases h4 : nuR L tx l2 m2 (nuA L tx 0 m1 A + 1) = none
      · exact Does.M (m_readsTwo_0 hL hL8 hx hx2 hA hm1 hl2 hm2 h1 h2 h3 h4) rfl (by unfold r2T; rw [if_neg h1, if_pos h2, h4]; rfl) rfl
      · refine Does.M (m_readsTwo_1 hL hL8 hx hx2 hA hm1 hl2 hm2 h1 h2 h3 h4) rfl ?_ rfl
        unfold r2T; rw [if_neg h1, if_pos h2]
        cases hn : nuR L tx l2 m2 (nuA L tx 0 m1 A + 1) with
        | none => exact absurd hn h4
        | some k => rfl
    · exact Does.M (m_readsTwo_b hL hL8 hx hx2 hA hm1 hl2 hm2 h1 h2) rfl (by unfold r2T; rw [if_neg h1, if_neg h2]; rfl) rfl
set_option maxRecDepth 20000 in
set_option maxHeartbeats 2000000 in
theorem m_rc_99 {L : Nat} {tx : Nat → Nat} (hL : F 0 5 = nI L) (hL8 : L ≤ 80) (hx : ∀ i, i < L → F 3 i = nI (tx i)) (hx2 : ∀ i, i < L → tx i < 128) {A : Nat} (hA : A ≤ 80) {l x y : Int32} (hA9 : A < 80) (hc : sgT L tx A = 99) : Does sz I_X3_readsCommand [.ref (sz + 75)] (patch G 75 4 (mS (tF F A l x y) s), T) 0 0 (.inl (some (bi (r1T L tx 0 5 (A + 1) (nI 99) y).1))) (patch G 75 4 (mS (mRC F (r1T L tx 0 5 (A + 1) (nI 99) y)) s), T) := by
  refine Does.of (L := [(0, .ref (sz + 75))]) (by decide +kernel) (Nat.le_of_ble_eq_true rfl) rfl ⟨rfl, (by simp), trivial⟩ (fun VV hF => ?_)
  have hX := hF.c
  refine ro_aload_n (i := 0) (q := 1) hX dX3_readsCommand_0 rfl rfl rfl ?_
  refine ro_aload_n (i := 0) (q := 2) hX dX3_readsCommand_1 rfl rfl rfl ?_
  refine ro_callVi (q9 := 5) hX (m_sign hL hL8 hx hx2 (by omega)) mw_X3_sign kl_X3_164 (by decide) (fun cy => cell3 (by decide +kernel)) rfl rfl rfl (Nat.le_of_ble_eq_true rfl) ⟨Nat.le_of_ble_eq_true rfl, Nat.le_of_ble_eq_true rfl⟩ dX3_readsCommand_2 ⟨Nat.le_of_ble_eq_true rfl, Nat.le_of_ble_eq_true rfl⟩ rfl ?_
  refine vv_top (y := (nI 99)) (by rw [hc]) ?_
  refine ro_Npi (j := 7) (q9 := 8) (ty := .int) (by decide) hX rfl rfl rfl kf_X3_180 dX3_readsCommand_5 rfl ?_
  refine vv_LM rfl mT7 ?_
  refine ro_aload_n (i := 0) (q := 9) hX dX3_readsCommand_8 rfl rfl rfl ?_
  refine ro_dup (q := 10) hX dX3_readsCommand_9 rfl rfl ?_
  refine ro_Ngi (j := 6) (q9 := 13) (by decide) hX kf_X3_161 dX3_readsCommand_10 rfl ?_
  refine vv_top (y := (nI A)) (rfl) ?_
  refine ro_iconst (v := nI 1) (q := 14) hX dX3_readsCommand_13 rfl rfl ?_
  refine ro_iadd (q := 15) hX dX3_readsCommand_14 rfl ?_
  refine vv_top (y := nI (A + 1)) (nI_add' rfl rfl) ?_
  refine ro_Npi (j := 6) (q9 := 18) (ty := .int) (by decide) hX rfl rfl rfl kf_X3_161 dX3_readsCommand_15 rfl ?_
  refine vv_LM rfl mT6 ?_
  refine ro_aload_n (i := 0) (q := 19) hX dX3_readsCommand_18 rfl rfl rfl ?_
  refine ro_Ngi (j := 7) (q9 := 22) (by decide) hX kf_X3_180 dX3_readsCommand_19 rfl ?_
  refine vv_top (y := (nI 99)) (rfl) ?_
  refine ro_tableIn (tgt := 162) (off := 140) hX dX3_readsCommand_22 (by decide) (by decide) (by decide +kernel) (by decide) ?_
  refine ro_aload_n (i := 0) (q := 163) hX dX3_readsCommand_162 rfl rfl rfl ?_
  refine ro_iconst (v := nI 0) (q := 164) hX dX3_readsCommand_163 rfl rfl ?_
  refine ro_iconst (v := nI 5) (q := 165) hX dX3_readsCommand_164 rfl rfl ?_
  refine ro_callVi (q9 := 168) hX (m_readsOne hL hL8 hx hx2 (by omega) (by decide) (by decide)) mw_X3_readsOne kl_X3_186 (by decide) (fun cy => cell3 (by decide +kernel)) rfl rfl rfl (Nat.le_of_ble_eq_true rfl) ⟨Nat.le_of_ble_eq_true rfl, Nat.le_of_ble_eq_true rfl⟩ dX3_readsCommand_165 ⟨Nat.le_of_ble_eq_true rfl, Nat.le_of_ble_eq_true rfl⟩ rfl ?_
  exact fin_z hF (Nat.le_of_ble_eq_true rfl) (Nat.le_of_ble_eq_true rfl) dX3_readsCommand_168 (bi_nar _) (by rfl) (by rfl)
set_option maxRecDepth 20000 in
set_option maxHeartbeats 2000000 in
theorem m_rc_100 {L : Nat} {tx : Nat → Nat} (hL : F 0 5 = nI L) (hL8 : L ≤ 80) (hx : ∀ i, i < L → F 3 i = nI (tx i)) (hx2 : ∀ i, i < L → tx i < 128) {A : Nat} (hA : A ≤ 80) {l x y : Int32} (hA9 : A < 80) (hc : sgT L tx A = 100) : Does sz I_X3_readsCommand [.ref (sz + 75)] (patch G 75 4 (mS (tF F A l x y) s), T) 0 0 (.inl (some (bi (r1T L tx 0 29 (A + 1) (nI 100) y).1))) (patch G 75 4 (mS (mRC F (r1T L tx 0 29 (A + 1) (nI 100) y)) s), T) := by
  refine Does.of (L := [(0, .ref (sz + 75))]) (by decide +kernel) (Nat.le_of_ble_eq_true rfl) rfl ⟨rfl, (by simp), trivial⟩ (fun VV hF => ?_)
  have hX := hF.c
  refine ro_aload_n (i := 0) (q := 1) hX dX3_readsCommand_0 rfl rfl rfl ?_
  refine ro_aload_n (i := 0) (q := 2) hX dX3_readsCommand_1 rfl rfl rfl ?_
  refine ro_callVi (q9 := 5) hX (m_sign hL hL8 hx hx2 (by omega)) mw_X3_sign kl_X3_164 (by decide) (fun cy => cell3 (by decide +kernel)) rfl rfl rfl (Nat.le_of_ble_eq_true rfl) ⟨Nat.le_of_ble_eq_true rfl, Nat.le_of_ble_eq_true rfl⟩ dX3_readsCommand_2 ⟨Nat.le_of_ble_eq_true rfl, Nat.le_of_ble_eq_true rfl⟩ rfl ?_
  refine vv_top (y := (nI 100)) (by rw [hc]) ?_
  refine ro_Npi (j := 7) (q9 := 8) (ty := .int) (by decide) hX rfl rfl rfl kf_X3_180 dX3_readsCommand_5 rfl ?_
  refine vv_LM rfl mT7 ?_
  refine ro_aload_n (i := 0) (q := 9) hX dX3_readsCommand_8 rfl rfl rfl ?_
  refine ro_dup (q := 10) hX dX3_readsCommand_9 rfl rfl ?_
  refine ro_Ngi (j := 6) (q9 := 13) (by decide) hX kf_X3_161 dX3_readsCommand_10 rfl ?_
  refine vv_top (y := (nI A)) (rfl) ?_
  refine ro_iconst (v := nI 1) (q := 14) hX dX3_readsCommand_13 rfl rfl ?_
  refine ro_iadd (q := 15) hX dX3_readsCommand_14 rfl ?_
  refine vv_top (y := nI (A + 1)) (nI_add' rfl rfl) ?_
  refine ro_Npi (j := 6) (q9 := 18) (ty := .int) (by decide) hX rfl rfl rfl kf_X3_161 dX3_readsCommand_15 rfl ?_
  refine vv_LM rfl mT6 ?_
  refine ro_aload_n (i := 0) (q := 19) hX dX3_readsCommand_18 rfl rfl rfl ?_
  refine ro_Ngi (j := 7) (q9 := 22) (by decide) hX kf_X3_180 dX3_readsCommand_19 rfl ?_
  refine vv_top (y := (nI 100)) (rfl) ?_
  refine ro_tableIn (tgt := 135) (off := 113) hX dX3_readsCommand_22 (by decide) (by decide) (by decide +kernel) (by decide) ?_
  refine ro_aload_n (i := 0) (q := 136) hX dX3_readsCommand_135 rfl rfl rfl ?_
  refine ro_iconst (v := nI 0) (q := 137) hX dX3_readsCommand_136 rfl rfl ?_
  refine ro_bipush (v := nI 29) (q := 139) hX dX3_readsCommand_137 rfl rfl ?_
  refine ro_callVi (q9 := 142) hX (m_readsOne hL hL8 hx hx2 (by omega) (by decide) (by decide)) mw_X3_readsOne kl_X3_186 (by decide) (fun cy => cell3 (by decide +kernel)) rfl rfl rfl (Nat.le_of_ble_eq_true rfl) ⟨Nat.le_of_ble_eq_true rfl, Nat.le_of_ble_eq_true rfl⟩ dX3_readsCommand_139 ⟨Nat.le_of_ble_eq_true rfl, Nat.le_of_ble_eq_true rfl⟩ rfl ?_
  exact fin_z hF (Nat.le_of_ble_eq_true rfl) (Nat.le_of_ble_eq_true rfl) dX3_readsCommand_142 (bi_nar _) (by rfl) (by rfl)
set_option maxRecDepth 20000 in
set_option maxHeartbeats 2000000 in
theorem m_rc_101 {L : Nat} {tx : Nat → Nat} (hL : F 0 5 = nI L) (hL8 : L ≤ 80) (hx : ∀ i, i < L → F 3 i = nI (tx i)) (hx2 : ∀ i, i < L → tx i < 128) {A : Nat} (hA : A ≤ 80) {l x y : Int32} (hA9 : A < 80) (hc : sgT L tx A = 101) : Does sz I_X3_readsCommand [.ref (sz + 75)] (patch G 75 4 (mS (tF F A l x y) s), T) 0 0 (.inl (some (nI 0))) (patch G 75 4 (mS (mRC F ((false, A, nI 101, x, y))) s), T) := by
  refine Does.of (L := [(0, .ref (sz + 75))]) (by decide +kernel) (Nat.le_of_ble_eq_true rfl) rfl ⟨rfl, (by simp), trivial⟩ (fun VV hF => ?_)
  have hX := hF.c
  refine ro_aload_n (i := 0) (q := 1) hX dX3_readsCommand_0 rfl rfl rfl ?_
  refine ro_aload_n (i := 0) (q := 2) hX dX3_readsCommand_1 rfl rfl rfl ?_
  refine ro_callVi (q9 := 5) hX (m_sign hL hL8 hx hx2 (by omega)) mw_X3_sign kl_X3_164 (by decide) (fun cy => cell3 (by decide +kernel)) rfl rfl rfl (Nat.le_of_ble_eq_true rfl) ⟨Nat.le_of_ble_eq_true rfl, Nat.le_of_ble_eq_true rfl⟩ dX3_readsCommand_2 ⟨Nat.le_of_ble_eq_true rfl, Nat.le_of_ble_eq_true rfl⟩ rfl ?_
  refine vv_top (y := (nI 101)) (by rw [hc]) ?_
  refine ro_Npi (j := 7) (q9 := 8) (ty := .int) (by decide) hX rfl rfl rfl kf_X3_180 dX3_readsCommand_5 rfl ?_
  refine vv_LM rfl mT7 ?_
  refine ro_aload_n (i := 0) (q := 9) hX dX3_readsCommand_8 rfl rfl rfl ?_
  refine ro_dup (q := 10) hX dX3_readsCommand_9 rfl rfl ?_
  refine ro_Ngi (j := 6) (q9 := 13) (by decide) hX kf_X3_161 dX3_readsCommand_10 rfl ?_
  refine vv_top (y := (nI A)) (rfl) ?_
  refine ro_iconst (v := nI 1) (q := 14) hX dX3_readsCommand_13 rfl rfl ?_
  refine ro_iadd (q := 15) hX dX3_readsCommand_14 rfl ?_
  refine vv_top (y := nI (A + 1)) (nI_add' rfl rfl) ?_
  refine ro_Npi (j := 6) (q9 := 18) (ty := .int) (by decide) hX rfl rfl rfl kf_X3_161 dX3_readsCommand_15 rfl ?_
  refine vv_LM rfl mT6 ?_
  refine ro_aload_n (i := 0) (q := 19) hX dX3_readsCommand_18 rfl rfl rfl ?_
  refine ro_Ngi (j := 7) (q9 := 22) (by decide) hX kf_X3_180 dX3_readsCommand_19 rfl ?_
  refine vv_top (y := (nI 101)) (rfl) ?_
  refine ro_tableIn (tgt := 178) (off := 156) hX dX3_readsCommand_22 (by decide) (by decide) (by decide +kernel) (by decide) ?_
  refine ro_aload_n (i := 0) (q := 179) hX dX3_readsCommand_178 rfl rfl rfl ?_
  refine ro_dup (q := 180) hX dX3_readsCommand_179 rfl rfl ?_
  refine ro_Ngi (j := 6) (q9 := 183) (by decide) hX kf_X3_161 dX3_readsCommand_180 rfl ?_
  refine vv_top (y := (nI (A + 1))) (rfl) ?_
  refine ro_iconst (v := nI 1) (q := 184) hX dX3_readsCommand_183 rfl rfl ?_
  refine ro_isub (q := 185) hX dX3_readsCommand_184 rfl ?_
  refine vv_top (y := (nI A)) (nI_pred A) ?_
  refine ro_Npi (j := 6) (q9 := 188) (ty := .int) (by decide) hX rfl rfl rfl kf_X3_161 dX3_readsCommand_185 rfl ?_
  refine ro_iconst (v := nI 0) (q := 189) hX dX3_readsCommand_188 rfl rfl ?_
  exact fin_z hF (Nat.le_of_ble_eq_true rfl) (Nat.le_of_ble_eq_true rfl) dX3_readsCommand_189 rfl (by rfl) (by exact mT6)
set_option maxRecDepth 20000 in
set_option maxHeartbeats 2000000 in
theorem m_rc_102 {L : Nat} {tx : Nat → Nat} (hL : F 0 5 = nI L) (hL8 : L ≤ 80) (hx : ∀ i, i < L → F 3 i = nI (tx i)) (hx2 : ∀ i, i < L → tx i < 128) {A : Nat} (hA : A ≤ 80) {l x y : Int32} (hA9 : A < 80) (hc : sgT L tx A = 102) : Does sz I_X3_readsCommand [.ref (sz + 75)] (patch G 75 4 (mS (tF F A l x y) s), T) 0 0 (.inl (some (nI 0))) (patch G 75 4 (mS (mRC F ((false, A, nI 102, x, y))) s), T) := by
  refine Does.of (L := [(0, .ref (sz + 75))]) (by decide +kernel) (Nat.le_of_ble_eq_true rfl) rfl ⟨rfl, (by simp), trivial⟩ (fun VV hF => ?_)
  have hX := hF.c
  refine ro_aload_n (i := 0) (q := 1) hX dX3_readsCommand_0 rfl rfl rfl ?_
  refine ro_aload_n (i := 0) (q := 2) hX dX3_readsCommand_1 rfl rfl rfl ?_
  refine ro_callVi (q9 := 5) hX (m_sign hL hL8 hx hx2 (by omega)) mw_X3_sign kl_X3_164 (by decide) (fun cy => cell3 (by decide +kernel)) rfl rfl rfl (Nat.le_of_ble_eq_true rfl) ⟨Nat.le_of_ble_eq_true rfl, Nat.le_of_ble_eq_true rfl⟩ dX3_readsCommand_2 ⟨Nat.le_of_ble_eq_true rfl, Nat.le_of_ble_eq_true rfl⟩ rfl ?_
  refine vv_top (y := (nI 102)) (by rw [hc]) ?_
  refine ro_Npi (j := 7) (q9 := 8) (ty := .int) (by decide) hX rfl rfl rfl kf_X3_180 dX3_readsCommand_5 rfl ?_
  refine vv_LM rfl mT7 ?_
  refine ro_aload_n (i := 0) (q := 9) hX dX3_readsCommand_8 rfl rfl rfl ?_
  refine ro_dup (q := 10) hX dX3_readsCommand_9 rfl rfl ?_
  refine ro_Ngi (j := 6) (q9 := 13) (by decide) hX kf_X3_161 dX3_readsCommand_10 rfl ?_
  refine vv_top (y := (nI A)) (rfl) ?_
  refine ro_iconst (v := nI 1) (q := 14) hX dX3_readsCommand_13 rfl rfl ?_
  refine ro_iadd (q := 15) hX dX3_readsCommand_14 rfl ?_
  refine vv_top (y := nI (A + 1)) (nI_add' rfl rfl) ?_
  refine ro_Npi (j := 6) (q9 := 18) (ty := .int) (by decide) hX rfl rfl rfl kf_X3_161 dX3_readsCommand_15 rfl ?_
  refine vv_LM rfl mT6 ?_
  refine ro_aload_n (i := 0) (q := 19) hX dX3_readsCommand_18 rfl rfl rfl ?_
  refine ro_Ngi (j := 7) (q9 := 22) (by decide) hX kf_X3_180 dX3_readsCommand_19 rfl ?_
  refine vv_top (y := (nI 102)) (rfl) ?_
  refine ro_tableIn (tgt := 178) (off := 156) hX dX3_readsCommand_22 (by decide) (by decide) (by decide +kernel) (by decide) ?_
  refine ro_aload_n (i := 0) (q := 179) hX dX3_readsCommand_178 rfl rfl rfl ?_
  refine ro_dup (q := 180) hX dX3_readsCommand_179 rfl rfl ?_
  refine ro_Ngi (j := 6) (q9 := 183) (by decide) hX kf_X3_161 dX3_readsCommand_180 rfl ?_
  refine vv_top (y := (nI (A + 1))) (rfl) ?_
  refine ro_iconst (v := nI 1) (q := 184) hX dX3_readsCommand_183 rfl rfl ?_
  refine ro_isub (q := 185) hX dX3_readsCommand_184 rfl ?_
  refine vv_top (y := (nI A)) (nI_pred A) ?_
  refine ro_Npi (j := 6) (q9 := 188) (ty := .int) (by decide) hX rfl rfl rfl kf_X3_161 dX3_readsCommand_185 rfl ?_
  refine ro_iconst (v := nI 0) (q := 189) hX dX3_readsCommand_188 rfl rfl ?_
  exact fin_z hF (Nat.le_of_ble_eq_true rfl) (Nat.le_of_ble_eq_true rfl) dX3_readsCommand_189 rfl (by rfl) (by exact mT6)
set_option maxRecDepth 20000 in
set_option maxHeartbeats 2000000 in
theorem m_rc_103 {L : Nat} {tx : Nat → Nat} (hL : F 0 5 = nI L) (hL8 : L ≤ 80) (hx : ∀ i, i < L → F 3 i = nI (tx i)) (hx2 : ∀ i, i < L → tx i < 128) {A : Nat} (hA : A ≤ 80) {l x y : Int32} (hA9 : A < 80) (hc : sgT L tx A = 103) : Does sz I_X3_readsCommand [.ref (sz + 75)] (patch G 75 4 (mS (tF F A l x y) s), T) 0 0 (.inl (some (nI 0))) (patch G 75 4 (mS (mRC F ((false, A, nI 103, x, y))) s), T) := by
  refine Does.of (L := [(0, .ref (sz + 75))]) (by decide +kernel) (Nat.le_of_ble_eq_true rfl) rfl ⟨rfl, (by simp), trivial⟩ (fun VV hF => ?_)
  have hX := hF.c
  refine ro_aload_n (i := 0) (q := 1) hX dX3_readsCommand_0 rfl rfl rfl ?_
  refine ro_aload_n (i := 0) (q := 2) hX dX3_readsCommand_1 rfl rfl rfl ?_
  refine ro_callVi (q9 := 5) hX (m_sign hL hL8 hx hx2 (by omega)) mw_X3_sign kl_X3_164 (by decide) (fun cy => cell3 (by decide +kernel)) rfl rfl rfl (Nat.le_of_ble_eq_true rfl) ⟨Nat.le_of_ble_eq_true rfl, Nat.le_of_ble_eq_true rfl⟩ dX3_readsCommand_2 ⟨Nat.le_of_ble_eq_true rfl, Nat.le_of_ble_eq_true rfl⟩ rfl ?_
  refine vv_top (y := (nI 103)) (by rw [hc]) ?_
  refine ro_Npi (j := 7) (q9 := 8) (ty := .int) (by decide) hX rfl rfl rfl kf_X3_180 dX3_readsCommand_5 rfl ?_
  refine vv_LM rfl mT7 ?_
  refine ro_aload_n (i := 0) (q := 9) hX dX3_readsCommand_8 rfl rfl rfl ?_
  refine ro_dup (q := 10) hX dX3_readsCommand_9 rfl rfl ?_
  refine ro_Ngi (j := 6) (q9 := 13) (by decide) hX kf_X3_161 dX3_readsCommand_10 rfl ?_
  refine vv_top (y := (nI A)) (rfl) ?_
  refine ro_iconst (v := nI 1) (q := 14) hX dX3_readsCommand_13 rfl rfl ?_
  refine ro_iadd (q := 15) hX dX3_readsCommand_14 rfl ?_
  refine vv_top (y := nI (A + 1)) (nI_add' rfl rfl) ?_
  refine ro_Npi (j := 6) (q9 := 18) (ty := .int) (by decide) hX rfl rfl rfl kf_X3_161 dX3_readsCommand_15 rfl ?_
  refine vv_LM rfl mT6 ?_
  refine ro_aload_n (i := 0) (q := 19) hX dX3_readsCommand_18 rfl rfl rfl ?_
  refine ro_Ngi (j := 7) (q9 := 22) (by decide) hX kf_X3_180 dX3_readsCommand_19 rfl ?_
  refine vv_top (y := (nI 103)) (rfl) ?_
  refine ro_tableIn (tgt := 178) (off := 156) hX dX3_readsCommand_22 (by decide) (by decide) (by decide +kernel) (by decide) ?_
  refine ro_aload_n (i := 0) (q := 179) hX dX3_readsCommand_178 rfl rfl rfl ?_
  refine ro_dup (q := 180) hX dX3_readsCommand_179 rfl rfl ?_
  refine ro_Ngi (j := 6) (q9 := 183) (by decide) hX kf_X3_161 dX3_readsCommand_180 rfl ?_
  refine vv_top (y := (nI (A + 1))) (rfl) ?_
  refine ro_iconst (v := nI 1) (q := 184) hX dX3_readsCommand_183 rfl rfl ?_
  refine ro_isub (q := 185) hX dX3_readsCommand_184 rfl ?_
  refine vv_top (y := (nI A)) (nI_pred A) ?_
  refine ro_Npi (j := 6) (q9 := 188) (ty := .int) (by decide) hX rfl rfl rfl kf_X3_161 dX3_readsCommand_185 rfl ?_
  refine ro_iconst (v := nI 0) (q := 189) hX dX3_readsCommand_188 rfl rfl ?_
  exact fin_z hF (Nat.le_of_ble_eq_true rfl) (Nat.le_of_ble_eq_true rfl) dX3_readsCommand_189 rfl (by rfl) (by exact mT6)
set_option maxRecDepth 20000 in
set_option maxHeartbeats 2000000 in
theorem m_rc_104 {L : Nat} {tx : Nat → Nat} (hL : F 0 5 = nI L) (hL8 : L ≤ 80) (hx : ∀ i, i < L → F 3 i = nI (tx i)) (hx2 : ∀ i, i < L → tx i < 128) {A : Nat} (hA : A ≤ 80) {l x y : Int32} (hA9 : A < 80) (hc : sgT L tx A = 104) : Does sz I_X3_readsCommand [.ref (sz + 75)] (patch G 75 4 (mS (tF F A l x y) s), T) 0 0 (.inl (some (nI 0))) (patch G 75 4 (mS (mRC F ((false, A, nI 104, x, y))) s), T) := by
  refine Does.of (L := [(0, .ref (sz + 75))]) (by decide +kernel) (Nat.le_of_ble_eq_true rfl) rfl ⟨rfl, (by simp), trivial⟩ (fun VV hF => ?_)
  have hX := hF.c
  refine ro_aload_n (i := 0) (q := 1) hX dX3_readsCommand_0 rfl rfl rfl ?_
  refine ro_aload_n (i := 0) (q := 2) hX dX3_readsCommand_1 rfl rfl rfl ?_
  refine ro_callVi (q9 := 5) hX (m_sign hL hL8 hx hx2 (by omega)) mw_X3_sign kl_X3_164 (by decide) (fun cy => cell3 (by decide +kernel)) rfl rfl rfl (Nat.le_of_ble_eq_true rfl) ⟨Nat.le_of_ble_eq_true rfl, Nat.le_of_ble_eq_true rfl⟩ dX3_readsCommand_2 ⟨Nat.le_of_ble_eq_true rfl, Nat.le_of_ble_eq_true rfl⟩ rfl ?_
  refine vv_top (y := (nI 104)) (by rw [hc]) ?_
  refine ro_Npi (j := 7) (q9 := 8) (ty := .int) (by decide) hX rfl rfl rfl kf_X3_180 dX3_readsCommand_5 rfl ?_
  refine vv_LM rfl mT7 ?_
  refine ro_aload_n (i := 0) (q := 9) hX dX3_readsCommand_8 rfl rfl rfl ?_
  refine ro_dup (q := 10) hX dX3_readsCommand_9 rfl rfl ?_
  refine ro_Ngi (j := 6) (q9 := 13) (by decide) hX kf_X3_161 dX3_readsCommand_10 rfl ?_
  refine vv_top (y := (nI A)) (rfl) ?_
  refine ro_iconst (v := nI 1) (q := 14) hX dX3_readsCommand_13 rfl rfl ?_
  refine ro_iadd (q := 15) hX dX3_readsCommand_14 rfl ?_
  refine vv_top (y := nI (A + 1)) (nI_add' rfl rfl) ?_
  refine ro_Npi (j := 6) (q9 := 18) (ty := .int) (by decide) hX rfl rfl rfl kf_X3_161 dX3_readsCommand_15 rfl ?_
  refine vv_LM rfl mT6 ?_
  refine ro_aload_n (i := 0) (q := 19) hX dX3_readsCommand_18 rfl rfl rfl ?_
  refine ro_Ngi (j := 7) (q9 := 22) (by decide) hX kf_X3_180 dX3_readsCommand_19 rfl ?_
  refine vv_top (y := (nI 104)) (rfl) ?_
  refine ro_tableIn (tgt := 178) (off := 156) hX dX3_readsCommand_22 (by decide) (by decide) (by decide +kernel) (by decide) ?_
  refine ro_aload_n (i := 0) (q := 179) hX dX3_readsCommand_178 rfl rfl rfl ?_
  refine ro_dup (q := 180) hX dX3_readsCommand_179 rfl rfl ?_
  refine ro_Ngi (j := 6) (q9 := 183) (by decide) hX kf_X3_161 dX3_readsCommand_180 rfl ?_
  refine vv_top (y := (nI (A + 1))) (rfl) ?_
  refine ro_iconst (v := nI 1) (q := 184) hX dX3_readsCommand_183 rfl rfl ?_
  refine ro_isub (q := 185) hX dX3_readsCommand_184 rfl ?_
  refine vv_top (y := (nI A)) (nI_pred A) ?_
  refine ro_Npi (j := 6) (q9 := 188) (ty := .int) (by decide) hX rfl rfl rfl kf_X3_161 dX3_readsCommand_185 rfl ?_
  refine ro_iconst (v := nI 0) (q := 189) hX dX3_readsCommand_188 rfl rfl ?_
  exact fin_z hF (Nat.le_of_ble_eq_true rfl) (Nat.le_of_ble_eq_true rfl) dX3_readsCommand_189 rfl (by rfl) (by exact mT6)
set_option maxRecDepth 20000 in
set_option maxHeartbeats 2000000 in
theorem m_rc_105 {L : Nat} {tx : Nat → Nat} (hL : F 0 5 = nI L) (hL8 : L ≤ 80) (hx : ∀ i, i < L → F 3 i = nI (tx i)) (hx2 : ∀ i, i < L → tx i < 128) {A : Nat} (hA : A ≤ 80) {l x y : Int32} (hA9 : A < 80) (hc : sgT L tx A = 105) : Does sz I_X3_readsCommand [.ref (sz + 75)] (patch G 75 4 (mS (tF F A l x y) s), T) 0 0 (.inl (some (nI 0))) (patch G 75 4 (mS (mRC F ((false, A, nI 105, x, y))) s), T) := by
  refine Does.of (L := [(0, .ref (sz + 75))]) (by decide +kernel) (Nat.le_of_ble_eq_true rfl) rfl ⟨rfl, (by simp), trivial⟩ (fun VV hF => ?_)
  have hX := hF.c
  refine ro_aload_n (i := 0) (q := 1) hX dX3_readsCommand_0 rfl rfl rfl ?_
  refine ro_aload_n (i := 0) (q := 2) hX dX3_readsCommand_1 rfl rfl rfl ?_
  refine ro_callVi (q9 := 5) hX (m_sign hL hL8 hx hx2 (by omega)) mw_X3_sign kl_X3_164 (by decide) (fun cy => cell3 (by decide +kernel)) rfl rfl rfl (Nat.le_of_ble_eq_true rfl) ⟨Nat.le_of_ble_eq_true rfl, Nat.le_of_ble_eq_true rfl⟩ dX3_readsCommand_2 ⟨Nat.le_of_ble_eq_true rfl, Nat.le_of_ble_eq_true rfl⟩ rfl ?_
  refine vv_top (y := (nI 105)) (by rw [hc]) ?_
  refine ro_Npi (j := 7) (q9 := 8) (ty := .int) (by decide) hX rfl rfl rfl kf_X3_180 dX3_readsCommand_5 rfl ?_
  refine vv_LM rfl mT7 ?_
  refine ro_aload_n (i := 0) (q := 9) hX dX3_readsCommand_8 rfl rfl rfl ?_
  refine ro_dup (q := 10) hX dX3_readsCommand_9 rfl rfl ?_
  refine ro_Ngi (j := 6) (q9 := 13) (by decide) hX kf_X3_161 dX3_readsCommand_10 rfl ?_
  refine vv_top (y := (nI A)) (rfl) ?_
  refine ro_iconst (v := nI 1) (q := 14) hX dX3_readsCommand_13 rfl rfl ?_
  refine ro_iadd (q := 15) hX dX3_readsCommand_14 rfl ?_
  refine vv_top (y := nI (A + 1)) (nI_add' rfl rfl) ?_
  refine ro_Npi (j := 6) (q9 := 18) (ty := .int) (by decide) hX rfl rfl rfl kf_X3_161 dX3_readsCommand_15 rfl ?_
  refine vv_LM rfl mT6 ?_
  refine ro_aload_n (i := 0) (q := 19) hX dX3_readsCommand_18 rfl rfl rfl ?_
  refine ro_Ngi (j := 7) (q9 := 22) (by decide) hX kf_X3_180 dX3_readsCommand_19 rfl ?_
  refine vv_top (y := (nI 105)) (rfl) ?_
  refine ro_tableIn (tgt := 178) (off := 156) hX dX3_readsCommand_22 (by decide) (by decide) (by decide +kernel) (by decide) ?_
  refine ro_aload_n (i := 0) (q := 179) hX dX3_readsCommand_178 rfl rfl rfl ?_
  refine ro_dup (q := 180) hX dX3_readsCommand_179 rfl rfl ?_
  refine ro_Ngi (j := 6) (q9 := 183) (by decide) hX kf_X3_161 dX3_readsCommand_180 rfl ?_
  refine vv_top (y := (nI (A + 1))) (rfl) ?_
  refine ro_iconst (v := nI 1) (q := 184) hX dX3_readsCommand_183 rfl rfl ?_
  refine ro_isub (q := 185) hX dX3_readsCommand_184 rfl ?_
  refine vv_top (y := (nI A)) (nI_pred A) ?_
  refine ro_Npi (j := 6) (q9 := 188) (ty := .int) (by decide) hX rfl rfl rfl kf_X3_161 dX3_readsCommand_185 rfl ?_
  refine ro_iconst (v := nI 0) (q := 189) hX dX3_readsCommand_188 rfl rfl ?_
  exact fin_z hF (Nat.le_of_ble_eq_true rfl) (Nat.le_of_ble_eq_true rfl) dX3_readsCommand_189 rfl (by rfl) (by exact mT6)
set_option maxRecDepth 20000 in
set_option maxHeartbeats 2000000 in
theorem m_rc_106 {L : Nat} {tx : Nat → Nat} (hL : F 0 5 = nI L) (hL8 : L ≤ 80) (hx : ∀ i, i < L → F 3 i = nI (tx i)) (hx2 : ∀ i, i < L → tx i < 128) {A : Nat} (hA : A ≤ 80) {l x y : Int32} (hA9 : A < 80) (hc : sgT L tx A = 106) : Does sz I_X3_readsCommand [.ref (sz + 75)] (patch G 75 4 (mS (tF F A l x y) s), T) 0 0 (.inl (some (nI 0))) (patch G 75 4 (mS (mRC F ((false, A, nI 106, x, y))) s), T) := by
  refine Does.of (L := [(0, .ref (sz + 75))]) (by decide +kernel) (Nat.le_of_ble_eq_true rfl) rfl ⟨rfl, (by simp), trivial⟩ (fun VV hF => ?_)
  have hX := hF.c
  refine ro_aload_n (i := 0) (q := 1) hX dX3_readsCommand_0 rfl rfl rfl ?_
  refine ro_aload_n (i := 0) (q := 2) hX dX3_readsCommand_1 rfl rfl rfl ?_
  refine ro_callVi (q9 := 5) hX (m_sign hL hL8 hx hx2 (by omega)) mw_X3_sign kl_X3_164 (by decide) (fun cy => cell3 (by decide +kernel)) rfl rfl rfl (Nat.le_of_ble_eq_true rfl) ⟨Nat.le_of_ble_eq_true rfl, Nat.le_of_ble_eq_true rfl⟩ dX3_readsCommand_2 ⟨Nat.le_of_ble_eq_true rfl, Nat.le_of_ble_eq_true rfl⟩ rfl ?_
  refine vv_top (y := (nI 106)) (by rw [hc]) ?_
  refine ro_Npi (j := 7) (q9 := 8) (ty := .int) (by decide) hX rfl rfl rfl kf_X3_180 dX3_readsCommand_5 rfl ?_
  refine vv_LM rfl mT7 ?_
  refine ro_aload_n (i := 0) (q := 9) hX dX3_readsCommand_8 rfl rfl rfl ?_
  refine ro_dup (q := 10) hX dX3_readsCommand_9 rfl rfl ?_
  refine ro_Ngi (j := 6) (q9 := 13) (by decide) hX kf_X3_161 dX3_readsCommand_10 rfl ?_
  refine vv_top (y := (nI A)) (rfl) ?_
  refine ro_iconst (v := nI 1) (q := 14) hX dX3_readsCommand_13 rfl rfl ?_
  refine ro_iadd (q := 15) hX dX3_readsCommand_14 rfl ?_
  refine vv_top (y := nI (A + 1)) (nI_add' rfl rfl) ?_
  refine ro_Npi (j := 6) (q9 := 18) (ty := .int) (by decide) hX rfl rfl rfl kf_X3_161 dX3_readsCommand_15 rfl ?_
  refine vv_LM rfl mT6 ?_
  refine ro_aload_n (i := 0) (q := 19) hX dX3_readsCommand_18 rfl rfl rfl ?_
  refine ro_Ngi (j := 7) (q9 := 22) (by decide) hX kf_X3_180 dX3_readsCommand_19 rfl ?_
  refine vv_top (y := (nI 106)) (rfl) ?_
  refine ro_tableIn (tgt := 178) (off := 156) hX dX3_readsCommand_22 (by decide) (by decide) (by decide +kernel) (by decide) ?_
  refine ro_aload_n (i := 0) (q := 179) hX dX3_readsCommand_178 rfl rfl rfl ?_
  refine ro_dup (q := 180) hX dX3_readsCommand_179 rfl rfl ?_
  refine ro_Ngi (j := 6) (q9 := 183) (by decide) hX kf_X3_161 dX3_readsCommand_180 rfl ?_
  refine vv_top (y := (nI (A + 1))) (rfl) ?_
  refine ro_iconst (v := nI 1) (q := 184) hX dX3_readsCommand_183 rfl rfl ?_
  refine ro_isub (q := 185) hX dX3_readsCommand_184 rfl ?_
  refine vv_top (y := (nI A)) (nI_pred A) ?_
  refine ro_Npi (j := 6) (q9 := 188) (ty := .int) (by decide) hX rfl rfl rfl kf_X3_161 dX3_readsCommand_185 rfl ?_
  refine ro_iconst (v := nI 0) (q := 189) hX dX3_readsCommand_188 rfl rfl ?_
  exact fin_z hF (Nat.le_of_ble_eq_true rfl) (Nat.le_of_ble_eq_true rfl) dX3_readsCommand_189 rfl (by rfl) (by exact mT6)
set_option maxRecDepth 20000 in
set_option maxHeartbeats 2000000 in
theorem m_rc_107 {L : Nat} {tx : Nat → Nat} (hL : F 0 5 = nI L) (hL8 : L ≤ 80) (hx : ∀ i, i < L → F 3 i = nI (tx i)) (hx2 : ∀ i, i < L → tx i < 128) {A : Nat} (hA : A ≤ 80) {l x y : Int32} (hA9 : A < 80) (hc : sgT L tx A = 107) : Does sz I_X3_readsCommand [.ref (sz + 75)] (patch G 75 4 (mS (tF F A l x y) s), T) 0 0 (.inl (some (nI 0))) (patch G 75 4 (mS (mRC F ((false, A, nI 107, x, y))) s), T) := by
  refine Does.of (L := [(0, .ref (sz + 75))]) (by decide +kernel) (Nat.le_of_ble_eq_true rfl) rfl ⟨rfl, (by simp), trivial⟩ (fun VV hF => ?_)
  have hX := hF.c
  refine ro_aload_n (i := 0) (q := 1) hX dX3_readsCommand_0 rfl rfl rfl ?_
  refine ro_aload_n (i := 0) (q := 2) hX dX3_readsCommand_1 rfl rfl rfl ?_
  refine ro_callVi (q9 := 5) hX (m_sign hL hL8 hx hx2 (by omega)) mw_X3_sign kl_X3_164 (by decide) (fun cy => cell3 (by decide +kernel)) rfl rfl rfl (Nat.le_of_ble_eq_true rfl) ⟨Nat.le_of_ble_eq_true rfl, Nat.le_of_ble_eq_true rfl⟩ dX3_readsCommand_2 ⟨Nat.le_of_ble_eq_true rfl, Nat.le_of_ble_eq_true rfl⟩ rfl ?_
  refine vv_top (y := (nI 107)) (by rw [hc]) ?_
  refine ro_Npi (j := 7) (q9 := 8) (ty := .int) (by decide) hX rfl rfl rfl kf_X3_180 dX3_readsCommand_5 rfl ?_
  refine vv_LM rfl mT7 ?_
  refine ro_aload_n (i := 0) (q := 9) hX dX3_readsCommand_8 rfl rfl rfl ?_
  refine ro_dup (q := 10) hX dX3_readsCommand_9 rfl rfl ?_
  refine ro_Ngi (j := 6) (q9 := 13) (by decide) hX kf_X3_161 dX3_readsCommand_10 rfl ?_
  refine vv_top (y := (nI A)) (rfl) ?_
  refine ro_iconst (v := nI 1) (q := 14) hX dX3_readsCommand_13 rfl rfl ?_
  refine ro_iadd (q := 15) hX dX3_readsCommand_14 rfl ?_
  refine vv_top (y := nI (A + 1)) (nI_add' rfl rfl) ?_
  refine ro_Npi (j := 6) (q9 := 18) (ty := .int) (by decide) hX rfl rfl rfl kf_X3_161 dX3_readsCommand_15 rfl ?_
  refine vv_LM rfl mT6 ?_
  refine ro_aload_n (i := 0) (q := 19) hX dX3_readsCommand_18 rfl rfl rfl ?_
  refine ro_Ngi (j := 7) (q9 := 22) (by decide) hX kf_X3_180 dX3_readsCommand_19 rfl ?_
  refine vv_top (y := (nI 107)) (rfl) ?_
  refine ro_tableIn (tgt := 178) (off := 156) hX dX3_readsCommand_22 (by decide) (by decide) (by decide +kernel) (by decide) ?_
  refine ro_aload_n (i := 0) (q := 179) hX dX3_readsCommand_178 rfl rfl rfl ?_
  refine ro_dup (q := 180) hX dX3_readsCommand_179 rfl rfl ?_
  refine ro_Ngi (j := 6) (q9 := 183) (by decide) hX kf_X3_161 dX3_readsCommand_180 rfl ?_
  refine vv_top (y := (nI (A + 1))) (rfl) ?_
  refine ro_iconst (v := nI 1) (q := 184) hX dX3_readsCommand_183 rfl rfl ?_
  refine ro_isub (q := 185) hX dX3_readsCommand_184 rfl ?_
  refine vv_top (y := (nI A)) (nI_pred A) ?_
  refine ro_Npi (j := 6) (q9 := 188) (ty := .int) (by decide) hX rfl rfl rfl kf_X3_161 dX3_readsCommand_185 rfl ?_
  refine ro_iconst (v := nI 0) (q := 189) hX dX3_readsCommand_188 rfl rfl ?_
  exact fin_z hF (Nat.le_of_ble_eq_true rfl) (Nat.le_of_ble_eq_true rfl) dX3_readsCommand_189 rfl (by rfl) (by exact mT6)
set_option maxRecDepth 20000 in
set_option maxHeartbeats 2000000 in
theorem m_rc_108 {L : Nat} {tx : Nat → Nat} (hL : F 0 5 = nI L) (hL8 : L ≤ 80) (hx : ∀ i, i < L → F 3 i = nI (tx i)) (hx2 : ∀ i, i < L → tx i < 128) {A : Nat} (hA : A ≤ 80) {l x y : Int32} (hA9 : A < 80) (hc : sgT L tx A = 108) : Does sz I_X3_readsCommand [.ref (sz + 75)] (patch G 75 4 (mS (tF F A l x y) s), T) 0 0 (.inl (some (bi (r2T L tx 5 1 20 (A + 1) (nI 108) y).1))) (patch G 75 4 (mS (mRC F (r2T L tx 5 1 20 (A + 1) (nI 108) y)) s), T) := by
  refine Does.of (L := [(0, .ref (sz + 75))]) (by decide +kernel) (Nat.le_of_ble_eq_true rfl) rfl ⟨rfl, (by simp), trivial⟩ (fun VV hF => ?_)
  have hX := hF.c
  refine ro_aload_n (i := 0) (q := 1) hX dX3_readsCommand_0 rfl rfl rfl ?_
  refine ro_aload_n (i := 0) (q := 2) hX dX3_readsCommand_1 rfl rfl rfl ?_
  refine ro_callVi (q9 := 5) hX (m_sign hL hL8 hx hx2 (by omega)) mw_X3_sign kl_X3_164 (by decide) (fun cy => cell3 (by decide +kernel)) rfl rfl rfl (Nat.le_of_ble_eq_true rfl) ⟨Nat.le_of_ble_eq_true rfl, Nat.le_of_ble_eq_true rfl⟩ dX3_readsCommand_2 ⟨Nat.le_of_ble_eq_true rfl, Nat.le_of_ble_eq_true rfl⟩ rfl ?_
  refine vv_top (y := (nI 108)) (by rw [hc]) ?_
  refine ro_Npi (j := 7) (q9 := 8) (ty := .int) (by decide) hX rfl rfl rfl kf_X3_180 dX3_readsCommand_5 rfl ?_
  refine vv_LM rfl mT7 ?_
  refine ro_aload_n (i := 0) (q := 9) hX dX3_readsCommand_8 rfl rfl rfl ?_
  refine ro_dup (q := 10) hX dX3_readsCommand_9 rfl rfl ?_
  refine ro_Ngi (j := 6) (q9 := 13) (by decide) hX kf_X3_161 dX3_readsCommand_10 rfl ?_
  refine vv_top (y := (nI A)) (rfl) ?_
  refine ro_iconst (v := nI 1) (q := 14) hX dX3_readsCommand_13 rfl rfl ?_
  refine ro_iadd (q := 15) hX dX3_readsCommand_14 rfl ?_
  refine vv_top (y := nI (A + 1)) (nI_add' rfl rfl) ?_
  refine ro_Npi (j := 6) (q9 := 18) (ty := .int) (by decide) hX rfl rfl rfl kf_X3_161 dX3_readsCommand_15 rfl ?_
  refine vv_LM rfl mT6 ?_
  refine ro_aload_n (i := 0) (q := 19) hX dX3_readsCommand_18 rfl rfl rfl ?_
  refine ro_Ngi (j := 7) (q9 := 22) (by decide) hX kf_X3_180 dX3_readsCommand_19 rfl ?_
  refine vv_top (y := (nI 108)) (rfl) ?_
  refine ro_tableIn (tgt := 143) (off := 121) hX dX3_readsCommand_22 (by decide) (by decide) (by decide +kernel) (by decide) ?_
  refine ro_aload_n (i := 0) (q := 144) hX dX3_readsCommand_143 rfl rfl rfl ?_
  refine ro_iconst (v := nI 5) (q := 145) hX dX3_readsCommand_144 rfl rfl ?_
  refine ro_iconst (v := nI 1) (q := 146) hX dX3_readsCommand_145 rfl rfl ?_
  refine ro_bipush (v := nI 20) (q := 148) hX dX3_readsCommand_146 rfl rfl ?_
  refine ro_callVi (q9 := 151) hX (m_readsTwo hL hL8 hx hx2 (by omega) (by decide) (by decide) (by decide)) mw_X3_readsTwo kl_X3_183 (by decide) (fun cy => cell3 (by decide +kernel)) rfl rfl rfl (Nat.le_of_ble_eq_true rfl) ⟨Nat.le_of_ble_eq_true rfl, Nat.le_of_ble_eq_true rfl⟩ dX3_readsCommand_148 ⟨Nat.le_of_ble_eq_true rfl, Nat.le_of_ble_eq_true rfl⟩ rfl ?_
  exact fin_z hF (Nat.le_of_ble_eq_true rfl) (Nat.le_of_ble_eq_true rfl) dX3_readsCommand_151 (bi_nar _) (by rfl) (by rfl)
set_option maxRecDepth 20000 in
set_option maxHeartbeats 2000000 in
theorem m_rc_109 {L : Nat} {tx : Nat → Nat} (hL : F 0 5 = nI L) (hL8 : L ≤ 80) (hx : ∀ i, i < L → F 3 i = nI (tx i)) (hx2 : ∀ i, i < L → tx i < 128) {A : Nat} (hA : A ≤ 80) {l x y : Int32} (hA9 : A < 80) (hc : sgT L tx A = 109) : Does sz I_X3_readsCommand [.ref (sz + 75)] (patch G 75 4 (mS (tF F A l x y) s), T) 0 0 (.inl (some (nI 0))) (patch G 75 4 (mS (mRC F ((false, A, nI 109, x, y))) s), T) := by
  refine Does.of (L := [(0, .ref (sz + 75))]) (by decide +kernel) (Nat.le_of_ble_eq_true rfl) rfl ⟨rfl, (by simp), trivial⟩ (fun VV hF => ?_)
  have hX := hF.c
  refine ro_aload_n (i := 0) (q := 1) hX dX3_readsCommand_0 rfl rfl rfl ?_
  refine ro_aload_n (i := 0) (q := 2) hX dX3_readsCommand_1 rfl rfl rfl ?_
  refine ro_callVi (q9 := 5) hX (m_sign hL hL8 hx hx2 (by omega)) mw_X3_sign kl_X3_164 (by decide) (fun cy => cell3 (by decide +kernel)) rfl rfl rfl (Nat.le_of_ble_eq_true rfl) ⟨Nat.le_of_ble_eq_true rfl, Nat.le_of_ble_eq_true rfl⟩ dX3_readsCommand_2 ⟨Nat.le_of_ble_eq_true rfl, Nat.le_of_ble_eq_true rfl⟩ rfl ?_
  refine vv_top (y := (nI 109)) (by rw [hc]) ?_
  refine ro_Npi (j := 7) (q9 := 8) (ty := .int) (by decide) hX rfl rfl rfl kf_X3_180 dX3_readsCommand_5 rfl ?_
  refine vv_LM rfl mT7 ?_
  refine ro_aload_n (i := 0) (q := 9) hX dX3_readsCommand_8 rfl rfl rfl ?_
  refine ro_dup (q := 10) hX dX3_readsCommand_9 rfl rfl ?_
  refine ro_Ngi (j := 6) (q9 := 13) (by decide) hX kf_X3_161 dX3_readsCommand_10 rfl ?_
  refine vv_top (y := (nI A)) (rfl) ?_
  refine ro_iconst (v := nI 1) (q := 14) hX dX3_readsCommand_13 rfl rfl ?_
  refine ro_iadd (q := 15) hX dX3_readsCommand_14 rfl ?_
  refine vv_top (y := nI (A + 1)) (nI_add' rfl rfl) ?_
  refine ro_Npi (j := 6) (q9 := 18) (ty := .int) (by decide) hX rfl rfl rfl kf_X3_161 dX3_readsCommand_15 rfl ?_
  refine vv_LM rfl mT6 ?_
  refine ro_aload_n (i := 0) (q := 19) hX dX3_readsCommand_18 rfl rfl rfl ?_
  refine ro_Ngi (j := 7) (q9 := 22) (by decide) hX kf_X3_180 dX3_readsCommand_19 rfl ?_
  refine vv_top (y := (nI 109)) (rfl) ?_
  refine ro_tableIn (tgt := 178) (off := 156) hX dX3_readsCommand_22 (by decide) (by decide) (by decide +kernel) (by decide) ?_
  refine ro_aload_n (i := 0) (q := 179) hX dX3_readsCommand_178 rfl rfl rfl ?_
  refine ro_dup (q := 180) hX dX3_readsCommand_179 rfl rfl ?_
  refine ro_Ngi (j := 6) (q9 := 183) (by decide) hX kf_X3_161 dX3_readsCommand_180 rfl ?_
  refine vv_top (y := (nI (A + 1))) (rfl) ?_
  refine ro_iconst (v := nI 1) (q := 184) hX dX3_readsCommand_183 rfl rfl ?_
  refine ro_isub (q := 185) hX dX3_readsCommand_184 rfl ?_
  refine vv_top (y := (nI A)) (nI_pred A) ?_
  refine ro_Npi (j := 6) (q9 := 188) (ty := .int) (by decide) hX rfl rfl rfl kf_X3_161 dX3_readsCommand_185 rfl ?_
  refine ro_iconst (v := nI 0) (q := 189) hX dX3_readsCommand_188 rfl rfl ?_
  exact fin_z hF (Nat.le_of_ble_eq_true rfl) (Nat.le_of_ble_eq_true rfl) dX3_readsCommand_189 rfl (by rfl) (by exact mT6)
set_option maxRecDepth 20000 in
set_option maxHeartbeats 2000000 in
theorem m_rc_110 {L : Nat} {tx : Nat → Nat} (hL : F 0 5 = nI L) (hL8 : L ≤ 80) (hx : ∀ i, i < L → F 3 i = nI (tx i)) (hx2 : ∀ i, i < L → tx i < 128) {A : Nat} (hA : A ≤ 80) {l x y : Int32} (hA9 : A < 80) (hc : sgT L tx A = 110) : Does sz I_X3_readsCommand [.ref (sz + 75)] (patch G 75 4 (mS (tF F A l x y) s), T) 0 0 (.inl (some (nI 0))) (patch G 75 4 (mS (mRC F ((false, A, nI 110, x, y))) s), T) := by
  refine Does.of (L := [(0, .ref (sz + 75))]) (by decide +kernel) (Nat.le_of_ble_eq_true rfl) rfl ⟨rfl, (by simp), trivial⟩ (fun VV hF => ?_)
  have hX := hF.c
  refine ro_aload_n (i := 0) (q := 1) hX dX3_readsCommand_0 rfl rfl rfl ?_
  refine ro_aload_n (i := 0) (q := 2) hX dX3_readsCommand_1 rfl rfl rfl ?_
  refine ro_callVi (q9 := 5) hX (m_sign hL hL8 hx hx2 (by omega)) mw_X3_sign kl_X3_164 (by decide) (fun cy => cell3 (by decide +kernel)) rfl rfl rfl (Nat.le_of_ble_eq_true rfl) ⟨Nat.le_of_ble_eq_true rfl, Nat.le_of_ble_eq_true rfl⟩ dX3_readsCommand_2 ⟨Nat.le_of_ble_eq_true rfl, Nat.le_of_ble_eq_true rfl⟩ rfl ?_
  refine vv_top (y := (nI 110)) (by rw [hc]) ?_
  refine ro_Npi (j := 7) (q9 := 8) (ty := .int) (by decide) hX rfl rfl rfl kf_X3_180 dX3_readsCommand_5 rfl ?_
  refine vv_LM rfl mT7 ?_
  refine ro_aload_n (i := 0) (q := 9) hX dX3_readsCommand_8 rfl rfl rfl ?_
  refine ro_dup (q := 10) hX dX3_readsCommand_9 rfl rfl ?_
  refine ro_Ngi (j := 6) (q9 := 13) (by decide) hX kf_X3_161 dX3_readsCommand_10 rfl ?_
  refine vv_top (y := (nI A)) (rfl) ?_
  refine ro_iconst (v := nI 1) (q := 14) hX dX3_readsCommand_13 rfl rfl ?_
  refine ro_iadd (q := 15) hX dX3_readsCommand_14 rfl ?_
  refine vv_top (y := nI (A + 1)) (nI_add' rfl rfl) ?_
  refine ro_Npi (j := 6) (q9 := 18) (ty := .int) (by decide) hX rfl rfl rfl kf_X3_161 dX3_readsCommand_15 rfl ?_
  refine vv_LM rfl mT6 ?_
  refine ro_aload_n (i := 0) (q := 19) hX dX3_readsCommand_18 rfl rfl rfl ?_
  refine ro_Ngi (j := 7) (q9 := 22) (by decide) hX kf_X3_180 dX3_readsCommand_19 rfl ?_
  refine vv_top (y := (nI 110)) (rfl) ?_
  refine ro_tableIn (tgt := 178) (off := 156) hX dX3_readsCommand_22 (by decide) (by decide) (by decide +kernel) (by decide) ?_
  refine ro_aload_n (i := 0) (q := 179) hX dX3_readsCommand_178 rfl rfl rfl ?_
  refine ro_dup (q := 180) hX dX3_readsCommand_179 rfl rfl ?_
  refine ro_Ngi (j := 6) (q9 := 183) (by decide) hX kf_X3_161 dX3_readsCommand_180 rfl ?_
  refine vv_top (y := (nI (A + 1))) (rfl) ?_
  refine ro_iconst (v := nI 1) (q := 184) hX dX3_readsCommand_183 rfl rfl ?_
  refine ro_isub (q := 185) hX dX3_readsCommand_184 rfl ?_
  refine vv_top (y := (nI A)) (nI_pred A) ?_
  refine ro_Npi (j := 6) (q9 := 188) (ty := .int) (by decide) hX rfl rfl rfl kf_X3_161 dX3_readsCommand_185 rfl ?_
  refine ro_iconst (v := nI 0) (q := 189) hX dX3_readsCommand_188 rfl rfl ?_
  exact fin_z hF (Nat.le_of_ble_eq_true rfl) (Nat.le_of_ble_eq_true rfl) dX3_readsCommand_189 rfl (by rfl) (by exact mT6)
set_option maxRecDepth 20000 in
set_option maxHeartbeats 2000000 in
theorem m_rc_111 {L : Nat} {tx : Nat → Nat} (hL : F 0 5 = nI L) (hL8 : L ≤ 80) (hx : ∀ i, i < L → F 3 i = nI (tx i)) (hx2 : ∀ i, i < L → tx i < 128) {A : Nat} (hA : A ≤ 80) {l x y : Int32} (hA9 : A < 80) (hc : sgT L tx A = 111) : Does sz I_X3_readsCommand [.ref (sz + 75)] (patch G 75 4 (mS (tF F A l x y) s), T) 0 0 (.inl (some (bi (r1T L tx 0 5 (A + 1) (nI 111) y).1))) (patch G 75 4 (mS (mRC F (r1T L tx 0 5 (A + 1) (nI 111) y)) s), T) := by
  refine Does.of (L := [(0, .ref (sz + 75))]) (by decide +kernel) (Nat.le_of_ble_eq_true rfl) rfl ⟨rfl, (by simp), trivial⟩ (fun VV hF => ?_)
  have hX := hF.c
  refine ro_aload_n (i := 0) (q := 1) hX dX3_readsCommand_0 rfl rfl rfl ?_
  refine ro_aload_n (i := 0) (q := 2) hX dX3_readsCommand_1 rfl rfl rfl ?_
  refine ro_callVi (q9 := 5) hX (m_sign hL hL8 hx hx2 (by omega)) mw_X3_sign kl_X3_164 (by decide) (fun cy => cell3 (by decide +kernel)) rfl rfl rfl (Nat.le_of_ble_eq_true rfl) ⟨Nat.le_of_ble_eq_true rfl, Nat.le_of_ble_eq_true rfl⟩ dX3_readsCommand_2 ⟨Nat.le_of_ble_eq_true rfl, Nat.le_of_ble_eq_true rfl⟩ rfl ?_
  refine vv_top (y := (nI 111)) (by rw [hc]) ?_
  refine ro_Npi (j := 7) (q9 := 8) (ty := .int) (by decide) hX rfl rfl rfl kf_X3_180 dX3_readsCommand_5 rfl ?_
  refine vv_LM rfl mT7 ?_
  refine ro_aload_n (i := 0) (q := 9) hX dX3_readsCommand_8 rfl rfl rfl ?_
  refine ro_dup (q := 10) hX dX3_readsCommand_9 rfl rfl ?_
  refine ro_Ngi (j := 6) (q9 := 13) (by decide) hX kf_X3_161 dX3_readsCommand_10 rfl ?_
  refine vv_top (y := (nI A)) (rfl) ?_
  refine ro_iconst (v := nI 1) (q := 14) hX dX3_readsCommand_13 rfl rfl ?_
  refine ro_iadd (q := 15) hX dX3_readsCommand_14 rfl ?_
  refine vv_top (y := nI (A + 1)) (nI_add' rfl rfl) ?_
  refine ro_Npi (j := 6) (q9 := 18) (ty := .int) (by decide) hX rfl rfl rfl kf_X3_161 dX3_readsCommand_15 rfl ?_
  refine vv_LM rfl mT6 ?_
  refine ro_aload_n (i := 0) (q := 19) hX dX3_readsCommand_18 rfl rfl rfl ?_
  refine ro_Ngi (j := 7) (q9 := 22) (by decide) hX kf_X3_180 dX3_readsCommand_19 rfl ?_
  refine vv_top (y := (nI 111)) (rfl) ?_
  refine ro_tableIn (tgt := 162) (off := 140) hX dX3_readsCommand_22 (by decide) (by decide) (by decide +kernel) (by decide) ?_
  refine ro_aload_n (i := 0) (q := 163) hX dX3_readsCommand_162 rfl rfl rfl ?_
  refine ro_iconst (v := nI 0) (q := 164) hX dX3_readsCommand_163 rfl rfl ?_
  refine ro_iconst (v := nI 5) (q := 165) hX dX3_readsCommand_164 rfl rfl ?_
  refine ro_callVi (q9 := 168) hX (m_readsOne hL hL8 hx hx2 (by omega) (by decide) (by decide)) mw_X3_readsOne kl_X3_186 (by decide) (fun cy => cell3 (by decide +kernel)) rfl rfl rfl (Nat.le_of_ble_eq_true rfl) ⟨Nat.le_of_ble_eq_true rfl, Nat.le_of_ble_eq_true rfl⟩ dX3_readsCommand_165 ⟨Nat.le_of_ble_eq_true rfl, Nat.le_of_ble_eq_true rfl⟩ rfl ?_
  exact fin_z hF (Nat.le_of_ble_eq_true rfl) (Nat.le_of_ble_eq_true rfl) dX3_readsCommand_168 (bi_nar _) (by rfl) (by rfl)
set_option maxRecDepth 20000 in
set_option maxHeartbeats 2000000 in
theorem m_rc_112 {L : Nat} {tx : Nat → Nat} (hL : F 0 5 = nI L) (hL8 : L ≤ 80) (hx : ∀ i, i < L → F 3 i = nI (tx i)) (hx2 : ∀ i, i < L → tx i < 128) {A : Nat} (hA : A ≤ 80) {l x y : Int32} (hA9 : A < 80) (hc : sgT L tx A = 112) : Does sz I_X3_readsCommand [.ref (sz + 75)] (patch G 75 4 (mS (tF F A l x y) s), T) 0 0 (.inl (some (nI 0))) (patch G 75 4 (mS (mRC F ((false, A, nI 112, x, y))) s), T) := by
  refine Does.of (L := [(0, .ref (sz + 75))]) (by decide +kernel) (Nat.le_of_ble_eq_true rfl) rfl ⟨rfl, (by simp), trivial⟩ (fun VV hF => ?_)
  have hX := hF.c
  refine ro_aload_n (i := 0) (q := 1) hX dX3_readsCommand_0 rfl rfl rfl ?_
  refine ro_aload_n (i := 0) (q := 2) hX dX3_readsCommand_1 rfl rfl rfl ?_
  refine ro_callVi (q9 := 5) hX (m_sign hL hL8 hx hx2 (by omega)) mw_X3_sign kl_X3_164 (by decide) (fun cy => cell3 (by decide +kernel)) rfl rfl rfl (Nat.le_of_ble_eq_true rfl) ⟨Nat.le_of_ble_eq_true rfl, Nat.le_of_ble_eq_true rfl⟩ dX3_readsCommand_2 ⟨Nat.le_of_ble_eq_true rfl, Nat.le_of_ble_eq_true rfl⟩ rfl ?_
  refine vv_top (y := (nI 112)) (by rw [hc]) ?_
  refine ro_Npi (j := 7) (q9 := 8) (ty := .int) (by decide) hX rfl rfl rfl kf_X3_180 dX3_readsCommand_5 rfl ?_
  refine vv_LM rfl mT7 ?_
  refine ro_aload_n (i := 0) (q := 9) hX dX3_readsCommand_8 rfl rfl rfl ?_
  refine ro_dup (q := 10) hX dX3_readsCommand_9 rfl rfl ?_
  refine ro_Ngi (j := 6) (q9 := 13) (by decide) hX kf_X3_161 dX3_readsCommand_10 rfl ?_
  refine vv_top (y := (nI A)) (rfl) ?_
  refine ro_iconst (v := nI 1) (q := 14) hX dX3_readsCommand_13 rfl rfl ?_
  refine ro_iadd (q := 15) hX dX3_readsCommand_14 rfl ?_
  refine vv_top (y := nI (A + 1)) (nI_add' rfl rfl) ?_
  refine ro_Npi (j := 6) (q9 := 18) (ty := .int) (by decide) hX rfl rfl rfl kf_X3_161 dX3_readsCommand_15 rfl ?_
  refine vv_LM rfl mT6 ?_
  refine ro_aload_n (i := 0) (q := 19) hX dX3_readsCommand_18 rfl rfl rfl ?_
  refine ro_Ngi (j := 7) (q9 := 22) (by decide) hX kf_X3_180 dX3_readsCommand_19 rfl ?_
  refine vv_top (y := (nI 112)) (rfl) ?_
  refine ro_tableIn (tgt := 178) (off := 156) hX dX3_readsCommand_22 (by decide) (by decide) (by decide +kernel) (by decide) ?_
  refine ro_aload_n (i := 0) (q := 179) hX dX3_readsCommand_178 rfl rfl rfl ?_
  refine ro_dup (q := 180) hX dX3_readsCommand_179 rfl rfl ?_
  refine ro_Ngi (j := 6) (q9 := 183) (by decide) hX kf_X3_161 dX3_readsCommand_180 rfl ?_
  refine vv_top (y := (nI (A + 1))) (rfl) ?_
  refine ro_iconst (v := nI 1) (q := 184) hX dX3_readsCommand_183 rfl rfl ?_
  refine ro_isub (q := 185) hX dX3_readsCommand_184 rfl ?_
  refine vv_top (y := (nI A)) (nI_pred A) ?_
  refine ro_Npi (j := 6) (q9 := 188) (ty := .int) (by decide) hX rfl rfl rfl kf_X3_161 dX3_readsCommand_185 rfl ?_
  refine ro_iconst (v := nI 0) (q := 189) hX dX3_readsCommand_188 rfl rfl ?_
  exact fin_z hF (Nat.le_of_ble_eq_true rfl) (Nat.le_of_ble_eq_true rfl) dX3_readsCommand_189 rfl (by rfl) (by exact mT6)
set_option maxRecDepth 20000 in
set_option maxHeartbeats 2000000 in
theorem m_rc_113 {L : Nat} {tx : Nat → Nat} (hL : F 0 5 = nI L) (hL8 : L ≤ 80) (hx : ∀ i, i < L → F 3 i = nI (tx i)) (hx2 : ∀ i, i < L → tx i < 128) {A : Nat} (hA : A ≤ 80) {l x y : Int32} (hA9 : A < 80) (hc : sgT L tx A = 113) : Does sz I_X3_readsCommand [.ref (sz + 75)] (patch G 75 4 (mS (tF F A l x y) s), T) 0 0 (.inl (some (nI 0))) (patch G 75 4 (mS (mRC F ((false, A, nI 113, x, y))) s), T) := by
  refine Does.of (L := [(0, .ref (sz + 75))]) (by decide +kernel) (Nat.le_of_ble_eq_true rfl) rfl ⟨rfl, (by simp), trivial⟩ (fun VV hF => ?_)
  have hX := hF.c
  refine ro_aload_n (i := 0) (q := 1) hX dX3_readsCommand_0 rfl rfl rfl ?_
  refine ro_aload_n (i := 0) (q := 2) hX dX3_readsCommand_1 rfl rfl rfl ?_
  refine ro_callVi (q9 := 5) hX (m_sign hL hL8 hx hx2 (by omega)) mw_X3_sign kl_X3_164 (by decide) (fun cy => cell3 (by decide +kernel)) rfl rfl rfl (Nat.le_of_ble_eq_true rfl) ⟨Nat.le_of_ble_eq_true rfl, Nat.le_of_ble_eq_true rfl⟩ dX3_readsCommand_2 ⟨Nat.le_of_ble_eq_true rfl, Nat.le_of_ble_eq_true rfl⟩ rfl ?_
  refine vv_top (y := (nI 113)) (by rw [hc]) ?_
  refine ro_Npi (j := 7) (q9 := 8) (ty := .int) (by decide) hX rfl rfl rfl kf_X3_180 dX3_readsCommand_5 rfl ?_
  refine vv_LM rfl mT7 ?_
  refine ro_aload_n (i := 0) (q := 9) hX dX3_readsCommand_8 rfl rfl rfl ?_
  refine ro_dup (q := 10) hX dX3_readsCommand_9 rfl rfl ?_
  refine ro_Ngi (j := 6) (q9 := 13) (by decide) hX kf_X3_161 dX3_readsCommand_10 rfl ?_
  refine vv_top (y := (nI A)) (rfl) ?_
  refine ro_iconst (v := nI 1) (q := 14) hX dX3_readsCommand_13 rfl rfl ?_
  refine ro_iadd (q := 15) hX dX3_readsCommand_14 rfl ?_
  refine vv_top (y := nI (A + 1)) (nI_add' rfl rfl) ?_
  refine ro_Npi (j := 6) (q9 := 18) (ty := .int) (by decide) hX rfl rfl rfl kf_X3_161 dX3_readsCommand_15 rfl ?_
  refine vv_LM rfl mT6 ?_
  refine ro_aload_n (i := 0) (q := 19) hX dX3_readsCommand_18 rfl rfl rfl ?_
  refine ro_Ngi (j := 7) (q9 := 22) (by decide) hX kf_X3_180 dX3_readsCommand_19 rfl ?_
  refine vv_top (y := (nI 113)) (rfl) ?_
  refine ro_tableIn (tgt := 178) (off := 156) hX dX3_readsCommand_22 (by decide) (by decide) (by decide +kernel) (by decide) ?_
  refine ro_aload_n (i := 0) (q := 179) hX dX3_readsCommand_178 rfl rfl rfl ?_
  refine ro_dup (q := 180) hX dX3_readsCommand_179 rfl rfl ?_
  refine ro_Ngi (j := 6) (q9 := 183) (by decide) hX kf_X3_161 dX3_readsCommand_180 rfl ?_
  refine vv_top (y := (nI (A + 1))) (rfl) ?_
  refine ro_iconst (v := nI 1) (q := 184) hX dX3_readsCommand_183 rfl rfl ?_
  refine ro_isub (q := 185) hX dX3_readsCommand_184 rfl ?_
  refine vv_top (y := (nI A)) (nI_pred A) ?_
  refine ro_Npi (j := 6) (q9 := 188) (ty := .int) (by decide) hX rfl rfl rfl kf_X3_161 dX3_readsCommand_185 rfl ?_
  refine ro_iconst (v := nI 0) (q := 189) hX dX3_readsCommand_188 rfl rfl ?_
  exact fin_z hF (Nat.le_of_ble_eq_true rfl) (Nat.le_of_ble_eq_true rfl) dX3_readsCommand_189 rfl (by rfl) (by exact mT6)
set_option maxRecDepth 20000 in
set_option maxHeartbeats 2000000 in
theorem m_rc_114 {L : Nat} {tx : Nat → Nat} (hL : F 0 5 = nI L) (hL8 : L ≤ 80) (hx : ∀ i, i < L → F 3 i = nI (tx i)) (hx2 : ∀ i, i < L → tx i < 128) {A : Nat} (hA : A ≤ 80) {l x y : Int32} (hA9 : A < 80) (hc : sgT L tx A = 114) : Does sz I_X3_readsCommand [.ref (sz + 75)] (patch G 75 4 (mS (tF F A l x y) s), T) 0 0 (.inl (some (bi (r2T L tx 5 1 600 (A + 1) (nI 114) y).1))) (patch G 75 4 (mS (mRC F (r2T L tx 5 1 600 (A + 1) (nI 114) y)) s), T) := by
  refine Does.of (L := [(0, .ref (sz + 75))]) (by decide +kernel) (Nat.le_of_ble_eq_true rfl) rfl ⟨rfl, (by simp), trivial⟩ (fun VV hF => ?_)
  have hX := hF.c
  refine ro_aload_n (i := 0) (q := 1) hX dX3_readsCommand_0 rfl rfl rfl ?_
  refine ro_aload_n (i := 0) (q := 2) hX dX3_readsCommand_1 rfl rfl rfl ?_
  refine ro_callVi (q9 := 5) hX (m_sign hL hL8 hx hx2 (by omega)) mw_X3_sign kl_X3_164 (by decide) (fun cy => cell3 (by decide +kernel)) rfl rfl rfl (Nat.le_of_ble_eq_true rfl) ⟨Nat.le_of_ble_eq_true rfl, Nat.le_of_ble_eq_true rfl⟩ dX3_readsCommand_2 ⟨Nat.le_of_ble_eq_true rfl, Nat.le_of_ble_eq_true rfl⟩ rfl ?_
  refine vv_top (y := (nI 114)) (by rw [hc]) ?_
  refine ro_Npi (j := 7) (q9 := 8) (ty := .int) (by decide) hX rfl rfl rfl kf_X3_180 dX3_readsCommand_5 rfl ?_
  refine vv_LM rfl mT7 ?_
  refine ro_aload_n (i := 0) (q := 9) hX dX3_readsCommand_8 rfl rfl rfl ?_
  refine ro_dup (q := 10) hX dX3_readsCommand_9 rfl rfl ?_
  refine ro_Ngi (j := 6) (q9 := 13) (by decide) hX kf_X3_161 dX3_readsCommand_10 rfl ?_
  refine vv_top (y := (nI A)) (rfl) ?_
  refine ro_iconst (v := nI 1) (q := 14) hX dX3_readsCommand_13 rfl rfl ?_
  refine ro_iadd (q := 15) hX dX3_readsCommand_14 rfl ?_
  refine vv_top (y := nI (A + 1)) (nI_add' rfl rfl) ?_
  refine ro_Npi (j := 6) (q9 := 18) (ty := .int) (by decide) hX rfl rfl rfl kf_X3_161 dX3_readsCommand_15 rfl ?_
  refine vv_LM rfl mT6 ?_
  refine ro_aload_n (i := 0) (q := 19) hX dX3_readsCommand_18 rfl rfl rfl ?_
  refine ro_Ngi (j := 7) (q9 := 22) (by decide) hX kf_X3_180 dX3_readsCommand_19 rfl ?_
  refine vv_top (y := (nI 114)) (rfl) ?_
  refine ro_tableIn (tgt := 152) (off := 130) hX dX3_readsCommand_22 (by decide) (by decide) (by decide +kernel) (by decide) ?_
  refine ro_aload_n (i := 0) (q := 153) hX dX3_readsCommand_152 rfl rfl rfl ?_
  refine ro_iconst (v := nI 5) (q := 154) hX dX3_readsCommand_153 rfl rfl ?_
  refine ro_iconst (v := nI 1) (q := 155) hX dX3_readsCommand_154 rfl rfl ?_
  refine ro_sipush (v := nI 600) (q := 158) hX dX3_readsCommand_155 rfl rfl ?_
  refine ro_callVi (q9 := 161) hX (m_readsTwo hL hL8 hx hx2 (by omega) (by decide) (by decide) (by decide)) mw_X3_readsTwo kl_X3_183 (by decide) (fun cy => cell3 (by decide +kernel)) rfl rfl rfl (Nat.le_of_ble_eq_true rfl) ⟨Nat.le_of_ble_eq_true rfl, Nat.le_of_ble_eq_true rfl⟩ dX3_readsCommand_158 ⟨Nat.le_of_ble_eq_true rfl, Nat.le_of_ble_eq_true rfl⟩ rfl ?_
  exact fin_z hF (Nat.le_of_ble_eq_true rfl) (Nat.le_of_ble_eq_true rfl) dX3_readsCommand_161 (bi_nar _) (by rfl) (by rfl)
set_option maxRecDepth 20000 in
set_option maxHeartbeats 2000000 in
theorem m_rc_115 {L : Nat} {tx : Nat → Nat} (hL : F 0 5 = nI L) (hL8 : L ≤ 80) (hx : ∀ i, i < L → F 3 i = nI (tx i)) (hx2 : ∀ i, i < L → tx i < 128) {A : Nat} (hA : A ≤ 80) {l x y : Int32} (hA9 : A < 80) (hc : sgT L tx A = 115) : Does sz I_X3_readsCommand [.ref (sz + 75)] (patch G 75 4 (mS (tF F A l x y) s), T) 0 0 (.inl (some (bi (r2T L tx 29 0 9999 (A + 1) (nI 115) y).1))) (patch G 75 4 (mS (mRC F (r2T L tx 29 0 9999 (A + 1) (nI 115) y)) s), T) := by
  refine Does.of (L := [(0, .ref (sz + 75))]) (by decide +kernel) (Nat.le_of_ble_eq_true rfl) rfl ⟨rfl, (by simp), trivial⟩ (fun VV hF => ?_)
  have hX := hF.c
  refine ro_aload_n (i := 0) (q := 1) hX dX3_readsCommand_0 rfl rfl rfl ?_
  refine ro_aload_n (i := 0) (q := 2) hX dX3_readsCommand_1 rfl rfl rfl ?_
  refine ro_callVi (q9 := 5) hX (m_sign hL hL8 hx hx2 (by omega)) mw_X3_sign kl_X3_164 (by decide) (fun cy => cell3 (by decide +kernel)) rfl rfl rfl (Nat.le_of_ble_eq_true rfl) ⟨Nat.le_of_ble_eq_true rfl, Nat.le_of_ble_eq_true rfl⟩ dX3_readsCommand_2 ⟨Nat.le_of_ble_eq_true rfl, Nat.le_of_ble_eq_true rfl⟩ rfl ?_
  refine vv_top (y := (nI 115)) (by rw [hc]) ?_
  refine ro_Npi (j := 7) (q9 := 8) (ty := .int) (by decide) hX rfl rfl rfl kf_X3_180 dX3_readsCommand_5 rfl ?_
  refine vv_LM rfl mT7 ?_
  refine ro_aload_n (i := 0) (q := 9) hX dX3_readsCommand_8 rfl rfl rfl ?_
  refine ro_dup (q := 10) hX dX3_readsCommand_9 rfl rfl ?_
  refine ro_Ngi (j := 6) (q9 := 13) (by decide) hX kf_X3_161 dX3_readsCommand_10 rfl ?_
  refine vv_top (y := (nI A)) (rfl) ?_
  refine ro_iconst (v := nI 1) (q := 14) hX dX3_readsCommand_13 rfl rfl ?_
  refine ro_iadd (q := 15) hX dX3_readsCommand_14 rfl ?_
  refine vv_top (y := nI (A + 1)) (nI_add' rfl rfl) ?_
  refine ro_Npi (j := 6) (q9 := 18) (ty := .int) (by decide) hX rfl rfl rfl kf_X3_161 dX3_readsCommand_15 rfl ?_
  refine vv_LM rfl mT6 ?_
  refine ro_aload_n (i := 0) (q := 19) hX dX3_readsCommand_18 rfl rfl rfl ?_
  refine ro_Ngi (j := 7) (q9 := 22) (by decide) hX kf_X3_180 dX3_readsCommand_19 rfl ?_
  refine vv_top (y := (nI 115)) (rfl) ?_
  refine ro_tableIn (tgt := 124) (off := 102) hX dX3_readsCommand_22 (by decide) (by decide) (by decide +kernel) (by decide) ?_
  refine ro_aload_n (i := 0) (q := 125) hX dX3_readsCommand_124 rfl rfl rfl ?_
  refine ro_bipush (v := nI 29) (q := 127) hX dX3_readsCommand_125 rfl rfl ?_
  refine ro_iconst (v := nI 0) (q := 128) hX dX3_readsCommand_127 rfl rfl ?_
  refine ro_sipush (v := nI 9999) (q := 131) hX dX3_readsCommand_128 rfl rfl ?_
  refine ro_callVi (q9 := 134) hX (m_readsTwo hL hL8 hx hx2 (by omega) (by decide) (by decide) (by decide)) mw_X3_readsTwo kl_X3_183 (by decide) (fun cy => cell3 (by decide +kernel)) rfl rfl rfl (Nat.le_of_ble_eq_true rfl) ⟨Nat.le_of_ble_eq_true rfl, Nat.le_of_ble_eq_true rfl⟩ dX3_readsCommand_131 ⟨Nat.le_of_ble_eq_true rfl, Nat.le_of_ble_eq_true rfl⟩ rfl ?_
  exact fin_z hF (Nat.le_of_ble_eq_true rfl) (Nat.le_of_ble_eq_true rfl) dX3_readsCommand_134 (bi_nar _) (by rfl) (by rfl)
set_option maxRecDepth 20000 in
set_option maxHeartbeats 2000000 in
theorem m_rc_116 {L : Nat} {tx : Nat → Nat} (hL : F 0 5 = nI L) (hL8 : L ≤ 80) (hx : ∀ i, i < L → F 3 i = nI (tx i)) (hx2 : ∀ i, i < L → tx i < 128) {A : Nat} (hA : A ≤ 80) {l x y : Int32} (hA9 : A < 80) (hc : sgT L tx A = 116) : Does sz I_X3_readsCommand [.ref (sz + 75)] (patch G 75 4 (mS (tF F A l x y) s), T) 0 0 (.inl (some (bi (r1T L tx 1 600 (A + 1) (nI 116) y).1))) (patch G 75 4 (mS (mRC F (r1T L tx 1 600 (A + 1) (nI 116) y)) s), T) := by
  refine Does.of (L := [(0, .ref (sz + 75))]) (by decide +kernel) (Nat.le_of_ble_eq_true rfl) rfl ⟨rfl, (by simp), trivial⟩ (fun VV hF => ?_)
  have hX := hF.c
  refine ro_aload_n (i := 0) (q := 1) hX dX3_readsCommand_0 rfl rfl rfl ?_
  refine ro_aload_n (i := 0) (q := 2) hX dX3_readsCommand_1 rfl rfl rfl ?_
  refine ro_callVi (q9 := 5) hX (m_sign hL hL8 hx hx2 (by omega)) mw_X3_sign kl_X3_164 (by decide) (fun cy => cell3 (by decide +kernel)) rfl rfl rfl (Nat.le_of_ble_eq_true rfl) ⟨Nat.le_of_ble_eq_true rfl, Nat.le_of_ble_eq_true rfl⟩ dX3_readsCommand_2 ⟨Nat.le_of_ble_eq_true rfl, Nat.le_of_ble_eq_true rfl⟩ rfl ?_
  refine vv_top (y := (nI 116)) (by rw [hc]) ?_
  refine ro_Npi (j := 7) (q9 := 8) (ty := .int) (by decide) hX rfl rfl rfl kf_X3_180 dX3_readsCommand_5 rfl ?_
  refine vv_LM rfl mT7 ?_
  refine ro_aload_n (i := 0) (q := 9) hX dX3_readsCommand_8 rfl rfl rfl ?_
  refine ro_dup (q := 10) hX dX3_readsCommand_9 rfl rfl ?_
  refine ro_Ngi (j := 6) (q9 := 13) (by decide) hX kf_X3_161 dX3_readsCommand_10 rfl ?_
  refine vv_top (y := (nI A)) (rfl) ?_
  refine ro_iconst (v := nI 1) (q := 14) hX dX3_readsCommand_13 rfl rfl ?_
  refine ro_iadd (q := 15) hX dX3_readsCommand_14 rfl ?_
  refine vv_top (y := nI (A + 1)) (nI_add' rfl rfl) ?_
  refine ro_Npi (j := 6) (q9 := 18) (ty := .int) (by decide) hX rfl rfl rfl kf_X3_161 dX3_readsCommand_15 rfl ?_
  refine vv_LM rfl mT6 ?_
  refine ro_aload_n (i := 0) (q := 19) hX dX3_readsCommand_18 rfl rfl rfl ?_
  refine ro_Ngi (j := 7) (q9 := 22) (by decide) hX kf_X3_180 dX3_readsCommand_19 rfl ?_
  refine vv_top (y := (nI 116)) (rfl) ?_
  refine ro_tableIn (tgt := 169) (off := 147) hX dX3_readsCommand_22 (by decide) (by decide) (by decide +kernel) (by decide) ?_
  refine ro_aload_n (i := 0) (q := 170) hX dX3_readsCommand_169 rfl rfl rfl ?_
  refine ro_iconst (v := nI 1) (q := 171) hX dX3_readsCommand_170 rfl rfl ?_
  refine ro_sipush (v := nI 600) (q := 174) hX dX3_readsCommand_171 rfl rfl ?_
  refine ro_callVi (q9 := 177) hX (m_readsOne hL hL8 hx hx2 (by omega) (by decide) (by decide)) mw_X3_readsOne kl_X3_186 (by decide) (fun cy => cell3 (by decide +kernel)) rfl rfl rfl (Nat.le_of_ble_eq_true rfl) ⟨Nat.le_of_ble_eq_true rfl, Nat.le_of_ble_eq_true rfl⟩ dX3_readsCommand_174 ⟨Nat.le_of_ble_eq_true rfl, Nat.le_of_ble_eq_true rfl⟩ rfl ?_
  exact fin_z hF (Nat.le_of_ble_eq_true rfl) (Nat.le_of_ble_eq_true rfl) dX3_readsCommand_177 (bi_nar _) (by rfl) (by rfl)
set_option maxRecDepth 20000 in
set_option maxHeartbeats 2000000 in
theorem m_rc_117 {L : Nat} {tx : Nat → Nat} (hL : F 0 5 = nI L) (hL8 : L ≤ 80) (hx : ∀ i, i < L → F 3 i = nI (tx i)) (hx2 : ∀ i, i < L → tx i < 128) {A : Nat} (hA : A ≤ 80) {l x y : Int32} (hA9 : A < 80) (hc : sgT L tx A = 117) : Does sz I_X3_readsCommand [.ref (sz + 75)] (patch G 75 4 (mS (tF F A l x y) s), T) 0 0 (.inl (some (nI 0))) (patch G 75 4 (mS (mRC F ((false, A, nI 117, x, y))) s), T) := by
  refine Does.of (L := [(0, .ref (sz + 75))]) (by decide +kernel) (Nat.le_of_ble_eq_true rfl) rfl ⟨rfl, (by simp), trivial⟩ (fun VV hF => ?_)
  have hX := hF.c
  refine ro_aload_n (i := 0) (q := 1) hX dX3_readsCommand_0 rfl rfl rfl ?_
  refine ro_aload_n (i := 0) (q := 2) hX dX3_readsCommand_1 rfl rfl rfl ?_
  refine ro_callVi (q9 := 5) hX (m_sign hL hL8 hx hx2 (by omega)) mw_X3_sign kl_X3_164 (by decide) (fun cy => cell3 (by decide +kernel)) rfl rfl rfl (Nat.le_of_ble_eq_true rfl) ⟨Nat.le_of_ble_eq_true rfl, Nat.le_of_ble_eq_true rfl⟩ dX3_readsCommand_2 ⟨Nat.le_of_ble_eq_true rfl, Nat.le_of_ble_eq_true rfl⟩ rfl ?_
  refine vv_top (y := (nI 117)) (by rw [hc]) ?_
  refine ro_Npi (j := 7) (q9 := 8) (ty := .int) (by decide) hX rfl rfl rfl kf_X3_180 dX3_readsCommand_5 rfl ?_
  refine vv_LM rfl mT7 ?_
  refine ro_aload_n (i := 0) (q := 9) hX dX3_readsCommand_8 rfl rfl rfl ?_
  refine ro_dup (q := 10) hX dX3_readsCommand_9 rfl rfl ?_
  refine ro_Ngi (j := 6) (q9 := 13) (by decide) hX kf_X3_161 dX3_readsCommand_10 rfl ?_
  refine vv_top (y := (nI A)) (rfl) ?_
  refine ro_iconst (v := nI 1) (q := 14) hX dX3_readsCommand_13 rfl rfl ?_
  refine ro_iadd (q := 15) hX dX3_readsCommand_14 rfl ?_
  refine vv_top (y := nI (A + 1)) (nI_add' rfl rfl) ?_
  refine ro_Npi (j := 6) (q9 := 18) (ty := .int) (by decide) hX rfl rfl rfl kf_X3_161 dX3_readsCommand_15 rfl ?_
  refine vv_LM rfl mT6 ?_
  refine ro_aload_n (i := 0) (q := 19) hX dX3_readsCommand_18 rfl rfl rfl ?_
  refine ro_Ngi (j := 7) (q9 := 22) (by decide) hX kf_X3_180 dX3_readsCommand_19 rfl ?_
  refine vv_top (y := (nI 117)) (rfl) ?_
  refine ro_tableIn (tgt := 178) (off := 156) hX dX3_readsCommand_22 (by decide) (by decide) (by decide +kernel) (by decide) ?_
  refine ro_aload_n (i := 0) (q := 179) hX dX3_readsCommand_178 rfl rfl rfl ?_
  refine ro_dup (q := 180) hX dX3_readsCommand_179 rfl rfl ?_
  refine ro_Ngi (j := 6) (q9 := 183) (by decide) hX kf_X3_161 dX3_readsCommand_180 rfl ?_
  refine vv_top (y := (nI (A + 1))) (rfl) ?_
  refine ro_iconst (v := nI 1) (q := 184) hX dX3_readsCommand_183 rfl rfl ?_
  refine ro_isub (q := 185) hX dX3_readsCommand_184 rfl ?_
  refine vv_top (y := (nI A)) (nI_pred A) ?_
  refine ro_Npi (j := 6) (q9 := 188) (ty := .int) (by decide) hX rfl rfl rfl kf_X3_161 dX3_readsCommand_185 rfl ?_
  refine ro_iconst (v := nI 0) (q := 189) hX dX3_readsCommand_188 rfl rfl ?_
  exact fin_z hF (Nat.le_of_ble_eq_true rfl) (Nat.le_of_ble_eq_true rfl) dX3_readsCommand_189 rfl (by rfl) (by exact mT6)
set_option maxRecDepth 20000 in
set_option maxHeartbeats 2000000 in
theorem m_rc_118 {L : Nat} {tx : Nat → Nat} (hL : F 0 5 = nI L) (hL8 : L ≤ 80) (hx : ∀ i, i < L → F 3 i = nI (tx i)) (hx2 : ∀ i, i < L → tx i < 128) {A : Nat} (hA : A ≤ 80) {l x y : Int32} (hA9 : A < 80) (hc : sgT L tx A = 118) : Does sz I_X3_readsCommand [.ref (sz + 75)] (patch G 75 4 (mS (tF F A l x y) s), T) 0 0 (.inl (some (nI 0))) (patch G 75 4 (mS (mRC F ((false, A, nI 118, x, y))) s), T) := by
  refine Does.of (L := [(0, .ref (sz + 75))]) (by decide +kernel) (Nat.le_of_ble_eq_true rfl) rfl ⟨rfl, (by simp), trivial⟩ (fun VV hF => ?_)
  have hX := hF.c
  refine ro_aload_n (i := 0) (q := 1) hX dX3_readsCommand_0 rfl rfl rfl ?_
  refine ro_aload_n (i := 0) (q := 2) hX dX3_readsCommand_1 rfl rfl rfl ?_
  refine ro_callVi (q9 := 5) hX (m_sign hL hL8 hx hx2 (by omega)) mw_X3_sign kl_X3_164 (by decide) (fun cy => cell3 (by decide +kernel)) rfl rfl rfl (Nat.le_of_ble_eq_true rfl) ⟨Nat.le_of_ble_eq_true rfl, Nat.le_of_ble_eq_true rfl⟩ dX3_readsCommand_2 ⟨Nat.le_of_ble_eq_true rfl, Nat.le_of_ble_eq_true rfl⟩ rfl ?_
  refine vv_top (y := (nI 118)) (by rw [hc]) ?_
  refine ro_Npi (j := 7) (q9 := 8) (ty := .int) (by decide) hX rfl rfl rfl kf_X3_180 dX3_readsCommand_5 rfl ?_
  refine vv_LM rfl mT7 ?_
  refine ro_aload_n (i := 0) (q := 9) hX dX3_readsCommand_8 rfl rfl rfl ?_
  refine ro_dup (q := 10) hX dX3_readsCommand_9 rfl rfl ?_
  refine ro_Ngi (j := 6) (q9 := 13) (by decide) hX kf_X3_161 dX3_readsCommand_10 rfl ?_
  refine vv_top (y := (nI A)) (rfl) ?_
  refine ro_iconst (v := nI 1) (q := 14) hX dX3_readsCommand_13 rfl rfl ?_
  refine ro_iadd (q := 15) hX dX3_readsCommand_14 rfl ?_
  refine vv_top (y := nI (A + 1)) (nI_add' rfl rfl) ?_
  refine ro_Npi (j := 6) (q9 := 18) (ty := .int) (by decide) hX rfl rfl rfl kf_X3_161 dX3_readsCommand_15 rfl ?_
  refine vv_LM rfl mT6 ?_
  refine ro_aload_n (i := 0) (q := 19) hX dX3_readsCommand_18 rfl rfl rfl ?_
  refine ro_Ngi (j := 7) (q9 := 22) (by decide) hX kf_X3_180 dX3_readsCommand_19 rfl ?_
  refine vv_top (y := (nI 118)) (rfl) ?_
  refine ro_tableIn (tgt := 178) (off := 156) hX dX3_readsCommand_22 (by decide) (by decide) (by decide +kernel) (by decide) ?_
  refine ro_aload_n (i := 0) (q := 179) hX dX3_readsCommand_178 rfl rfl rfl ?_
  refine ro_dup (q := 180) hX dX3_readsCommand_179 rfl rfl ?_
  refine ro_Ngi (j := 6) (q9 := 183) (by decide) hX kf_X3_161 dX3_readsCommand_180 rfl ?_
  refine vv_top (y := (nI (A + 1))) (rfl) ?_
  refine ro_iconst (v := nI 1) (q := 184) hX dX3_readsCommand_183 rfl rfl ?_
  refine ro_isub (q := 185) hX dX3_readsCommand_184 rfl ?_
  refine vv_top (y := (nI A)) (nI_pred A) ?_
  refine ro_Npi (j := 6) (q9 := 188) (ty := .int) (by decide) hX rfl rfl rfl kf_X3_161 dX3_readsCommand_185 rfl ?_
  refine ro_iconst (v := nI 0) (q := 189) hX dX3_readsCommand_188 rfl rfl ?_
  exact fin_z hF (Nat.le_of_ble_eq_true rfl) (Nat.le_of_ble_eq_true rfl) dX3_readsCommand_189 rfl (by rfl) (by exact mT6)
set_option maxRecDepth 20000 in
set_option maxHeartbeats 2000000 in
theorem m_rc_119 {L : Nat} {tx : Nat → Nat} (hL : F 0 5 = nI L) (hL8 : L ≤ 80) (hx : ∀ i, i < L → F 3 i = nI (tx i)) (hx2 : ∀ i, i < L → tx i < 128) {A : Nat} (hA : A ≤ 80) {l x y : Int32} (hA9 : A < 80) (hc : sgT L tx A = 119) : Does sz I_X3_readsCommand [.ref (sz + 75)] (patch G 75 4 (mS (tF F A l x y) s), T) 0 0 (.inl (some (bi (r2T L tx 29 0 9999 (A + 1) (nI 119) y).1))) (patch G 75 4 (mS (mRC F (r2T L tx 29 0 9999 (A + 1) (nI 119) y)) s), T) := by
  refine Does.of (L := [(0, .ref (sz + 75))]) (by decide +kernel) (Nat.le_of_ble_eq_true rfl) rfl ⟨rfl, (by simp), trivial⟩ (fun VV hF => ?_)
  have hX := hF.c
  refine ro_aload_n (i := 0) (q := 1) hX dX3_readsCommand_0 rfl rfl rfl ?_
  refine ro_aload_n (i := 0) (q := 2) hX dX3_readsCommand_1 rfl rfl rfl ?_
  refine ro_callVi (q9 := 5) hX (m_sign hL hL8 hx hx2 (by omega)) mw_X3_sign kl_X3_164 (by decide) (fun cy => cell3 (by decide +kernel)) rfl rfl rfl (Nat.le_of_ble_eq_true rfl) ⟨Nat.le_of_ble_eq_true rfl, Nat.le_of_ble_eq_true rfl⟩ dX3_readsCommand_2 ⟨Nat.le_of_ble_eq_true rfl, Nat.le_of_ble_eq_true rfl⟩ rfl ?_
  refine vv_top (y := (nI 119)) (by rw [hc]) ?_
  refine ro_Npi (j := 7) (q9 := 8) (ty := .int) (by decide) hX rfl rfl rfl kf_X3_180 dX3_readsCommand_5 rfl ?_
  refine vv_LM rfl mT7 ?_
  refine ro_aload_n (i := 0) (q := 9) hX dX3_readsCommand_8 rfl rfl rfl ?_
  refine ro_dup (q := 10) hX dX3_readsCommand_9 rfl rfl ?_
  refine ro_Ngi (j := 6) (q9 := 13) (by decide) hX kf_X3_161 dX3_readsCommand_10 rfl ?_
  refine vv_top (y := (nI A)) (rfl) ?_
  refine ro_iconst (v := nI 1) (q := 14) hX dX3_readsCommand_13 rfl rfl ?_
  refine ro_iadd (q := 15) hX dX3_readsCommand_14 rfl ?_
  refine vv_top (y := nI (A + 1)) (nI_add' rfl rfl) ?_
  refine ro_Npi (j := 6) (q9 := 18) (ty := .int) (by decide) hX rfl rfl rfl kf_X3_161 dX3_readsCommand_15 rfl ?_
  refine vv_LM rfl mT6 ?_
  refine ro_aload_n (i := 0) (q := 19) hX dX3_readsCommand_18 rfl rfl rfl ?_
  refine ro_Ngi (j := 7) (q9 := 22) (by decide) hX kf_X3_180 dX3_readsCommand_19 rfl ?_
  refine vv_top (y := (nI 119)) (rfl) ?_
  refine ro_tableIn (tgt := 124) (off := 102) hX dX3_readsCommand_22 (by decide) (by decide) (by decide +kernel) (by decide) ?_
  refine ro_aload_n (i := 0) (q := 125) hX dX3_readsCommand_124 rfl rfl rfl ?_
  refine ro_bipush (v := nI 29) (q := 127) hX dX3_readsCommand_125 rfl rfl ?_
  refine ro_iconst (v := nI 0) (q := 128) hX dX3_readsCommand_127 rfl rfl ?_
  refine ro_sipush (v := nI 9999) (q := 131) hX dX3_readsCommand_128 rfl rfl ?_
  refine ro_callVi (q9 := 134) hX (m_readsTwo hL hL8 hx hx2 (by omega) (by decide) (by decide) (by decide)) mw_X3_readsTwo kl_X3_183 (by decide) (fun cy => cell3 (by decide +kernel)) rfl rfl rfl (Nat.le_of_ble_eq_true rfl) ⟨Nat.le_of_ble_eq_true rfl, Nat.le_of_ble_eq_true rfl⟩ dX3_readsCommand_131 ⟨Nat.le_of_ble_eq_true rfl, Nat.le_of_ble_eq_true rfl⟩ rfl ?_
  exact fin_z hF (Nat.le_of_ble_eq_true rfl) (Nat.le_of_ble_eq_true rfl) dX3_readsCommand_134 (bi_nar _) (by rfl) (by rfl)
set_option maxRecDepth 20000 in
set_option maxHeartbeats 2000000 in
theorem m_rc_120 {L : Nat} {tx : Nat → Nat} (hL : F 0 5 = nI L) (hL8 : L ≤ 80) (hx : ∀ i, i < L → F 3 i = nI (tx i)) (hx2 : ∀ i, i < L → tx i < 128) {A : Nat} (hA : A ≤ 80) {l x y : Int32} (hA9 : A < 80) (hc : sgT L tx A = 120) : Does sz I_X3_readsCommand [.ref (sz + 75)] (patch G 75 4 (mS (tF F A l x y) s), T) 0 0 (.inl (some (bi (r1T L tx 0 5 (A + 1) (nI 120) y).1))) (patch G 75 4 (mS (mRC F (r1T L tx 0 5 (A + 1) (nI 120) y)) s), T) := by
  refine Does.of (L := [(0, .ref (sz + 75))]) (by decide +kernel) (Nat.le_of_ble_eq_true rfl) rfl ⟨rfl, (by simp), trivial⟩ (fun VV hF => ?_)
  have hX := hF.c
  refine ro_aload_n (i := 0) (q := 1) hX dX3_readsCommand_0 rfl rfl rfl ?_
  refine ro_aload_n (i := 0) (q := 2) hX dX3_readsCommand_1 rfl rfl rfl ?_
  refine ro_callVi (q9 := 5) hX (m_sign hL hL8 hx hx2 (by omega)) mw_X3_sign kl_X3_164 (by decide) (fun cy => cell3 (by decide +kernel)) rfl rfl rfl (Nat.le_of_ble_eq_true rfl) ⟨Nat.le_of_ble_eq_true rfl, Nat.le_of_ble_eq_true rfl⟩ dX3_readsCommand_2 ⟨Nat.le_of_ble_eq_true rfl, Nat.le_of_ble_eq_true rfl⟩ rfl ?_
  refine vv_top (y := (nI 120)) (by rw [hc]) ?_
  refine ro_Npi (j := 7) (q9 := 8) (ty := .int) (by decide) hX rfl rfl rfl kf_X3_180 dX3_readsCommand_5 rfl ?_
  refine vv_LM rfl mT7 ?_
  refine ro_aload_n (i := 0) (q := 9) hX dX3_readsCommand_8 rfl rfl rfl ?_
  refine ro_dup (q := 10) hX dX3_readsCommand_9 rfl rfl ?_
  refine ro_Ngi (j := 6) (q9 := 13) (by decide) hX kf_X3_161 dX3_readsCommand_10 rfl ?_
  refine vv_top (y := (nI A)) (rfl) ?_
  refine ro_iconst (v := nI 1) (q := 14) hX dX3_readsCommand_13 rfl rfl ?_
  refine ro_iadd (q := 15) hX dX3_readsCommand_14 rfl ?_
  refine vv_top (y := nI (A + 1)) (nI_add' rfl rfl) ?_
  refine ro_Npi (j := 6) (q9 := 18) (ty := .int) (by decide) hX rfl rfl rfl kf_X3_161 dX3_readsCommand_15 rfl ?_
  refine vv_LM rfl mT6 ?_
  refine ro_aload_n (i := 0) (q := 19) hX dX3_readsCommand_18 rfl rfl rfl ?_
  refine ro_Ngi (j := 7) (q9 := 22) (by decide) hX kf_X3_180 dX3_readsCommand_19 rfl ?_
  refine vv_top (y := (nI 120)) (rfl) ?_
  refine ro_tableIn (tgt := 162) (off := 140) hX dX3_readsCommand_22 (by decide) (by decide) (by decide +kernel) (by decide) ?_
  refine ro_aload_n (i := 0) (q := 163) hX dX3_readsCommand_162 rfl rfl rfl ?_
  refine ro_iconst (v := nI 0) (q := 164) hX dX3_readsCommand_163 rfl rfl ?_
  refine ro_iconst (v := nI 5) (q := 165) hX dX3_readsCommand_164 rfl rfl ?_
  refine ro_callVi (q9 := 168) hX (m_readsOne hL hL8 hx hx2 (by omega) (by decide) (by decide)) mw_X3_readsOne kl_X3_186 (by decide) (fun cy => cell3 (by decide +kernel)) rfl rfl rfl (Nat.le_of_ble_eq_true rfl) ⟨Nat.le_of_ble_eq_true rfl, Nat.le_of_ble_eq_true rfl⟩ dX3_readsCommand_165 ⟨Nat.le_of_ble_eq_true rfl, Nat.le_of_ble_eq_true rfl⟩ rfl ?_
  exact fin_z hF (Nat.le_of_ble_eq_true rfl) (Nat.le_of_ble_eq_true rfl) dX3_readsCommand_168 (bi_nar _) (by rfl) (by rfl)
set_option maxRecDepth 20000 in
set_option maxHeartbeats 2000000 in
theorem m_rc_o {L : Nat} {tx : Nat → Nat} (hL : F 0 5 = nI L) (hL8 : L ≤ 80) (hx : ∀ i, i < L → F 3 i = nI (tx i)) (hx2 : ∀ i, i < L → tx i < 128) {A : Nat} (hA : A ≤ 80) {l x y : Int32} {c : Nat} (hc : sgT L tx A = c) (hc2 : c < 128) (ho : c < 99 ∨ 120 < c) : Does sz I_X3_readsCommand [.ref (sz + 75)] (patch G 75 4 (mS (tF F A l x y) s), T) 0 0 (.inl (some (nI 0))) (patch G 75 4 (mS (mRC F ((false, A, nI c, x, y))) s), T) := by
  refine Does.of (L := [(0, .ref (sz + 75))]) (by decide +kernel) (Nat.le_of_ble_eq_true rfl) rfl ⟨rfl, (by simp), trivial⟩ (fun VV hF => ?_)
  have hX := hF.c
  refine ro_aload_n (i := 0) (q := 1) hX dX3_readsCommand_0 rfl rfl rfl ?_
  refine ro_aload_n (i := 0) (q := 2) hX dX3_readsCommand_1 rfl rfl rfl ?_
  refine ro_callVi (q9 := 5) hX (m_sign hL hL8 hx hx2 (by omega)) mw_X3_sign kl_X3_164 (by decide) (fun cy => cell3 (by decide +kernel)) rfl rfl rfl (Nat.le_of_ble_eq_true rfl) ⟨Nat.le_of_ble_eq_true rfl, Nat.le_of_ble_eq_true rfl⟩ dX3_readsCommand_2 ⟨Nat.le_of_ble_eq_true rfl, Nat.le_of_ble_eq_true rfl⟩ rfl ?_
  refine vv_top (y := (nI c)) (by rw [hc]) ?_
  refine ro_Npi (j := 7) (q9 := 8) (ty := .int) (by decide) hX rfl rfl rfl kf_X3_180 dX3_readsCommand_5 rfl ?_
  refine vv_LM rfl mT7 ?_
  refine ro_aload_n (i := 0) (q := 9) hX dX3_readsCommand_8 rfl rfl rfl ?_
  refine ro_dup (q := 10) hX dX3_readsCommand_9 rfl rfl ?_
  refine ro_Ngi (j := 6) (q9 := 13) (by decide) hX kf_X3_161 dX3_readsCommand_10 rfl ?_
  refine vv_top (y := (nI A)) (rfl) ?_
  refine ro_iconst (v := nI 1) (q := 14) hX dX3_readsCommand_13 rfl rfl ?_
  refine ro_iadd (q := 15) hX dX3_readsCommand_14 rfl ?_
  refine vv_top (y := nI (A + 1)) (nI_add' rfl rfl) ?_
  refine ro_Npi (j := 6) (q9 := 18) (ty := .int) (by decide) hX rfl rfl rfl kf_X3_161 dX3_readsCommand_15 rfl ?_
  refine vv_LM rfl mT6 ?_
  refine ro_aload_n (i := 0) (q := 19) hX dX3_readsCommand_18 rfl rfl rfl ?_
  refine ro_Ngi (j := 7) (q9 := 22) (by decide) hX kf_X3_180 dX3_readsCommand_19 rfl ?_
  refine vv_top (y := (nI c)) (rfl) ?_
  refine ro_tableOut (tgt := 178) hX dX3_readsCommand_22 (by rw [nI_toInt (by omega)]; omega) (by decide) ?_
  refine ro_aload_n (i := 0) (q := 179) hX dX3_readsCommand_178 rfl rfl rfl ?_
  refine ro_dup (q := 180) hX dX3_readsCommand_179 rfl rfl ?_
  refine ro_Ngi (j := 6) (q9 := 183) (by decide) hX kf_X3_161 dX3_readsCommand_180 rfl ?_
  refine vv_top (y := (nI (A + 1))) (rfl) ?_
  refine ro_iconst (v := nI 1) (q := 184) hX dX3_readsCommand_183 rfl rfl ?_
  refine ro_isub (q := 185) hX dX3_readsCommand_184 rfl ?_
  refine vv_top (y := (nI A)) (nI_pred A) ?_
  refine ro_Npi (j := 6) (q9 := 188) (ty := .int) (by decide) hX rfl rfl rfl kf_X3_161 dX3_readsCommand_185 rfl ?_
  refine ro_iconst (v := nI 0) (q := 189) hX dX3_readsCommand_188 rfl rfl ?_
  exact fin_z hF (Nat.le_of_ble_eq_true rfl) (Nat.le_of_ble_eq_true rfl) dX3_readsCommand_189 rfl (by rfl) (by exact mT6)
theorem m_readsCommand {L : Nat} {tx : Nat → Nat} (hL : F 0 5 = nI L) (hL8 : L ≤ 80) (hx : ∀ i, i < L → F 3 i = nI (tx i)) (hx2 : ∀ i, i < L → tx i < 128) {A : Nat} (hA : A ≤ 80) {l x y : Int32} : Does sz I_X3_readsCommand [.ref (sz + 75)] (patch G 75 4 (mS (tF F A l x y) s), T) 0 0 (.inl (some (bi (rcT L tx A x y).1))) (patch G 75 4 (mS (mRC F (rcT L tx A x y)) s), T) := by
  have hs := sgT_lt (A := A) hx2
  by_cases ho : sgT L tx A < 99 ∨ 120 < sgT L tx A
  · have e : rcT L tx A x y = (false, A, nI (sgT L tx A), x, y) := by
      unfold rcT
      simp only
      rw [if_neg (by omega), if_neg (by omega), if_neg (by omega), if_neg (by omega), if_neg (by omega), if_neg (by omega)]
    rw [e]
    exact m_rc_o hL hL8 hx hx2 hA rfl hs ho
  · have hA9 : A < L := by
      have := ho; unfold sgT at this; split at this <;> omega
    have : sgT L tx A = 99 ∨ sgT L tx A = 100 ∨ sgT L tx A = 101 ∨ sgT L tx A = 102 ∨ sgT L tx A = 103 ∨ sgT L tx A = 104 ∨ sgT L tx A = 105 ∨ sgT L tx A = 106 ∨ sgT L tx A = 107 ∨ sgT L tx A = 108 ∨ sgT L tx A = 109 ∨ sgT L tx A = 110 ∨ sgT L tx A = 111 ∨ sgT L tx A = 112 ∨ sgT L tx A = 113 ∨ sgT L tx A = 114 ∨ sgT L tx A = 115 ∨ sgT L tx A = 116 ∨ sgT L tx A = 117 ∨ sgT L tx A = 118 ∨ sgT L tx A = 119 ∨ sgT L tx A = 120 := by omega
    rcases this with hc | hc | hc | hc | hc | hc | hc | hc | hc | hc | hc | hc | hc | hc | hc | hc | hc | hc | hc | hc | hc | hc
    · exact Does.M (m_rc_99 hL hL8 hx hx2 hA (by omega) hc) rfl (by unfold rcT; rw [hc]; rfl) (by unfold rcT; rw [hc]; rfl)
    · exact Does.M (m_rc_100 hL hL8 hx hx2 hA (by omega) hc) rfl (by unfold rcT; rw [hc]; rfl) (by unfold rcT; rw [hc]; rfl)
    · exact Does.M (m_rc_101 hL hL8 hx hx2 hA (by omega) hc) rfl (by unfold rcT; rw [hc]; rfl) (by unfold rcT; rw [hc]; rfl)
    · exact Does.M (m_rc_102 hL hL8 hx hx2 hA (by omega) hc) rfl (by unfold rcT; rw [hc]; rfl) (by unfold rcT; rw [hc]; rfl)
    · exact Does.M (m_rc_103 hL hL8 hx hx2 hA (by omega) hc) rfl (by unfold rcT; rw [hc]; rfl) (by unfold rcT; rw [hc]; rfl)
    · exact Does.M (m_rc_104 hL hL8 hx hx2 hA (by omega) hc) rfl (by unfold rcT; rw [hc]; rfl) (by unfold rcT; rw [hc]; rfl)
    · exact Does.M (m_rc_105 hL hL8 hx hx2 hA (by omega) hc) rfl (by unfold rcT; rw [hc]; rfl) (by unfold rcT; rw [hc]; rfl)
    · exact Does.M (m_rc_106 hL hL8 hx hx2 hA (by omega) hc) rfl (by unfold rcT; rw [hc]; rfl) (by unfold rcT; rw [hc]; rfl)
    · exact Does.M (m_rc_107 hL hL8 hx hx2 hA (by omega) hc) rfl (by unfold rcT; rw [hc]; rfl) (by unfold rcT; rw [hc]; rfl)
    · exact Does.M (m_rc_108 hL hL8 hx hx2 hA (by omega) hc) rfl (by unfold rcT; rw [hc]; rfl) (by unfold rcT; rw [hc]; rfl)
    · exact Does.M (m_rc_109 hL hL8 hx hx2 hA (by omega) hc) rfl (by unfold rcT; rw [hc]; rfl) (by unfold rcT; rw [hc]; rfl)
    · exact Does.M (m_rc_110 hL hL8 hx hx2 hA (by omega) hc) rfl (by unfold rcT; rw [hc]; rfl) (by unfold rcT; rw [hc]; rfl)
    · exact Does.M (m_rc_111 hL hL8 hx hx2 hA (by omega) hc) rfl (by unfold rcT; rw [hc]; rfl) (by unfold rcT; rw [hc]; rfl)
    · exact Does.M (m_rc_112 hL hL8 hx hx2 hA (by omega) hc) rfl (by unfold rcT; rw [hc]; rfl) (by unfold rcT; rw [hc]; rfl)
    · exact Does.M (m_rc_113 hL hL8 hx hx2 hA (by omega) hc) rfl (by unfold rcT; rw [hc]; rfl) (by unfold rcT; rw [hc]; rfl)
    · exact Does.M (m_rc_114 hL hL8 hx hx2 hA (by omega) hc) rfl (by unfold rcT; rw [hc]; rfl) (by unfold rcT; rw [hc]; rfl)
    · exact Does.M (m_rc_115 hL hL8 hx hx2 hA (by omega) hc) rfl (by unfold rcT; rw [hc]; rfl) (by unfold rcT; rw [hc]; rfl)
    · exact Does.M (m_rc_116 hL hL8 hx hx2 hA (by omega) hc) rfl (by unfold rcT; rw [hc]; rfl) (by unfold rcT; rw [hc]; rfl)
    · exact Does.M (m_rc_117 hL hL8 hx hx2 hA (by omega) hc) rfl (by unfold rcT; rw [hc]; rfl) (by unfold rcT; rw [hc]; rfl)
    · exact Does.M (m_rc_118 hL hL8 hx hx2 hA (by omega) hc) rfl (by unfold rcT; rw [hc]; rfl) (by unfold rcT; rw [hc]; rfl)
    · exact Does.M (m_rc_119 hL hL8 hx hx2 hA (by omega) hc) rfl (by unfold rcT; rw [hc]; rfl) (by unfold rcT; rw [hc]; rfl)
    · exact Does.M (m_rc_120 hL hL8 hx hx2 hA (by omega) hc) rfl (by unfold rcT; rw [hc]; rfl) (by unfold rcT; rw [hc]; rfl)
end
