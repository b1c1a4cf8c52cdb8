section
variable {sz r : Nat} {G : Nat → Nat → Int32} {T : (Nat → Nat) × Int64} {F : SV} {s : NV}
theorem m_takes {L : Nat} {tx : Nat → Nat} (hL : F 0 5 = nI L) (hL8 : L ≤ 80) (hx : ∀ i, i < L → F 3 i = nI (tx i)) (hx2 : ∀ i, i < L → tx i < 128) {A : Nat} (hA : A ≤ 80) {l x y : Int32} {c : Nat} (hc2 : c < 128) : Does sz I_X3_takes [.ref (sz + 75), .int (nI c)] (patch G 75 4 (mS (tF F A l x y) s), T) 0 0 (.inl (some (bi (decide (sgT L tx A = c))))) (patch G 75 4 (mS (tF F (if sgT L tx A = c then A + 1 else A) l x y) s), T) := by
  by_cases hc : sgT L tx A = c
  · rw [if_pos hc]
    exact Does.M (m_takes_1 hL hL8 hx hx2 (by omega) hc2 hc) rfl (by rw [decide_eq_true hc]; rfl) rfl
  · rw [if_neg hc]
    exact Does.M (m_takes_0 hL hL8 hx hx2 (by omega) hc2 hc) rfl (by rw [decide_eq_false hc]; rfl) rfl
set_option maxRecDepth 20000 in
set_option maxHeartbeats 2000000 in
theorem m_isValid_K {L : Nat} {tx : Nat → Nat} (hL : F 0 5 = nI L) (hL8 : L ≤ 80) (hx : ∀ i, i < L → F 3 i = nI (tx i)) (hx2 : ∀ i, i < L → tx i < 128) {K : Nat} (hcc : ∀ k, k < K → vaC L tx (F 0 7) (F 0 8) (F 0 9) k) (hce : ¬ vaC L tx (F 0 7) (F 0 8) (F 0 9) K) : Does sz I_X3_isValid [.ref (sz + 75)] (patch G 75 4 (mS F s), T) 0 0 (.inl (some (bi ((rdT L tx (F 0 7) (F 0 8) (F 0 9) K).1 && decide ((rdT L tx (F 0 7) (F 0 8) (F 0 9) K).2.1 = L))))) (patch G 75 4 (mS (mRC F (rdT L tx (F 0 7) (F 0 8) (F 0 9) K)) s), T) := by
  refine Does.of (L := [(0, .ref (sz + 75))]) (by decide +kernel) (Nat.le_of_ble_eq_true rfl) rfl ⟨rfl, (by simp), trivial⟩ (fun VV hF => ?_)
  have hX := hF.c
  refine ro_aload_n (i := 0) (q := 1) hX dX3_isValid_0 rfl rfl rfl ?_
  refine ro_iconst (v := nI 0) (q := 2) hX dX3_isValid_1 rfl rfl ?_
  refine ro_Npi (j := 6) (q9 := 5) (ty := .int) (by decide) hX rfl rfl rfl kf_X3_161 dX3_isValid_2 rfl ?_
  refine vv_LM (L' := [(0, .ref (sz + 75))]) (M' := (patch G 75 4 (mS (mRC F (hdT L tx (F 0 7) (F 0 8) (F 0 9) 0)) s), T)) (by rfl) mTs ?_
  refine down_ind (P := fun k5 => VV 0 0 5 [(0, .ref (sz + 75))] [] (patch G 75 4 (mS (mRC F (hdT L tx (F 0 7) (F 0 8) (F 0 9) k5)) s), T)) (K) (fun k5 hk5 ih5 => ?_) ?_
  · have ih5 : VV 0 0 5 [(0, .ref (sz + 75))] [] (patch G 75 4 (mS (mRC F (hdT L tx (F 0 7) (F 0 8) (F 0 9) (k5 + 1))) s), T) := ih5
    show VV 0 0 5 [(0, .ref (sz + 75))] [] (patch G 75 4 (mS (mRC F (hdT L tx (F 0 7) (F 0 8) (F 0 9) k5)) s), T)
    have hh1 := hdT_le hL8 hcc k5 (by omega)
    have hh2 : (rdT L tx (F 0 7) (F 0 8) (F 0 9) k5).2.1 ≤ 80 ∧ _ := rcT_le (tx := tx) (x := (hdT L tx (F 0 7) (F 0 8) (F 0 9) k5).2.2.2.1) (y := (hdT L tx (F 0 7) (F 0 8) (F 0 9) k5).2.2.2.2) hL8 hh1.1
    obtain ⟨c1, c2, c3⟩ := hcc k5 hk5
    refine ro_aload_n (i := 0) (q := 6) hX dX3_isValid_5 rfl rfl rfl ?_
    refine ro_callVi (q9 := 9) hX (m_readsCommand hL hL8 hx hx2 (by omega)) mw_X3_readsCommand kl_X3_189 (by decide) (fun cy => cell3 (by decide +kernel)) rfl rfl rfl (Nat.le_of_ble_eq_true rfl) ⟨Nat.le_of_ble_eq_true rfl, Nat.le_of_ble_eq_true rfl⟩ dX3_isValid_6 ⟨Nat.le_of_ble_eq_true rfl, Nat.le_of_ble_eq_true rfl⟩ rfl ?_
    refine ro_ifb_eq (tgt := 36) (q := 12) hX dX3_isValid_9 (by decide) rfl (fun q => absurd q (by rw [c1]; decide)) (fun _ => ?_)
    refine ro_aload_n (i := 0) (q := 13) hX dX3_isValid_12 rfl rfl rfl ?_
    refine ro_Ngi (j := 6) (q9 := 16) (by decide) hX kf_X3_161 dX3_isValid_13 rfl ?_
    refine vv_top (y := (nI ((rdT L tx (F 0 7) (F 0 8) (F 0 9) k5).2.1))) (rfl) ?_
    refine ro_aload_n (i := 0) (q := 17) hX dX3_isValid_16 rfl rfl rfl ?_
    refine ro_Ngi (j := 5) (q9 := 20) (by decide) hX kf_X3_158 dX3_isValid_17 rfl ?_
    refine vv_top (y := (nI L)) (hL) ?_
    refine ro_icmp_ne (tgt := 25) (q := 23) hX dX3_isValid_20 (by decide) rfl (fun _ => ?_) (fun q => absurd q (ni_ne c2 (by omega) (by omega)))
    refine ro_aload_n (i := 0) (q := 26) hX dX3_isValid_25 rfl rfl rfl ?_
    refine ro_bipush (v := nI 59) (q := 28) hX dX3_isValid_26 rfl rfl ?_
    refine ro_callVi (q9 := 31) hX (m_takes_1 hL hL8 hx hx2 (Nat.le_trans hh2.1 (by decide)) (by decide) c3) mw_X3_takes kl_X3_174 (by decide) (fun cy => cell3 (by decide +kernel)) rfl rfl rfl (Nat.le_of_ble_eq_true rfl) ⟨Nat.le_of_ble_eq_true rfl, Nat.le_of_ble_eq_true rfl⟩ dX3_isValid_28 ⟨Nat.le_of_ble_eq_true rfl, Nat.le_of_ble_eq_true rfl⟩ rfl ?_
    refine ro_if_ne (tgt := 5) (q := 34) hX dX3_isValid_31 (by decide) rfl (fun _ => ?_) (fun q => absurd q (by decide))
    have hh1 := hdT_le hL8 hcc k5 (by omega)
    have hh2 : (rdT L tx (F 0 7) (F 0 8) (F 0 9) k5).2.1 ≤ 80 ∧ _ := rcT_le (tx := tx) (x := (hdT L tx (F 0 7) (F 0 8) (F 0 9) k5).2.2.2.1) (y := (hdT L tx (F 0 7) (F 0 8) (F 0 9) k5).2.2.2.2) hL8 hh1.1
    obtain ⟨c1, c2, c3⟩ := hcc k5 hk5
    exact vv_LM rfl (by rfl) ih5
  · show VV 0 0 5 [(0, .ref (sz + 75))] [] (patch G 75 4 (mS (mRC F (hdT L tx (F 0 7) (F 0 8) (F 0 9) K)) s), T)
    have hh1 := hdT_le hL8 hcc K (by omega)
    have hh2 : (rdT L tx (F 0 7) (F 0 8) (F 0 9) K).2.1 ≤ 80 ∧ _ := rcT_le (tx := tx) (x := (hdT L tx (F 0 7) (F 0 8) (F 0 9) K).2.2.2.1) (y := (hdT L tx (F 0 7) (F 0 8) (F 0 9) K).2.2.2.2) hL8 hh1.1
    refine ro_aload_n (i := 0) (q := 6) hX dX3_isValid_5 rfl rfl rfl ?_
    refine ro_callVi (q9 := 9) hX (m_readsCommand hL hL8 hx hx2 (by omega)) mw_X3_readsCommand kl_X3_189 (by decide) (fun cy => cell3 (by decide +kernel)) rfl rfl rfl (Nat.le_of_ble_eq_true rfl) ⟨Nat.le_of_ble_eq_true rfl, Nat.le_of_ble_eq_true rfl⟩ dX3_isValid_6 ⟨Nat.le_of_ble_eq_true rfl, Nat.le_of_ble_eq_true rfl⟩ rfl ?_
    refine ro_ifb_eq (tgt := 36) (q := 12) hX dX3_isValid_9 (by decide) rfl (fun q1 => ?_) (fun q1 => ?_)
    · skip
      refine ro_iconst (v := nI 0) (q := 37) hX dX3_isValid_36 rfl rfl ?_
      exact fin_z hF (Nat.le_of_ble_eq_true rfl) (Nat.le_of_ble_eq_true rfl) dX3_isValid_37 rfl (by simp [*, bi]) (by rfl)
    · skip
      refine ro_aload_n (i := 0) (q := 13) hX dX3_isValid_12 rfl rfl rfl ?_
      refine ro_Ngi (j := 6) (q9 := 16) (by decide) hX kf_X3_161 dX3_isValid_13 rfl ?_
      refine vv_top (y := (nI ((rdT L tx (F 0 7) (F 0 8) (F 0 9) K).2.1))) (rfl) ?_
      refine ro_aload_n (i := 0) (q := 17) hX dX3_isValid_16 rfl rfl rfl ?_
      refine ro_Ngi (j := 5) (q9 := 20) (by decide) hX kf_X3_158 dX3_isValid_17 rfl ?_
      refine vv_top (y := (nI L)) (hL) ?_
      refine ro_icmp_ne (tgt := 25) (q := 23) hX dX3_isValid_20 (by decide) rfl (fun q2 => ?_) (fun q2 => ?_)
      · rw [nI_eq (by omega) (by omega)] at q2
        refine ro_aload_n (i := 0) (q := 26) hX dX3_isValid_25 rfl rfl rfl ?_
        refine ro_bipush (v := nI 59) (q := 28) hX dX3_isValid_26 rfl rfl ?_
        refine ro_callVi (q9 := 31) hX (m_takes_0 hL hL8 hx hx2 (Nat.le_trans hh2.1 (by decide)) (by decide) (by intro e; apply hce; refine ⟨?_, ?_, e⟩ <;> assumption)) mw_X3_takes kl_X3_174 (by decide) (fun cy => cell3 (by decide +kernel)) rfl rfl rfl (Nat.le_of_ble_eq_true rfl) ⟨Nat.le_of_ble_eq_true rfl, Nat.le_of_ble_eq_true rfl⟩ dX3_isValid_28 ⟨Nat.le_of_ble_eq_true rfl, Nat.le_of_ble_eq_true rfl⟩ rfl ?_
        refine ro_if_ne (tgt := 5) (q := 34) hX dX3_isValid_31 (by decide) rfl (fun q => absurd (by decide) q) (fun _ => ?_)
        refine ro_iconst (v := nI 0) (q := 35) hX dX3_isValid_34 rfl rfl ?_
        exact fin_z hF (Nat.le_of_ble_eq_true rfl) (Nat.le_of_ble_eq_true rfl) dX3_isValid_35 rfl (by simp [*, bi]) (by rfl)
      · rw [nI_eq (by omega) (by omega)] at q2
        refine ro_iconst (v := nI 1) (q := 24) hX dX3_isValid_23 rfl rfl ?_
        exact fin_z hF (Nat.le_of_ble_eq_true rfl) (Nat.le_of_ble_eq_true rfl) dX3_isValid_24 rfl (by simp [*, bi]) (by rfl)
theorem m_isValid {L : Nat} {tx : Nat → Nat} (hL : F 0 5 = nI L) (hL8 : L ≤ 80) (hx : ∀ i, i < L → F 3 i = nI (tx i)) (hx2 : ∀ i, i < L → tx i < 128) : Does sz I_X3_isValid [.ref (sz + 75)] (patch G 75 4 (mS F s), T) 0 0 (.inl (some (bi (vaT L tx (F 0 7) (F 0 8) (F 0 9))))) (patch G 75 4 (mS (mRC F (rdT L tx (F 0 7) (F 0 8) (F 0 9) (vaK L tx (F 0 7) (F 0 8) (F 0 9)))) s), T) := m_isValid_K hL hL8 hx hx2 (fun k hk => vaK_c hk) (vaK_n hL8)
set_option maxRecDepth 20000 in
set_option maxHeartbeats 2000000 in
theorem a_errorPosition {L : Nat} {tx : Nat → Nat} (hL : F 0 5 = nI L) (hL8 : L ≤ 80) (hx : ∀ i, i < L → F 3 i = nI (tx i)) (hx2 : ∀ i, i < L → tx i < 128) : Does sz I_X3_errorPosition [.ref (sz + 75)] (patch G 75 4 (mS F s), T) 0 0 (.inl (some (if vaT L tx (F 0 7) (F 0 8) (F 0 9) then -1 else nI (rdT L tx (F 0 7) (F 0 8) (F 0 9) (vaK L tx (F 0 7) (F 0 8) (F 0 9))).2.1))) (patch G 75 4 (mS (mRC (put F 0 0 (nI 0)) (rdT L tx (F 0 7) (F 0 8) (F 0 9) (vaK L tx (F 0 7) (F 0 8) (F 0 9)))) s), T) := by
  refine Does.of (L := [(0, .ref (sz + 75))]) (by decide +kernel) (Nat.le_of_ble_eq_true rfl) rfl ⟨rfl, (by simp), trivial⟩ (fun VV hF => ?_)
  have hX := hF.c
  refine ro_aload_n (i := 0) (q := 1) hX dX3_errorPosition_0 rfl rfl rfl ?_
  refine ro_iconst (v := nI 0) (q := 2) hX dX3_errorPosition_1 rfl rfl ?_
  refine ro_Npi (j := 0) (q9 := 5) (ty := .int) (by decide) hX rfl rfl rfl kf_X3_20 dX3_errorPosition_2 rfl ?_
  refine ro_aload_n (i := 0) (q := 6) hX dX3_errorPosition_5 rfl rfl rfl ?_
  refine ro_callVi (q9 := 9) hX (m_isValid hL hL8 hx hx2) mw_X3_isValid kl_X3_193 (by decide) (fun cy => cell3 (by decide +kernel)) rfl rfl rfl (Nat.le_of_ble_eq_true rfl) ⟨Nat.le_of_ble_eq_true rfl, Nat.le_of_ble_eq_true rfl⟩ dX3_errorPosition_6 ⟨Nat.le_of_ble_eq_true rfl, Nat.le_of_ble_eq_true rfl⟩ rfl ?_
  refine ro_ifb_eq (tgt := 16) (q := 12) hX dX3_errorPosition_9 (by decide) rfl (fun q1 => ?_) (fun q1 => ?_)
  · skip
    refine ro_aload_n (i := 0) (q := 17) hX dX3_errorPosition_16 rfl rfl rfl ?_
    refine ro_Ngi (j := 6) (q9 := 20) (by decide) hX kf_X3_161 dX3_errorPosition_17 rfl ?_
    exact fin_i hF (Nat.le_of_ble_eq_true rfl) (Nat.le_of_ble_eq_true rfl) dX3_errorPosition_20 (by first | exact (if_pos q1).symm | exact (if_neg (by rw [show vaT L tx (F 0 7) (F 0 8) (F 0 9) = false from q1]; decide)).symm) (by rfl)
  · skip
    refine ro_iconst (v := (-1)) (q := 13) hX dX3_errorPosition_12 rfl rfl ?_
    refine ro_goto (tgt := 20) hX dX3_errorPosition_13 (by decide) ?_
    exact fin_i hF (Nat.le_of_ble_eq_true rfl) (Nat.le_of_ble_eq_true rfl) dX3_errorPosition_20 (by first | exact (if_pos q1).symm | exact (if_neg (by rw [show vaT L tx (F 0 7) (F 0 8) (F 0 9) = false from q1]; decide)).symm) (by rfl)
end
