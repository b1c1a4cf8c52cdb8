section
variable {sz r : Nat} {G : Nat → Nat → Int32} {T : (Nat → Nat) × Int64} {F : SV} {s : NV}
set_option maxRecDepth 20000 in
set_option maxHeartbeats 2000000 in
theorem a_runText_1 {L : Nat} {tx : Nat → Nat} (hL : F 0 5 = nI L) (hL8 : L ≤ 80) (hx : ∀ i, i < L → F 3 i = nI (tx i)) (hx2 : ∀ i, i < L → tx i < 128) (hv : vaT L tx (F 0 7) (F 0 8) (F 0 9) = false) : Does sz I_X3_runText [.ref (sz + 75)] (patch G 75 4 (mS F s), T) 0 0 (.inl (some (nI 0))) (patch G 75 4 (mS (put (mRC F (rdT L tx (F 0 7) (F 0 8) (F 0 9) (vaK L tx (F 0 7) (F 0 8) (F 0 9)))) 0 0 (nI 1)) s), T) := by
  refine Does.of (L := [(0, .ref (sz + 75))]) (by decide +kernel) (Nat.le_of_ble_eq_true rfl) rfl ⟨rfl, (by simp), trivial⟩ (fun VV hF => ?_)
  have hX := hF.c
  refine ro_aload_n (i := 0) (q := 1) hX dX3_runText_0 rfl rfl rfl ?_
  refine ro_aload_n (i := 0) (q := 2) hX dX3_runText_1 rfl rfl rfl ?_
  refine ro_callVi (q9 := 5) hX (Does.M (o1 := .inl (some (nI 0))) (m_isValid hL hL8 hx hx2) rfl (by rw [hv]; rfl) rfl) mw_X3_isValid kl_X3_193 (by decide) (fun cy => cell3 (by decide +kernel)) rfl rfl rfl (Nat.le_of_ble_eq_true rfl) ⟨Nat.le_of_ble_eq_true rfl, Nat.le_of_ble_eq_true rfl⟩ dX3_runText_2 ⟨Nat.le_of_ble_eq_true rfl, Nat.le_of_ble_eq_true rfl⟩ rfl ?_
  refine ro_if_eq (tgt := 12) (q := 8) hX dX3_runText_5 (by decide) rfl (fun _ => ?_) (fun q => absurd (by decide) q)
  refine ro_iconst (v := nI 1) (q := 13) hX dX3_runText_12 rfl rfl ?_
  refine ro_callVi (q9 := 16) hX (m_holds_1) mw_X3_holds kl_X3_109 (by decide) (fun cy => cell3 (by decide +kernel)) rfl rfl rfl (Nat.le_of_ble_eq_true rfl) ⟨Nat.le_of_ble_eq_true rfl, Nat.le_of_ble_eq_true rfl⟩ dX3_runText_13 ⟨Nat.le_of_ble_eq_true rfl, Nat.le_of_ble_eq_true rfl⟩ rfl ?_
  refine ro_if_ne (tgt := 21) (q := 19) hX dX3_runText_16 (by decide) rfl (fun q => absurd (by decide) q) (fun _ => ?_)
  refine ro_iconst (v := nI 0) (q := 20) hX dX3_runText_19 rfl rfl ?_
  exact fin_i hF (Nat.le_of_ble_eq_true rfl) (Nat.le_of_ble_eq_true rfl) dX3_runText_20 (by rfl) (by rfl)
abbrev fiT (F : SV) (L : Nat) (tx : Nat → Nat) : RC := rdT L tx (F 0 7) (F 0 8) (F 0 9) (vaK L tx (F 0 7) (F 0 8) (F 0 9))
/-- the fields behind the first reading and the keeping -/
def fkT (F : SV) (L : Nat) (tx : Nat → Nat) (v : Nat) : SV := FK (mRC F (fiT F L tx)) v
set_option maxRecDepth 20000 in
set_option maxHeartbeats 2000000 in
theorem a_runText {L : Nat} {tx : Nat → Nat} (hL : F 0 5 = nI L) (hL8 : L ≤ 80) (hx : ∀ i, i < L → F 3 i = nI (tx i)) (hx2 : ∀ i, i < L → tx i < 128) (hv : vaT L tx (F 0 7) (F 0 8) (F 0 9) = true) {v : Nat} (hv6 : v ≤ 6) (hF9 : F 0 2 = nI v) {K : Nat} (hK : K ≤ 82) (hcc : ∀ k, k < K → ruC L tx (fiT F L tx).2.2.1 (fiT F L tx).2.2.2.1 (fiT F L tx).2.2.2.2 (kpS s v) k) (hce : ¬ ruC L tx (fiT F L tx).2.2.1 (fiT F L tx).2.2.2.1 (fiT F L tx).2.2.2.2 (kpS s v) K) (hT : ∀ k, k < K → cN (rd2 L tx (fiT F L tx).2.2.1 (fiT F L tx).2.2.2.1 (fiT F L tx).2.2.2.2 k).2.2.1 = 116 → ∀ j, j < cN (rd2 L tx (fiT F L tx).2.2.1 (fiT F L tx).2.2.2.1 (fiT F L tx).2.2.2.2 k).2.2.2.1 → trOK (tkM (spL (sqT L tx (fiT F L tx).2.2.1 (fiT F L tx).2.2.2.1 (fiT F L tx).2.2.2.2 (kpS s v) k) 0 j) 0) 0) : Does sz I_X3_runText [.ref (sz + 75)] (patch G 75 4 (mS F s), T) 0 0 (.inl (some (nI (cnT L tx (fiT F L tx).2.2.1 (fiT F L tx).2.2.2.1 (fiT F L tx).2.2.2.2 (kpS s v) K)))) (patch G 75 4 (mS (if (rd2 L tx (fiT F L tx).2.2.1 (fiT F L tx).2.2.2.1 (fiT F L tx).2.2.2.2 K).1 then mRC (fkT F L tx v) (rd2 L tx (fiT F L tx).2.2.1 (fiT F L tx).2.2.2.1 (fiT F L tx).2.2.2.2 K) else mRC (fkT F L tx v) (rd2 L tx (fiT F L tx).2.2.1 (fiT F L tx).2.2.2.1 (fiT F L tx).2.2.2.2 K)) (sqT L tx (fiT F L tx).2.2.1 (fiT F L tx).2.2.2.1 (fiT F L tx).2.2.2.2 (kpS s v) K)), T) := by
  refine Does.of (L := [(0, .ref (sz + 75))]) (by decide +kernel) (Nat.le_of_ble_eq_true rfl) rfl ⟨rfl, (by simp), trivial⟩ (fun VV hF => ?_)
  have hX := hF.c
  have hL2 : (fkT F L tx v) 0 5 = nI L := hL
  have hxx : ∀ i, i < L → (fkT F L tx v) 3 i = nI (tx i) := hx
  refine ro_aload_n (i := 0) (q := 1) hX dX3_runText_0 rfl rfl rfl ?_
  refine ro_aload_n (i := 0) (q := 2) hX dX3_runText_1 rfl rfl rfl ?_
  refine ro_callVi (q9 := 5) hX (Does.M (o1 := .inl (some (nI 1))) (m_isValid hL hL8 hx hx2) rfl (by rw [hv]; rfl) rfl) mw_X3_isValid kl_X3_193 (by decide) (fun cy => cell3 (by decide +kernel)) rfl rfl rfl (Nat.le_of_ble_eq_true rfl) ⟨Nat.le_of_ble_eq_true rfl, Nat.le_of_ble_eq_true rfl⟩ dX3_runText_2 ⟨Nat.le_of_ble_eq_true rfl, Nat.le_of_ble_eq_true rfl⟩ rfl ?_
  refine ro_if_eq (tgt := 12) (q := 8) hX dX3_runText_5 (by decide) rfl (fun q => absurd q (by decide)) (fun _ => ?_)
  refine ro_iconst (v := nI 0) (q := 9) hX dX3_runText_8 rfl rfl ?_
  refine ro_goto (tgt := 13) hX dX3_runText_9 (by decide) ?_
  refine ro_callVi (q9 := 16) hX (m_holds_0) mw_X3_holds kl_X3_109 (by decide) (fun cy => cell3 (by decide +kernel)) rfl rfl rfl (Nat.le_of_ble_eq_true rfl) ⟨Nat.le_of_ble_eq_true rfl, Nat.le_of_ble_eq_true rfl⟩ dX3_runText_13 ⟨Nat.le_of_ble_eq_true rfl, Nat.le_of_ble_eq_true rfl⟩ rfl ?_
  refine ro_if_ne (tgt := 21) (q := 19) hX dX3_runText_16 (by decide) rfl (fun _ => ?_) (fun q => absurd q (by decide))
  refine ro_aload_n (i := 0) (q := 22) hX dX3_runText_21 rfl rfl rfl ?_
  refine ro_callVv (q9 := 25) hX (m_keeps hv6 hF9) mw_X3_keeps kl_X3_112 (by decide) (fun cy => cell3 (by decide +kernel)) rfl rfl rfl (Nat.le_of_ble_eq_true rfl) ⟨Nat.le_of_ble_eq_true rfl, Nat.le_of_ble_eq_true rfl⟩ dX3_runText_22 ⟨Nat.le_of_ble_eq_true rfl, Nat.le_of_ble_eq_true rfl⟩ rfl ?_
  refine ro_aload_n (i := 0) (q := 26) hX dX3_runText_25 rfl rfl rfl ?_
  refine ro_iconst (v := nI 0) (q := 27) hX dX3_runText_26 rfl rfl ?_
  refine ro_Npi (j := 6) (q9 := 30) (ty := .int) (by decide) hX rfl rfl rfl kf_X3_161 dX3_runText_27 rfl ?_
  refine ro_iconst (v := nI 0) (q := 31) hX dX3_runText_30 rfl rfl ?_
  refine ro_istore_n (i := 1) (q := 32) hX dX3_runText_31 rfl (Nat.le_of_ble_eq_true rfl) rfl ?_
  refine vv_LM (L' := [(0, .ref (sz + 75)), (1, .int (nI (cnT L tx (fiT F L tx).2.2.1 (fiT F L tx).2.2.2.1 (fiT F L tx).2.2.2.2 (kpS s v) 0)))]) (M' := (patch G 75 4 (mS (mRC (fkT F L tx v) (h2T L tx (fiT F L tx).2.2.1 (fiT F L tx).2.2.2.1 (fiT F L tx).2.2.2.2 0)) (sqT L tx (fiT F L tx).2.2.1 (fiT F L tx).2.2.2.1 (fiT F L tx).2.2.2.2 (kpS s v) 0)), T)) (by rfl) mTs ?_
  refine down_ind (P := fun k32 => VV 0 0 32 [(0, .ref (sz + 75)), (1, .int (nI (cnT L tx (fiT F L tx).2.2.1 (fiT F L tx).2.2.2.1 (fiT F L tx).2.2.2.2 (kpS s v) k32)))] [] (patch G 75 4 (mS (mRC (fkT F L tx v) (h2T L tx (fiT F L tx).2.2.1 (fiT F L tx).2.2.2.1 (fiT F L tx).2.2.2.2 k32)) (sqT L tx (fiT F L tx).2.2.1 (fiT F L tx).2.2.2.1 (fiT F L tx).2.2.2.2 (kpS s v) k32)), T)) (K) (fun k32 hk32 ih32 => ?_) ?_
  · have ih32 : VV 0 0 32 [(0, .ref (sz + 75)), (1, .int (nI (cnT L tx (fiT F L tx).2.2.1 (fiT F L tx).2.2.2.1 (fiT F L tx).2.2.2.2 (kpS s v) (k32 + 1))))] [] (patch G 75 4 (mS (mRC (fkT F L tx v) (h2T L tx (fiT F L tx).2.2.1 (fiT F L tx).2.2.2.1 (fiT F L tx).2.2.2.2 (k32 + 1))) (sqT L tx (fiT F L tx).2.2.1 (fiT F L tx).2.2.2.1 (fiT F L tx).2.2.2.2 (kpS s v) (k32 + 1))), T) := ih32
    show VV 0 0 32 [(0, .ref (sz + 75)), (1, .int (nI (cnT L tx (fiT F L tx).2.2.1 (fiT F L tx).2.2.2.1 (fiT F L tx).2.2.2.2 (kpS s v) k32)))] [] (patch G 75 4 (mS (mRC (fkT F L tx v) (h2T L tx (fiT F L tx).2.2.1 (fiT F L tx).2.2.2.1 (fiT F L tx).2.2.2.2 k32)) (sqT L tx (fiT F L tx).2.2.1 (fiT F L tx).2.2.2.1 (fiT F L tx).2.2.2.2 (kpS s v) k32)), T)
    have hh1 := h2T_le (tx := tx) (l := (fiT F L tx).2.2.1) (x := (fiT F L tx).2.2.2.1) (y := (fiT F L tx).2.2.2.2) hL8 k32
    have hh2 : (rd2 L tx (fiT F L tx).2.2.1 (fiT F L tx).2.2.2.1 (fiT F L tx).2.2.2.2 k32).2.1 ≤ 80 ∧ _ := rcT_le (tx := tx) (x := (h2T L tx (fiT F L tx).2.2.1 (fiT F L tx).2.2.2.1 (fiT F L tx).2.2.2.2 k32).2.2.2.1) (y := (h2T L tx (fiT F L tx).2.2.1 (fiT F L tx).2.2.2.1 (fiT F L tx).2.2.2.2 k32).2.2.2.2) hL8 hh1
    obtain ⟨c1, c2⟩ := hcc k32 hk32
    refine ro_aload_n (i := 0) (q := 33) hX dX3_runText_32 rfl rfl rfl ?_
    refine ro_callVi (q9 := 36) hX (m_readsCommand hL2 hL8 hxx hx2 hh1) mw_X3_readsCommand kl_X3_189 (by decide) (fun cy => cell3 (by decide +kernel)) rfl rfl rfl (Nat.le_of_ble_eq_true rfl) ⟨Nat.le_of_ble_eq_true rfl, Nat.le_of_ble_eq_true rfl⟩ dX3_runText_33 ⟨Nat.le_of_ble_eq_true rfl, Nat.le_of_ble_eq_true rfl⟩ rfl ?_
    refine ro_ifb_eq (tgt := 71) (q := 39) hX dX3_runText_36 (by decide) rfl (fun q => absurd q (by rw [c1]; decide)) (fun _ => ?_)
    obtain ⟨c, p, hcl, hcf, hct⟩ := rcT_ok (L := L) (tx := tx) (A := (h2T L tx (fiT F L tx).2.2.1 (fiT F L tx).2.2.2.1 (fiT F L tx).2.2.2.2 k32).2.1) (x := (h2T L tx (fiT F L tx).2.2.1 (fiT F L tx).2.2.2.1 (fiT F L tx).2.2.2.2 k32).2.2.2.1) (y := (h2T L tx (fiT F L tx).2.2.1 (fiT F L tx).2.2.2.1 (fiT F L tx).2.2.2.2 k32).2.2.2.2) c1
    have hc9 : cN (rd2 L tx (fiT F L tx).2.2.1 (fiT F L tx).2.2.2.1 (fiT F L tx).2.2.2.2 k32).2.2.1 = c := by rw [hcl]; exact cN_n (by unfold tOK at hct; omega)
    have hp9 : cN (rd2 L tx (fiT F L tx).2.2.1 (fiT F L tx).2.2.2.1 (fiT F L tx).2.2.2.2 k32).2.2.2.1 = p := by rw [hcf]; exact cN_n (by unfold tOK at hct; omega)
    have hTk := hT k32 hk32
    rw [hc9, hp9] at c2 hTk
    refine ro_aload_n (i := 0) (q := 40) hX dX3_runText_39 rfl rfl rfl ?_
    refine ro_callVi (q9 := 43) hX (m_can hcl hcf hct) mw_X3_can kl_X3_196 (by decide) (fun cy => cell3 (by decide +kernel)) rfl rfl rfl (Nat.le_of_ble_eq_true rfl) ⟨Nat.le_of_ble_eq_true rfl, Nat.le_of_ble_eq_true rfl⟩ dX3_runText_40 ⟨Nat.le_of_ble_eq_true rfl, Nat.le_of_ble_eq_true rfl⟩ rfl ?_
    refine ro_ifb_eq (tgt := 71) (q := 46) hX dX3_runText_43 (by decide) rfl (fun q => absurd q (by rw [c2]; decide)) (fun _ => ?_)
    refine ro_iload_n (i := 1) (q := 47) hX dX3_runText_46 rfl rfl rfl ?_
    refine ro_aload_n (i := 0) (q := 48) hX dX3_runText_47 rfl rfl rfl ?_
    refine ro_callVi (q9 := 51) hX (m_does hcl hcf hct hTk) mw_X3_does kl_X3_199 (by decide) (fun cy => cell3 (by decide +kernel)) rfl rfl rfl (Nat.le_of_ble_eq_true rfl) ⟨Nat.le_of_ble_eq_true rfl, Nat.le_of_ble_eq_true rfl⟩ dX3_runText_48 ⟨Nat.le_of_ble_eq_true rfl, Nat.le_of_ble_eq_true rfl⟩ rfl ?_
    refine ro_if_lt (tgt := 58) (q := 54) hX dX3_runText_51 (by decide) rfl (fun q1 => ?_) (fun q1 => ?_)
    · skip
      refine ro_iconst (v := nI 0) (q := 59) hX dX3_runText_58 rfl rfl ?_
      refine ro_iadd (q := 60) hX dX3_runText_59 rfl ?_
      refine vv_top (y := nI ((cnT L tx (fiT F L tx).2.2.1 (fiT F L tx).2.2.2.1 (fiT F L tx).2.2.2.2 (kpS s v) k32) + 0)) (nI_add' rfl rfl) ?_
      refine ro_istore_n (i := 1) (q := 61) hX dX3_runText_60 rfl (Nat.le_of_ble_eq_true rfl) rfl ?_
      refine ro_aload_n (i := 0) (q := 62) hX dX3_runText_61 rfl rfl rfl ?_
      refine ro_bipush (v := nI 59) (q := 64) hX dX3_runText_62 rfl rfl ?_
      refine ro_callVi (q9 := 67) hX (m_takes hL2 hL8 hxx hx2 hh2.1 (by decide)) mw_X3_takes kl_X3_174 (by decide) (fun cy => cell3 (by decide +kernel)) rfl rfl rfl (Nat.le_of_ble_eq_true rfl) ⟨Nat.le_of_ble_eq_true rfl, Nat.le_of_ble_eq_true rfl⟩ dX3_runText_64 ⟨Nat.le_of_ble_eq_true rfl, Nat.le_of_ble_eq_true rfl⟩ rfl ?_
      refine ro_pop (q := 68) hX dX3_runText_67 rfl rfl ?_
      refine ro_goto (tgt := 32) hX dX3_runText_68 (by decide) ?_
      have hh1 := h2T_le (tx := tx) (l := (fiT F L tx).2.2.1) (x := (fiT F L tx).2.2.2.1) (y := (fiT F L tx).2.2.2.2) hL8 k32
      have hh2 : (rd2 L tx (fiT F L tx).2.2.1 (fiT F L tx).2.2.2.1 (fiT F L tx).2.2.2.2 k32).2.1 ≤ 80 ∧ _ := rcT_le (tx := tx) (x := (h2T L tx (fiT F L tx).2.2.1 (fiT F L tx).2.2.2.1 (fiT F L tx).2.2.2.2 k32).2.2.2.1) (y := (h2T L tx (fiT F L tx).2.2.1 (fiT F L tx).2.2.2.1 (fiT F L tx).2.2.2.2 k32).2.2.2.2) hL8 hh1
      obtain ⟨c1, c2⟩ := hcc k32 hk32
      exact vv_LM (by rw [cnT, hc9, hp9]; first | (rw [if_pos (by assumption)]; rfl) | (rw [if_neg (by assumption)]; rfl)) (by simp only [sqT, h2T, hc9, hp9]; rfl) ih32
    · skip
      refine ro_iconst (v := nI 1) (q := 55) hX dX3_runText_54 rfl rfl ?_
      refine ro_goto (tgt := 59) hX dX3_runText_55 (by decide) ?_
      refine ro_iadd (q := 60) hX dX3_runText_59 rfl ?_
      refine vv_top (y := nI ((cnT L tx (fiT F L tx).2.2.1 (fiT F L tx).2.2.2.1 (fiT F L tx).2.2.2.2 (kpS s v) k32) + 1)) (nI_add' rfl rfl) ?_
      refine ro_istore_n (i := 1) (q := 61) hX dX3_runText_60 rfl (Nat.le_of_ble_eq_true rfl) rfl ?_
      refine ro_aload_n (i := 0) (q := 62) hX dX3_runText_61 rfl rfl rfl ?_
      refine ro_bipush (v := nI 59) (q := 64) hX dX3_runText_62 rfl rfl ?_
      refine ro_callVi (q9 := 67) hX (m_takes hL2 hL8 hxx hx2 hh2.1 (by decide)) mw_X3_takes kl_X3_174 (by decide) (fun cy => cell3 (by decide +kernel)) rfl rfl rfl (Nat.le_of_ble_eq_true rfl) ⟨Nat.le_of_ble_eq_true rfl, Nat.le_of_ble_eq_true rfl⟩ dX3_runText_64 ⟨Nat.le_of_ble_eq_true rfl, Nat.le_of_ble_eq_true rfl⟩ rfl ?_
      refine ro_pop (q := 68) hX dX3_runText_67 rfl rfl ?_
      refine ro_goto (tgt := 32) hX dX3_runText_68 (by decide) ?_
      have hh1 := h2T_le (tx := tx) (l := (fiT F L tx).2.2.1) (x := (fiT F L tx).2.2.2.1) (y := (fiT F L tx).2.2.2.2) hL8 k32
      have hh2 : (rd2 L tx (fiT F L tx).2.2.1 (fiT F L tx).2.2.2.1 (fiT F L tx).2.2.2.2 k32).2.1 ≤ 80 ∧ _ := rcT_le (tx := tx) (x := (h2T L tx (fiT F L tx).2.2.1 (fiT F L tx).2.2.2.1 (fiT F L tx).2.2.2.2 k32).2.2.2.1) (y := (h2T L tx (fiT F L tx).2.2.1 (fiT F L tx).2.2.2.1 (fiT F L tx).2.2.2.2 k32).2.2.2.2) hL8 hh1
      obtain ⟨c1, c2⟩ := hcc k32 hk32
      exact vv_LM (by rw [cnT, hc9, hp9]; first | (rw [if_pos (by assumption)]; rfl) | (rw [if_neg (by assumption)]; rfl)) (by simp only [sqT, h2T, hc9, hp9]; rfl) ih32
  · show VV 0 0 32 [(0, .ref (sz + 75)), (1, .int (nI (cnT L tx (fiT F L tx).2.2.1 (fiT F L tx).2.2.2.1 (fiT F L tx).2.2.2.2 (kpS s v) K)))] [] (patch G 75 4 (mS (mRC (fkT F L tx v) (h2T L tx (fiT F L tx).2.2.1 (fiT F L tx).2.2.2.1 (fiT F L tx).2.2.2.2 K)) (sqT L tx (fiT F L tx).2.2.1 (fiT F L tx).2.2.2.1 (fiT F L tx).2.2.2.2 (kpS s v) K)), T)
    have hh1 := h2T_le (tx := tx) (l := (fiT F L tx).2.2.1) (x := (fiT F L tx).2.2.2.1) (y := (fiT F L tx).2.2.2.2) hL8 K
    have hh2 : (rd2 L tx (fiT F L tx).2.2.1 (fiT F L tx).2.2.2.1 (fiT F L tx).2.2.2.2 K).2.1 ≤ 80 ∧ _ := rcT_le (tx := tx) (x := (h2T L tx (fiT F L tx).2.2.1 (fiT F L tx).2.2.2.1 (fiT F L tx).2.2.2.2 K).2.2.2.1) (y := (h2T L tx (fiT F L tx).2.2.1 (fiT F L tx).2.2.2.1 (fiT F L tx).2.2.2.2 K).2.2.2.2) hL8 hh1
    refine ro_aload_n (i := 0) (q := 33) hX dX3_runText_32 rfl rfl rfl ?_
    refine ro_callVi (q9 := 36) hX (m_readsCommand hL2 hL8 hxx hx2 hh1) mw_X3_readsCommand kl_X3_189 (by decide) (fun cy => cell3 (by decide +kernel)) rfl rfl rfl (Nat.le_of_ble_eq_true rfl) ⟨Nat.le_of_ble_eq_true rfl, Nat.le_of_ble_eq_true rfl⟩ dX3_runText_33 ⟨Nat.le_of_ble_eq_true rfl, Nat.le_of_ble_eq_true rfl⟩ rfl ?_
    refine ro_ifb_eq (tgt := 71) (q := 39) hX dX3_runText_36 (by decide) rfl (fun q2 => ?_) (fun q2 => ?_)
    · skip
      refine ro_iload_n (i := 1) (q := 72) hX dX3_runText_71 rfl rfl rfl ?_
      exact fin_i hF (Nat.le_of_ble_eq_true rfl) (Nat.le_of_ble_eq_true rfl) dX3_runText_72 (by rfl) (by split <;> rfl)
    · skip
      obtain ⟨c, p, hcl, hcf, hct⟩ := rcT_ok (L := L) (tx := tx) (A := (h2T L tx (fiT F L tx).2.2.1 (fiT F L tx).2.2.2.1 (fiT F L tx).2.2.2.2 K).2.1) (x := (h2T L tx (fiT F L tx).2.2.1 (fiT F L tx).2.2.2.1 (fiT F L tx).2.2.2.2 K).2.2.2.1) (y := (h2T L tx (fiT F L tx).2.2.1 (fiT F L tx).2.2.2.1 (fiT F L tx).2.2.2.2 K).2.2.2.2) (by assumption)
      have hc9 : cN (rd2 L tx (fiT F L tx).2.2.1 (fiT F L tx).2.2.2.1 (fiT F L tx).2.2.2.2 K).2.2.1 = c := by rw [hcl]; exact cN_n (by unfold tOK at hct; omega)
      have hp9 : cN (rd2 L tx (fiT F L tx).2.2.1 (fiT F L tx).2.2.2.1 (fiT F L tx).2.2.2.2 K).2.2.2.1 = p := by rw [hcf]; exact cN_n (by unfold tOK at hct; omega)
      refine ro_aload_n (i := 0) (q := 40) hX dX3_runText_39 rfl rfl rfl ?_
      refine ro_callVi (q9 := 43) hX (m_can hcl hcf hct) mw_X3_can kl_X3_196 (by decide) (fun cy => cell3 (by decide +kernel)) rfl rfl rfl (Nat.le_of_ble_eq_true rfl) ⟨Nat.le_of_ble_eq_true rfl, Nat.le_of_ble_eq_true rfl⟩ dX3_runText_40 ⟨Nat.le_of_ble_eq_true rfl, Nat.le_of_ble_eq_true rfl⟩ rfl ?_
      refine ro_ifb_eq (tgt := 71) (q := 46) hX dX3_runText_43 (by decide) rfl (fun _ => ?_) (fun q => absurd q (fun e => hce ⟨by assumption, by rw [hc9, hp9]; exact e⟩))
      refine ro_iload_n (i := 1) (q := 72) hX dX3_runText_71 rfl rfl rfl ?_
      exact fin_i hF (Nat.le_of_ble_eq_true rfl) (Nat.le_of_ble_eq_true rfl) dX3_runText_72 (by rfl) (by split <;> rfl)
end
