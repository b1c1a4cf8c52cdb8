section
variable {sz r : Nat} {G : Nat → Nat → Int32} {T : (Nat → Nat) × Int64} {f g : SV}
set_option maxRecDepth 20000 in
set_option maxHeartbeats 2000000 in
theorem x_errorPosition_b {L : Nat} {tx : Nat → Nat} (hL : G 0 7 = nI L) (hL8 : L ≤ 80) (htx : ∀ i, i < L → G 17 i = nI (tx i)) (htx2 : ∀ i, i < L → tx i < 128) {K : Nat} (hK : K ≤ L) (hc : ∀ k, k < K → rAccB (acG g tx k) (tx k) = true) (hK2 : K < L) (hf : rAccB (acG g tx K) (tx K) = false) : Does sz I_X2_errorPosition [.ref (sz + 0)] (patch G 18 1 g, T) 0 0 (.inl (some (nI K))) (patch G 18 1 (acG g tx (K + 1)), T) := by
  refine Does.of (L := [(0, .ref (sz + 0))]) (by decide +kernel) (Nat.le_of_ble_eq_true rfl) rfl ⟨rfl, (by simp), trivial⟩ (fun VV hF => ?_)
  have hX := hF.c
  refine ro_aload_n (i := 0) (q := 1) hX dX2_errorPosition_0 rfl rfl rfl ?_
  refine ro_Pga8 (q9 := 4) hX kf_X2_43 dX2_errorPosition_1 rfl ?_
  refine ro_callVv (q9 := 7) hX (s_restart) mw_X0_restart kl_X2_129 (by decide) (fun cy => cell0 (by decide +kernel)) rfl rfl rfl (Nat.le_of_ble_eq_true rfl) ⟨Nat.le_of_ble_eq_true rfl, Nat.le_of_ble_eq_true rfl⟩ dX2_errorPosition_4 ⟨Nat.le_of_ble_eq_true rfl, Nat.le_of_ble_eq_true rfl⟩ rfl ?_
  refine ro_iconst (v := nI 0) (q := 8) hX dX2_errorPosition_7 rfl rfl ?_
  refine ro_istore_n (i := 1) (q := 9) hX dX2_errorPosition_8 rfl (Nat.le_of_ble_eq_true rfl) rfl ?_
  refine vv_LM (L' := [(0, .ref (sz + 0)), (1, .int (nI 0))]) (M' := (patch G 18 1 (acG g tx 0), T)) (by rfl) (by rfl) ?_
  refine down_ind (P := fun k9 => VV 0 0 9 [(0, .ref (sz + 0)), (1, .int (nI k9))] [] (patch G 18 1 (acG g tx k9), T)) (K) (fun k9 hk9 ih9 => ?_) ?_
  · have ih9 : VV 0 0 9 [(0, .ref (sz + 0)), (1, .int (nI (k9 + 1)))] [] (patch G 18 1 (acG g tx (k9 + 1)), T) := ih9
    show VV 0 0 9 [(0, .ref (sz + 0)), (1, .int (nI k9))] [] (patch G 18 1 (acG g tx k9), T)
    refine ro_iload_n (i := 1) (q := 10) hX dX2_errorPosition_9 rfl rfl rfl ?_
    refine ro_aload_n (i := 0) (q := 11) hX dX2_errorPosition_10 rfl rfl rfl ?_
    refine ro_Pgi (j := 7) (q9 := 14) (by decide) hX kf_X2_37 dX2_errorPosition_11 rfl ?_
    refine vv_top (y := (nI L)) (hL) ?_
    refine ro_icmp_ge (tgt := 41) (q := 17) hX dX2_errorPosition_14 (by decide) rfl (fun q => absurd q (ni_nle (by omega) (by omega))) (fun _ => ?_)
    refine ro_aload_n (i := 0) (q := 18) hX dX2_errorPosition_17 rfl rfl rfl ?_
    refine ro_Pga8 (q9 := 21) hX kf_X2_43 dX2_errorPosition_18 rfl ?_
    refine ro_aload_n (i := 0) (q := 22) hX dX2_errorPosition_21 rfl rfl rfl ?_
    refine ro_Pga6 (q9 := 25) hX kf_X2_33 dX2_errorPosition_22 rfl ?_
    refine ro_iload_n (i := 1) (q := 26) hX dX2_errorPosition_25 rfl rfl rfl ?_
    refine ro_cald (k := 17) (n := k9) (q9 := 27) hX (by decide) (by decide +kernel) rfl (show k9 < 80 from by omega) dX2_errorPosition_26 rfl ?_
    refine vv_top (y := (nI (tx k9))) (htx k9 (by omega)) ?_
    refine ro_callVi (q9 := 30) hX (s_accept (htx2 k9 (by omega))) mw_X0_accept kl_X2_132 (by decide) (fun cy => cell0 (by decide +kernel)) rfl rfl rfl (Nat.le_of_ble_eq_true rfl) ⟨Nat.le_of_ble_eq_true rfl, Nat.le_of_ble_eq_true rfl⟩ dX2_errorPosition_27 ⟨Nat.le_of_ble_eq_true rfl, Nat.le_of_ble_eq_true rfl⟩ rfl ?_
    refine ro_ifb_ne (tgt := 35) (q := 33) hX dX2_errorPosition_30 (by decide) rfl (fun _ => ?_) (fun q => absurd q (by rw [hc k9 hk9]; decide))
    refine ro_iinc (i := 1) (v := nI (k9 + 1)) (q := 38) hX dX2_errorPosition_35 rfl (ni_inc _) (Nat.le_of_ble_eq_true rfl) rfl ?_
    refine ro_goto (tgt := 9) hX dX2_errorPosition_38 (by decide) ?_
    exact vv_LM (by rfl) (by rfl) ih9
  · show VV 0 0 9 [(0, .ref (sz + 0)), (1, .int (nI K))] [] (patch G 18 1 (acG g tx K), T)
    refine ro_iload_n (i := 1) (q := 10) hX dX2_errorPosition_9 rfl rfl rfl ?_
    refine ro_aload_n (i := 0) (q := 11) hX dX2_errorPosition_10 rfl rfl rfl ?_
    refine ro_Pgi (j := 7) (q9 := 14) (by decide) hX kf_X2_37 dX2_errorPosition_11 rfl ?_
    refine vv_top (y := (nI L)) (hL) ?_
    refine ro_icmp_ge (tgt := 41) (q := 17) hX dX2_errorPosition_14 (by decide) rfl (fun q => absurd q (ni_nle (by omega) (by omega))) (fun _ => ?_)
    refine ro_aload_n (i := 0) (q := 18) hX dX2_errorPosition_17 rfl rfl rfl ?_
    refine ro_Pga8 (q9 := 21) hX kf_X2_43 dX2_errorPosition_18 rfl ?_
    refine ro_aload_n (i := 0) (q := 22) hX dX2_errorPosition_21 rfl rfl rfl ?_
    refine ro_Pga6 (q9 := 25) hX kf_X2_33 dX2_errorPosition_22 rfl ?_
    refine ro_iload_n (i := 1) (q := 26) hX dX2_errorPosition_25 rfl rfl rfl ?_
    refine ro_cald (k := 17) (n := K) (q9 := 27) hX (by decide) (by decide +kernel) rfl (show K < 80 from by omega) dX2_errorPosition_26 rfl ?_
    refine vv_top (y := (nI (tx K))) (htx K (by omega)) ?_
    refine ro_callVi (q9 := 30) hX (s_accept (htx2 K (by omega))) mw_X0_accept kl_X2_132 (by decide) (fun cy => cell0 (by decide +kernel)) rfl rfl rfl (Nat.le_of_ble_eq_true rfl) ⟨Nat.le_of_ble_eq_true rfl, Nat.le_of_ble_eq_true rfl⟩ dX2_errorPosition_27 ⟨Nat.le_of_ble_eq_true rfl, Nat.le_of_ble_eq_true rfl⟩ rfl ?_
    refine ro_ifb_ne (tgt := 35) (q := 33) hX dX2_errorPosition_30 (by decide) rfl (fun q => absurd q (by rw [hf]; decide)) (fun _ => ?_)
    refine ro_iload_n (i := 1) (q := 34) hX dX2_errorPosition_33 rfl rfl rfl ?_
    exact fin_i hF (Nat.le_of_ble_eq_true rfl) (Nat.le_of_ble_eq_true rfl) dX2_errorPosition_34 (by rfl) (by rfl)
set_option maxRecDepth 20000 in
set_option maxHeartbeats 2000000 in
theorem x_errorPosition_1 {L : Nat} {tx : Nat → Nat} (hL : G 0 7 = nI L) (hL8 : L ≤ 80) (htx : ∀ i, i < L → G 17 i = nI (tx i)) (htx2 : ∀ i, i < L → tx i < 128) {K : Nat} (hK : K ≤ L) (hc : ∀ k, k < K → rAccB (acG g tx k) (tx k) = true) (hK2 : K = L) (hf : rCmp (acG g tx K) = true) : Does sz I_X2_errorPosition [.ref (sz + 0)] (patch G 18 1 g, T) 0 0 (.inl (some (-1))) (patch G 18 1 (acG g tx K), T) := by
  refine Does.of (L := [(0, .ref (sz + 0))]) (by decide +kernel) (Nat.le_of_ble_eq_true rfl) rfl ⟨rfl, (by simp), trivial⟩ (fun VV hF => ?_)
  have hX := hF.c
  refine ro_aload_n (i := 0) (q := 1) hX dX2_errorPosition_0 rfl rfl rfl ?_
  refine ro_Pga8 (q9 := 4) hX kf_X2_43 dX2_errorPosition_1 rfl ?_
  refine ro_callVv (q9 := 7) hX (s_restart) mw_X0_restart kl_X2_129 (by decide) (fun cy => cell0 (by decide +kernel)) rfl rfl rfl (Nat.le_of_ble_eq_true rfl) ⟨Nat.le_of_ble_eq_true rfl, Nat.le_of_ble_eq_true rfl⟩ dX2_errorPosition_4 ⟨Nat.le_of_ble_eq_true rfl, Nat.le_of_ble_eq_true rfl⟩ rfl ?_
  refine ro_iconst (v := nI 0) (q := 8) hX dX2_errorPosition_7 rfl rfl ?_
  refine ro_istore_n (i := 1) (q := 9) hX dX2_errorPosition_8 rfl (Nat.le_of_ble_eq_true rfl) rfl ?_
  refine vv_LM (L' := [(0, .ref (sz + 0)), (1, .int (nI 0))]) (M' := (patch G 18 1 (acG g tx 0), T)) (by rfl) (by rfl) ?_
  refine down_ind (P := fun k9 => VV 0 0 9 [(0, .ref (sz + 0)), (1, .int (nI k9))] [] (patch G 18 1 (acG g tx k9), T)) (K) (fun k9 hk9 ih9 => ?_) ?_
  · have ih9 : VV 0 0 9 [(0, .ref (sz + 0)), (1, .int (nI (k9 + 1)))] [] (patch G 18 1 (acG g tx (k9 + 1)), T) := ih9
    show VV 0 0 9 [(0, .ref (sz + 0)), (1, .int (nI k9))] [] (patch G 18 1 (acG g tx k9), T)
    refine ro_iload_n (i := 1) (q := 10) hX dX2_errorPosition_9 rfl rfl rfl ?_
    refine ro_aload_n (i := 0) (q := 11) hX dX2_errorPosition_10 rfl rfl rfl ?_
    refine ro_Pgi (j := 7) (q9 := 14) (by decide) hX kf_X2_37 dX2_errorPosition_11 rfl ?_
    refine vv_top (y := (nI L)) (hL) ?_
    refine ro_icmp_ge (tgt := 41) (q := 17) hX dX2_errorPosition_14 (by decide) rfl (fun q => absurd q (ni_nle (by omega) (by omega))) (fun _ => ?_)
    refine ro_aload_n (i := 0) (q := 18) hX dX2_errorPosition_17 rfl rfl rfl ?_
    refine ro_Pga8 (q9 := 21) hX kf_X2_43 dX2_errorPosition_18 rfl ?_
    refine ro_aload_n (i := 0) (q := 22) hX dX2_errorPosition_21 rfl rfl rfl ?_
    refine ro_Pga6 (q9 := 25) hX kf_X2_33 dX2_errorPosition_22 rfl ?_
    refine ro_iload_n (i := 1) (q := 26) hX dX2_errorPosition_25 rfl rfl rfl ?_
    refine ro_cald (k := 17) (n := k9) (q9 := 27) hX (by decide) (by decide +kernel) rfl (show k9 < 80 from by omega) dX2_errorPosition_26 rfl ?_
    refine vv_top (y := (nI (tx k9))) (htx k9 (by omega)) ?_
    refine ro_callVi (q9 := 30) hX (s_accept (htx2 k9 (by omega))) mw_X0_accept kl_X2_132 (by decide) (fun cy => cell0 (by decide +kernel)) rfl rfl rfl (Nat.le_of_ble_eq_true rfl) ⟨Nat.le_of_ble_eq_true rfl, Nat.le_of_ble_eq_true rfl⟩ dX2_errorPosition_27 ⟨Nat.le_of_ble_eq_true rfl, Nat.le_of_ble_eq_true rfl⟩ rfl ?_
    refine ro_ifb_ne (tgt := 35) (q := 33) hX dX2_errorPosition_30 (by decide) rfl (fun _ => ?_) (fun q => absurd q (by rw [hc k9 hk9]; decide))
    refine ro_iinc (i := 1) (v := nI (k9 + 1)) (q := 38) hX dX2_errorPosition_35 rfl (ni_inc _) (Nat.le_of_ble_eq_true rfl) rfl ?_
    refine ro_goto (tgt := 9) hX dX2_errorPosition_38 (by decide) ?_
    exact vv_LM (by rfl) (by rfl) ih9
  · show VV 0 0 9 [(0, .ref (sz + 0)), (1, .int (nI K))] [] (patch G 18 1 (acG g tx K), T)
    refine ro_iload_n (i := 1) (q := 10) hX dX2_errorPosition_9 rfl rfl rfl ?_
    refine ro_aload_n (i := 0) (q := 11) hX dX2_errorPosition_10 rfl rfl rfl ?_
    refine ro_Pgi (j := 7) (q9 := 14) (by decide) hX kf_X2_37 dX2_errorPosition_11 rfl ?_
    refine vv_top (y := (nI L)) (hL) ?_
    refine ro_icmp_ge (tgt := 41) (q := 17) hX dX2_errorPosition_14 (by decide) rfl (fun _ => ?_) (fun q => absurd (ni_le (by omega) (by omega)) q)
    refine ro_aload_n (i := 0) (q := 42) hX dX2_errorPosition_41 rfl rfl rfl ?_
    refine ro_Pga8 (q9 := 45) hX kf_X2_43 dX2_errorPosition_42 rfl ?_
    refine ro_callVi (q9 := 48) hX (s_isComplete) mw_X0_isComplete kl_X2_136 (by decide) (fun cy => cell0 (by decide +kernel)) rfl rfl rfl (Nat.le_of_ble_eq_true rfl) ⟨Nat.le_of_ble_eq_true rfl, Nat.le_of_ble_eq_true rfl⟩ dX2_errorPosition_45 ⟨Nat.le_of_ble_eq_true rfl, Nat.le_of_ble_eq_true rfl⟩ rfl ?_
    refine ro_ifb_eq (tgt := 55) (q := 51) hX dX2_errorPosition_48 (by decide) rfl (fun q => absurd q (by rw [hf]; decide)) (fun _ => ?_)
    refine ro_iconst (v := (-1)) (q := 52) hX dX2_errorPosition_51 rfl rfl ?_
    refine ro_goto (tgt := 59) hX dX2_errorPosition_52 (by decide) ?_
    exact fin_i hF (Nat.le_of_ble_eq_true rfl) (Nat.le_of_ble_eq_true rfl) dX2_errorPosition_59 (by rfl) (by rfl)
set_option maxRecDepth 20000 in
set_option maxHeartbeats 2000000 in
theorem x_errorPosition_0 {L : Nat} {tx : Nat → Nat} (hL : G 0 7 = nI L) (hL8 : L ≤ 80) (htx : ∀ i, i < L → G 17 i = nI (tx i)) (htx2 : ∀ i, i < L → tx i < 128) {K : Nat} (hK : K ≤ L) (hc : ∀ k, k < K → rAccB (acG g tx k) (tx k) = true) (hK2 : K = L) (hf : rCmp (acG g tx K) = false) : Does sz I_X2_errorPosition [.ref (sz + 0)] (patch G 18 1 g, T) 0 0 (.inl (some (nI L))) (patch G 18 1 (acG g tx K), T) := by
  refine Does.of (L := [(0, .ref (sz + 0))]) (by decide +kernel) (Nat.le_of_ble_eq_true rfl) rfl ⟨rfl, (by simp), trivial⟩ (fun VV hF => ?_)
  have hX := hF.c
  refine ro_aload_n (i := 0) (q := 1) hX dX2_errorPosition_0 rfl rfl rfl ?_
  refine ro_Pga8 (q9 := 4) hX kf_X2_43 dX2_errorPosition_1 rfl ?_
  refine ro_callVv (q9 := 7) hX (s_restart) mw_X0_restart kl_X2_129 (by decide) (fun cy => cell0 (by decide +kernel)) rfl rfl rfl (Nat.le_of_ble_eq_true rfl) ⟨Nat.le_of_ble_eq_true rfl, Nat.le_of_ble_eq_true rfl⟩ dX2_errorPosition_4 ⟨Nat.le_of_ble_eq_true rfl, Nat.le_of_ble_eq_true rfl⟩ rfl ?_
  refine ro_iconst (v := nI 0) (q := 8) hX dX2_errorPosition_7 rfl rfl ?_
  refine ro_istore_n (i := 1) (q := 9) hX dX2_errorPosition_8 rfl (Nat.le_of_ble_eq_true rfl) rfl ?_
  refine vv_LM (L' := [(0, .ref (sz + 0)), (1, .int (nI 0))]) (M' := (patch G 18 1 (acG g tx 0), T)) (by rfl) (by rfl) ?_
  refine down_ind (P := fun k9 => VV 0 0 9 [(0, .ref (sz + 0)), (1, .int (nI k9))] [] (patch G 18 1 (acG g tx k9), T)) (K) (fun k9 hk9 ih9 => ?_) ?_
  · have ih9 : VV 0 0 9 [(0, .ref (sz + 0)), (1, .int (nI (k9 + 1)))] [] (patch G 18 1 (acG g tx (k9 + 1)), T) := ih9
    show VV 0 0 9 [(0, .ref (sz + 0)), (1, .int (nI k9))] [] (patch G 18 1 (acG g tx k9), T)
    refine ro_iload_n (i := 1) (q := 10) hX dX2_errorPosition_9 rfl rfl rfl ?_
    refine ro_aload_n (i := 0) (q := 11) hX dX2_errorPosition_10 rfl rfl rfl ?_
    refine ro_Pgi (j := 7) (q9 := 14) (by decide) hX kf_X2_37 dX2_errorPosition_11 rfl ?_
    refine vv_top (y := (nI L)) (hL) ?_
    refine ro_icmp_ge (tgt := 41) (q := 17) hX dX2_errorPosition_14 (by decide) rfl (fun q => absurd q (ni_nle (by omega) (by omega))) (fun _ => ?_)
    refine ro_aload_n (i := 0) (q := 18) hX dX2_errorPosition_17 rfl rfl rfl ?_
    refine ro_Pga8 (q9 := 21) hX kf_X2_43 dX2_errorPosition_18 rfl ?_
    refine ro_aload_n (i := 0) (q := 22) hX dX2_errorPosition_21 rfl rfl rfl ?_
    refine ro_Pga6 (q9 := 25) hX kf_X2_33 dX2_errorPosition_22 rfl ?_
    refine ro_iload_n (i := 1) (q := 26) hX dX2_errorPosition_25 rfl rfl rfl ?_
    refine ro_cald (k := 17) (n := k9) (q9 := 27) hX (by decide) (by decide +kernel) rfl (show k9 < 80 from by omega) dX2_errorPosition_26 rfl ?_
    refine vv_top (y := (nI (tx k9))) (htx k9 (by omega)) ?_
    refine ro_callVi (q9 := 30) hX (s_accept (htx2 k9 (by omega))) mw_X0_accept kl_X2_132 (by decide) (fun cy => cell0 (by decide +kernel)) rfl rfl rfl (Nat.le_of_ble_eq_true rfl) ⟨Nat.le_of_ble_eq_true rfl, Nat.le_of_ble_eq_true rfl⟩ dX2_errorPosition_27 ⟨Nat.le_of_ble_eq_true rfl, Nat.le_of_ble_eq_true rfl⟩ rfl ?_
    refine ro_ifb_ne (tgt := 35) (q := 33) hX dX2_errorPosition_30 (by decide) rfl (fun _ => ?_) (fun q => absurd q (by rw [hc k9 hk9]; decide))
    refine ro_iinc (i := 1) (v := nI (k9 + 1)) (q := 38) hX dX2_errorPosition_35 rfl (ni_inc _) (Nat.le_of_ble_eq_true rfl) rfl ?_
    refine ro_goto (tgt := 9) hX dX2_errorPosition_38 (by decide) ?_
    exact vv_LM (by rfl) (by rfl) ih9
  · show VV 0 0 9 [(0, .ref (sz + 0)), (1, .int (nI K))] [] (patch G 18 1 (acG g tx K), T)
    refine ro_iload_n (i := 1) (q := 10) hX dX2_errorPosition_9 rfl rfl rfl ?_
    refine ro_aload_n (i := 0) (q := 11) hX dX2_errorPosition_10 rfl rfl rfl ?_
    refine ro_Pgi (j := 7) (q9 := 14) (by decide) hX kf_X2_37 dX2_errorPosition_11 rfl ?_
    refine vv_top (y := (nI L)) (hL) ?_
    refine ro_icmp_ge (tgt := 41) (q := 17) hX dX2_errorPosition_14 (by decide) rfl (fun _ => ?_) (fun q => absurd (ni_le (by omega) (by omega)) q)
    refine ro_aload_n (i := 0) (q := 42) hX dX2_errorPosition_41 rfl rfl rfl ?_
    refine ro_Pga8 (q9 := 45) hX kf_X2_43 dX2_errorPosition_42 rfl ?_
    refine ro_callVi (q9 := 48) hX (s_isComplete) mw_X0_isComplete kl_X2_136 (by decide) (fun cy => cell0 (by decide +kernel)) rfl rfl rfl (Nat.le_of_ble_eq_true rfl) ⟨Nat.le_of_ble_eq_true rfl, Nat.le_of_ble_eq_true rfl⟩ dX2_errorPosition_45 ⟨Nat.le_of_ble_eq_true rfl, Nat.le_of_ble_eq_true rfl⟩ rfl ?_
    refine ro_ifb_eq (tgt := 55) (q := 51) hX dX2_errorPosition_48 (by decide) rfl (fun _ => ?_) (fun q => absurd q (by rw [hf]; decide))
    refine ro_aload_n (i := 0) (q := 56) hX dX2_errorPosition_55 rfl rfl rfl ?_
    refine ro_Pgi (j := 7) (q9 := 59) (by decide) hX kf_X2_37 dX2_errorPosition_56 rfl ?_
    refine vv_top (y := (nI L)) (hL) ?_
    exact fin_i hF (Nat.le_of_ble_eq_true rfl) (Nat.le_of_ble_eq_true rfl) dX2_errorPosition_59 (by rfl) (by rfl)
end
