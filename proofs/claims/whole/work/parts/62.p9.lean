section
variable {sz r : Nat} {G : Nat → Nat → Int32} {T : (Nat → Nat) × Int64} {f g : SV}
set_option maxRecDepth 20000 in
set_option maxHeartbeats 2000000 in
theorem x_runText_1 {g2 : SV} {e : Int32} (hE : Does sz I_X2_errorPosition [.ref (sz + 0)] (patch (patch G 1 7 f) 18 1 g, T) 0 0 (.inl (some e)) (patch (patch G 1 7 f) 18 1 g2, T)) (he : ¬ e = -1) : Does sz I_X2_runText [.ref (sz + 0)] (patch (patch G 1 7 f) 18 1 g, T) 1 6 (.inr "java/lang/IllegalStateException") (patch (patch G 1 7 f) 18 1 g2, T) := by
  refine Does.of (L := [(0, .ref (sz + 0))]) (by decide +kernel) (Nat.le_of_ble_eq_true rfl) rfl ⟨rfl, (by simp), trivial⟩ (fun VV hF => ?_)
  have hX := hF.c
  refine ro_aload_n (i := 0) (q := 1) hX dX2_runText_0 rfl rfl rfl ?_
  refine ro_callVi (q9 := 4) hX (hE) mw_X2_errorPosition kl_X2_140 (by decide) (fun cy => cell2 (by decide +kernel)) rfl rfl rfl (Nat.le_of_ble_eq_true rfl) ⟨Nat.le_of_ble_eq_true rfl, Nat.le_of_ble_eq_true rfl⟩ dX2_runText_1 ⟨Nat.le_of_ble_eq_true rfl, Nat.le_of_ble_eq_true rfl⟩ rfl ?_
  refine ro_iconst (v := (-1)) (q := 5) hX dX2_runText_4 rfl rfl ?_
  refine ro_icmp_ne (tgt := 12) (q := 8) hX dX2_runText_5 (by decide) rfl (fun _ => ?_) (fun q => absurd q (he))
  refine ro_iconst (v := nI 0) (q := 13) hX dX2_runText_12 rfl rfl ?_
  exact ro_callSx hF (p_reqState_f (b := false) rfl) mw_X2_requireState kl_X2_59 rfl rfl (Nat.le_of_ble_eq_true rfl) ⟨Nat.le_of_ble_eq_true rfl, Nat.le_of_ble_eq_true rfl⟩ dX2_runText_13 ⟨Nat.le_of_ble_eq_true rfl, Nat.le_of_ble_eq_true rfl⟩ ⟨Nat.le_of_ble_eq_true rfl, Nat.le_of_ble_eq_true rfl⟩
set_option maxRecDepth 20000 in
set_option maxHeartbeats 2000000 in
theorem x_runText_a {L : Nat} {tx : Nat → Nat} (hL : G 0 7 = nI L) (hL8 : L ≤ 80) (htx : ∀ i, i < L → G 17 i = nI (tx i)) (htx2 : ∀ i, i < L → tx i < 128) {g2 : SV} (hE : Does sz I_X2_errorPosition [.ref (sz + 0)] (patch (patch G 1 7 f) 18 1 g, T) 0 0 (.inl (some (-1))) (patch (patch G 1 7 f) 18 1 g2, T)) (hT : ∀ i, i < 6 → isV (T.1 i)) {m : Nat} (hm : m ≤ 6) (hn : G 0 3 = nI m) {K : Nat} (hK : K ≤ L + 1) (hex : ∀ k, k < K → L ≤ k ∨ tx k = 59 → cmP (ruP L tx f g2 k) true) (hK2 : K = L + 1) : Does sz I_X2_runText [.ref (sz + 0)] (patch (patch G 1 7 f) 18 1 g, T) 0 0 (.inl (some (nI (ruP L tx f g2 K).2.2))) (patch (patch (rmG G f T m) 18 1 (ruP L tx f g2 K).2.1) 1 7 (ruP L tx f g2 K).1, rmT T m) := by
  refine Does.of (L := [(0, .ref (sz + 0))]) (by decide +kernel) (Nat.le_of_ble_eq_true rfl) rfl ⟨rfl, (by simp), trivial⟩ (fun VV hF => ?_)
  have hX := hF.c
  have hr9 := rmR_ge (m := m) hT
  have hL9 : rmG G f T m 0 7 = nI L := (rm_0 hr9.1 (by decide)).trans hL
  have ht8 : ∀ i, i < L → rmG G f T m 17 i = nI (tx i) := fun i hi => (congrFun (rm_k hr9.1 (by decide) (by decide)) i).trans (htx i hi)
  refine ro_aload_n (i := 0) (q := 1) hX dX2_runText_0 rfl rfl rfl ?_
  refine ro_callVi (q9 := 4) hX (hE) mw_X2_errorPosition kl_X2_140 (by decide) (fun cy => cell2 (by decide +kernel)) rfl rfl rfl (Nat.le_of_ble_eq_true rfl) ⟨Nat.le_of_ble_eq_true rfl, Nat.le_of_ble_eq_true rfl⟩ dX2_runText_1 ⟨Nat.le_of_ble_eq_true rfl, Nat.le_of_ble_eq_true rfl⟩ rfl ?_
  refine ro_iconst (v := (-1)) (q := 5) hX dX2_runText_4 rfl rfl ?_
  refine ro_icmp_ne (tgt := 12) (q := 8) hX dX2_runText_5 (by decide) rfl (fun q => absurd (by decide) q) (fun _ => ?_)
  refine ro_iconst (v := nI 1) (q := 9) hX dX2_runText_8 rfl rfl ?_
  refine ro_goto (tgt := 13) hX dX2_runText_9 (by decide) ?_
  refine ro_callSv (q9 := 16) hX (p_reqState_t (b := true) rfl) mw_X2_requireState kl_X2_59 rfl rfl (Nat.le_of_ble_eq_true rfl) ⟨Nat.le_of_ble_eq_true rfl, Nat.le_of_ble_eq_true rfl⟩ dX2_runText_13 ⟨Nat.le_of_ble_eq_true rfl, Nat.le_of_ble_eq_true rfl⟩ rfl ?_
  refine vv_LM rfl (mSx (by decide)) ?_
  refine ro_aload_n (i := 0) (q := 17) hX dX2_runText_16 rfl rfl rfl ?_
  refine ro_callVv (q9 := 20) hX (p_remember hT hm hn) mw_X2_remember kl_X2_63 (by decide) (fun cy => cell2 (by decide +kernel)) rfl rfl rfl (Nat.le_of_ble_eq_true rfl) ⟨Nat.le_of_ble_eq_true rfl, Nat.le_of_ble_eq_true rfl⟩ dX2_runText_17 ⟨Nat.le_of_ble_eq_true rfl, Nat.le_of_ble_eq_true rfl⟩ rfl ?_
  refine vv_LM rfl (mRm hr9.1) ?_
  refine ro_iconst (v := nI 0) (q := 21) hX dX2_runText_20 rfl rfl ?_
  refine ro_istore_n (i := 1) (q := 22) hX dX2_runText_21 rfl (Nat.le_of_ble_eq_true rfl) rfl ?_
  refine ro_aload_n (i := 0) (q := 23) hX dX2_runText_22 rfl rfl rfl ?_
  refine ro_Pga8 (q9 := 26) hX kf_X2_43 dX2_runText_23 rfl ?_
  refine ro_callVv (q9 := 29) hX (s_restart) mw_X0_restart kl_X2_129 (by decide) (fun cy => cell0 (by decide +kernel)) rfl rfl rfl (Nat.le_of_ble_eq_true rfl) ⟨Nat.le_of_ble_eq_true rfl, Nat.le_of_ble_eq_true rfl⟩ dX2_runText_26 ⟨Nat.le_of_ble_eq_true rfl, Nat.le_of_ble_eq_true rfl⟩ rfl ?_
  refine ro_iconst (v := nI 0) (q := 30) hX dX2_runText_29 rfl rfl ?_
  refine ro_istore_n (i := 2) (q := 31) hX dX2_runText_30 rfl (Nat.le_of_ble_eq_true rfl) rfl ?_
  refine vv_LM (L' := [(0, .ref (sz + 0)), (1, .int (nI (ruP L tx f g2 0).2.2)), (2, .int (nI 0))]) (M' := (patch (patch (rmG G f T m) 1 7 (ruP L tx f g2 0).1) 18 1 (ruP L tx f g2 0).2.1, rmT T m)) (by rfl) (by rfl) ?_
  refine down_ind (P := fun k31 => VV 0 0 31 [(0, .ref (sz + 0)), (1, .int (nI (ruP L tx f g2 k31).2.2)), (2, .int (nI k31))] [] (patch (patch (rmG G f T m) 1 7 (ruP L tx f g2 k31).1) 18 1 (ruP L tx f g2 k31).2.1, rmT T m)) (K) (fun k31 hk31 ih31 => ?_) ?_
  · have ih31 : VV 0 0 31 [(0, .ref (sz + 0)), (1, .int (nI (ruP L tx f g2 (k31 + 1)).2.2)), (2, .int (nI (k31 + 1)))] [] (patch (patch (rmG G f T m) 1 7 (ruP L tx f g2 (k31 + 1)).1) 18 1 (ruP L tx f g2 (k31 + 1)).2.1, rmT T m) := ih31
    show VV 0 0 31 [(0, .ref (sz + 0)), (1, .int (nI (ruP L tx f g2 k31).2.2)), (2, .int (nI k31))] [] (patch (patch (rmG G f T m) 1 7 (ruP L tx f g2 k31).1) 18 1 (ruP L tx f g2 k31).2.1, rmT T m)
    refine ro_iload_n (i := 2) (q := 32) hX dX2_runText_31 rfl rfl rfl ?_
    refine ro_aload_n (i := 0) (q := 33) hX dX2_runText_32 rfl rfl rfl ?_
    refine ro_Pgi (j := 7) (q9 := 36) (by decide) hX kf_X2_37 dX2_runText_33 rfl ?_
    refine vv_top (y := (nI L)) (hL9) ?_
    refine ro_icmp_gt (tgt := 122) (q := 39) hX dX2_runText_36 (by decide) rfl (fun q => absurd q (ni_nlt (by omega) (by omega))) (fun _ => ?_)
    refine ro_iload_n (i := 2) (q := 40) hX dX2_runText_39 rfl rfl rfl ?_
    refine ro_aload_n (i := 0) (q := 41) hX dX2_runText_40 rfl rfl rfl ?_
    refine ro_Pgi (j := 7) (q9 := 44) (by decide) hX kf_X2_37 dX2_runText_41 rfl ?_
    refine vv_top (y := (nI L)) (hL9) ?_
    refine ro_icmp_ge (tgt := 75) (q := 47) hX dX2_runText_44 (by decide) rfl (fun q1 => ?_) (fun q1 => ?_)
    · rw [nI_leI (by omega) (by omega)] at q1
      obtain ⟨c, p, hgc, hgp, ht9, hcal⟩ := hex k31 hk31 (by omega)
      refine ro_aload_n (i := 0) (q := 76) hX dX2_runText_75 rfl rfl rfl ?_
      refine ro_aload_n (i := 0) (q := 77) hX dX2_runText_76 rfl rfl rfl ?_
      refine ro_Pga8 (q9 := 80) hX kf_X2_43 dX2_runText_77 rfl ?_
      refine ro_Rgi (j := 0) (q9 := 83) (by decide) hX kf_X2_144 dX2_runText_80 rfl ?_
      refine vv_top (y := (nI c)) (hgc) ?_
      refine ro_aload_n (i := 0) (q := 84) hX dX2_runText_83 rfl rfl rfl ?_
      refine ro_Pga8 (q9 := 87) hX kf_X2_43 dX2_runText_84 rfl ?_
      refine ro_Rgi (j := 1) (q9 := 90) (by decide) hX kf_X2_148 dX2_runText_87 rfl ?_
      refine vv_top (y := (nI p)) (hgp) ?_
      refine ro_aload_n (i := 0) (q := 91) hX dX2_runText_90 rfl rfl rfl ?_
      refine ro_Pga8 (q9 := 94) hX kf_X2_43 dX2_runText_91 rfl ?_
      refine ro_Rgi (j := 2) (q9 := 97) (by decide) hX kf_X2_151 dX2_runText_94 rfl ?_
      refine vv_LM rfl (mSx (by decide)) ?_
      refine ro_callVi (q9 := 100) hX (x_exec_1 ht9 hcal) mw_X2_execute kl_X2_154 (by decide) (fun cy => cell2 (by decide +kernel)) rfl rfl rfl (Nat.le_of_ble_eq_true rfl) ⟨Nat.le_of_ble_eq_true rfl, Nat.le_of_ble_eq_true rfl⟩ dX2_runText_97 ⟨Nat.le_of_ble_eq_true rfl, Nat.le_of_ble_eq_true rfl⟩ rfl ?_
      refine vv_LM rfl (mSw (by decide)) ?_
      refine ro_if_ne (tgt := 106) (q := 103) hX dX2_runText_100 (by decide) rfl (fun _ => ?_) (fun q => absurd q (by decide))
      refine ro_iinc (i := 1) (v := nI (((ruP L tx f g2 k31).2.2) + 1)) (q := 109) hX dX2_runText_106 rfl (ni_inc _) (Nat.le_of_ble_eq_true rfl) rfl ?_
      refine ro_aload_n (i := 0) (q := 110) hX dX2_runText_109 rfl rfl rfl ?_
      refine ro_Pga8 (q9 := 113) hX kf_X2_43 dX2_runText_110 rfl ?_
      refine ro_callVv (q9 := 116) hX (s_restart) mw_X0_restart kl_X2_129 (by decide) (fun cy => cell0 (by decide +kernel)) rfl rfl rfl (Nat.le_of_ble_eq_true rfl) ⟨Nat.le_of_ble_eq_true rfl, Nat.le_of_ble_eq_true rfl⟩ dX2_runText_113 ⟨Nat.le_of_ble_eq_true rfl, Nat.le_of_ble_eq_true rfl⟩ rfl ?_
      refine ro_iinc (i := 2) (v := nI (k31 + 1)) (q := 119) hX dX2_runText_116 rfl (ni_inc _) (Nat.le_of_ble_eq_true rfl) rfl ?_
      refine ro_goto (tgt := 31) hX dX2_runText_119 (by decide) ?_
      exact vv_LM (by first | (rw [ruP_a (by omega) (by assumption)]; rfl) | (rw [ruP_e (by omega) hgc hgp ht9]; rfl)) (by first | (rw [ruP_a (by omega) (by assumption)]) | (rw [ruP_e (by omega) hgc hgp ht9])) ih31
    · rw [nI_leI (by omega) (by omega)] at q1
      refine ro_aload_n (i := 0) (q := 48) hX dX2_runText_47 rfl rfl rfl ?_
      refine ro_Pga6 (q9 := 51) hX kf_X2_33 dX2_runText_48 rfl ?_
      refine ro_iload_n (i := 2) (q := 52) hX dX2_runText_51 rfl rfl rfl ?_
      refine ro_cald (k := 17) (n := k31) (q9 := 53) hX (by decide) (by decide +kernel) rfl (show k31 < 80 from by omega) dX2_runText_52 rfl ?_
      refine vv_top (y := (nI (tx k31))) (ht8 k31 (by omega)) ?_
      refine ro_bipush (v := nI 59) (q := 55) hX dX2_runText_53 rfl rfl ?_
      refine ro_icmp_eq (tgt := 75) (q := 58) hX dX2_runText_55 (by decide) rfl (fun q2 => ?_) (fun q2 => ?_)
      · have hc99 := htx2 k31 (by omega); rw [nI_eq (by omega) (by omega)] at q2
        obtain ⟨c, p, hgc, hgp, ht9, hcal⟩ := hex k31 hk31 (by omega)
        refine ro_aload_n (i := 0) (q := 76) hX dX2_runText_75 rfl rfl rfl ?_
        refine ro_aload_n (i := 0) (q := 77) hX dX2_runText_76 rfl rfl rfl ?_
        refine ro_Pga8 (q9 := 80) hX kf_X2_43 dX2_runText_77 rfl ?_
        refine ro_Rgi (j := 0) (q9 := 83) (by decide) hX kf_X2_144 dX2_runText_80 rfl ?_
        refine vv_top (y := (nI c)) (hgc) ?_
        refine ro_aload_n (i := 0) (q := 84) hX dX2_runText_83 rfl rfl rfl ?_
        refine ro_Pga8 (q9 := 87) hX kf_X2_43 dX2_runText_84 rfl ?_
        refine ro_Rgi (j := 1) (q9 := 90) (by decide) hX kf_X2_148 dX2_runText_87 rfl ?_
        refine vv_top (y := (nI p)) (hgp) ?_
        refine ro_aload_n (i := 0) (q := 91) hX dX2_runText_90 rfl rfl rfl ?_
        refine ro_Pga8 (q9 := 94) hX kf_X2_43 dX2_runText_91 rfl ?_
        refine ro_Rgi (j := 2) (q9 := 97) (by decide) hX kf_X2_151 dX2_runText_94 rfl ?_
        refine vv_LM rfl (mSx (by decide)) ?_
        refine ro_callVi (q9 := 100) hX (x_exec_1 ht9 hcal) mw_X2_execute kl_X2_154 (by decide) (fun cy => cell2 (by decide +kernel)) rfl rfl rfl (Nat.le_of_ble_eq_true rfl) ⟨Nat.le_of_ble_eq_true rfl, Nat.le_of_ble_eq_true rfl⟩ dX2_runText_97 ⟨Nat.le_of_ble_eq_true rfl, Nat.le_of_ble_eq_true rfl⟩ rfl ?_
        refine vv_LM rfl (mSw (by decide)) ?_
        refine ro_if_ne (tgt := 106) (q := 103) hX dX2_runText_100 (by decide) rfl (fun _ => ?_) (fun q => absurd q (by decide))
        refine ro_iinc (i := 1) (v := nI (((ruP L tx f g2 k31).2.2) + 1)) (q := 109) hX dX2_runText_106 rfl (ni_inc _) (Nat.le_of_ble_eq_true rfl) rfl ?_
        refine ro_aload_n (i := 0) (q := 110) hX dX2_runText_109 rfl rfl rfl ?_
        refine ro_Pga8 (q9 := 113) hX kf_X2_43 dX2_runText_110 rfl ?_
        refine ro_callVv (q9 := 116) hX (s_restart) mw_X0_restart kl_X2_129 (by decide) (fun cy => cell0 (by decide +kernel)) rfl rfl rfl (Nat.le_of_ble_eq_true rfl) ⟨Nat.le_of_ble_eq_true rfl, Nat.le_of_ble_eq_true rfl⟩ dX2_runText_113 ⟨Nat.le_of_ble_eq_true rfl, Nat.le_of_ble_eq_true rfl⟩ rfl ?_
        refine ro_iinc (i := 2) (v := nI (k31 + 1)) (q := 119) hX dX2_runText_116 rfl (ni_inc _) (Nat.le_of_ble_eq_true rfl) rfl ?_
        refine ro_goto (tgt := 31) hX dX2_runText_119 (by decide) ?_
        exact vv_LM (by first | (rw [ruP_a (by omega) (by assumption)]; rfl) | (rw [ruP_e (by omega) hgc hgp ht9]; rfl)) (by first | (rw [ruP_a (by omega) (by assumption)]) | (rw [ruP_e (by omega) hgc hgp ht9])) ih31
      · have hc99 := htx2 k31 (by omega); rw [nI_eq (by omega) (by omega)] at q2
        refine ro_aload_n (i := 0) (q := 59) hX dX2_runText_58 rfl rfl rfl ?_
        refine ro_Pga8 (q9 := 62) hX kf_X2_43 dX2_runText_59 rfl ?_
        refine ro_aload_n (i := 0) (q := 63) hX dX2_runText_62 rfl rfl rfl ?_
        refine ro_Pga6 (q9 := 66) hX kf_X2_33 dX2_runText_63 rfl ?_
        refine ro_iload_n (i := 2) (q := 67) hX dX2_runText_66 rfl rfl rfl ?_
        refine ro_cald (k := 17) (n := k31) (q9 := 68) hX (by decide) (by decide +kernel) rfl (show k31 < 80 from by omega) dX2_runText_67 rfl ?_
        refine vv_top (y := (nI (tx k31))) (ht8 k31 (by omega)) ?_
        refine ro_callVi (q9 := 71) hX (s_accept (htx2 k31 (by omega))) mw_X0_accept kl_X2_132 (by decide) (fun cy => cell0 (by decide +kernel)) rfl rfl rfl (Nat.le_of_ble_eq_true rfl) ⟨Nat.le_of_ble_eq_true rfl, Nat.le_of_ble_eq_true rfl⟩ dX2_runText_68 ⟨Nat.le_of_ble_eq_true rfl, Nat.le_of_ble_eq_true rfl⟩ rfl ?_
        refine ro_pop (q := 72) hX dX2_runText_71 rfl rfl ?_
        refine ro_goto (tgt := 116) hX dX2_runText_72 (by decide) ?_
        refine ro_iinc (i := 2) (v := nI (k31 + 1)) (q := 119) hX dX2_runText_116 rfl (ni_inc _) (Nat.le_of_ble_eq_true rfl) rfl ?_
        refine ro_goto (tgt := 31) hX dX2_runText_119 (by decide) ?_
        exact vv_LM (by first | (rw [ruP_a (by omega) (by assumption)]; rfl) | (rw [ruP_e (by omega) hgc hgp ht9]; rfl)) (by first | (rw [ruP_a (by omega) (by assumption)]) | (rw [ruP_e (by omega) hgc hgp ht9])) ih31
  · show VV 0 0 31 [(0, .ref (sz + 0)), (1, .int (nI (ruP L tx f g2 K).2.2)), (2, .int (nI K))] [] (patch (patch (rmG G f T m) 1 7 (ruP L tx f g2 K).1) 18 1 (ruP L tx f g2 K).2.1, rmT T m)
    refine ro_iload_n (i := 2) (q := 32) hX dX2_runText_31 rfl rfl rfl ?_
    refine ro_aload_n (i := 0) (q := 33) hX dX2_runText_32 rfl rfl rfl ?_
    refine ro_Pgi (j := 7) (q9 := 36) (by decide) hX kf_X2_37 dX2_runText_33 rfl ?_
    refine vv_top (y := (nI L)) (hL9) ?_
    refine ro_icmp_gt (tgt := 122) (q := 39) hX dX2_runText_36 (by decide) rfl (fun _ => ?_) (fun q => absurd (ni_lt (by omega) (by omega)) q)
    refine ro_iload_n (i := 1) (q := 123) hX dX2_runText_122 rfl rfl rfl ?_
    exact fin_i hF (Nat.le_of_ble_eq_true rfl) (Nat.le_of_ble_eq_true rfl) dX2_runText_123 (by rfl) (by exact mSx (by decide))
set_option maxRecDepth 20000 in
set_option maxHeartbeats 2000000 in
theorem x_runText_b {L : Nat} {tx : Nat → Nat} (hL : G 0 7 = nI L) (hL8 : L ≤ 80) (htx : ∀ i, i < L → G 17 i = nI (tx i)) (htx2 : ∀ i, i < L → tx i < 128) {g2 : SV} (hE : Does sz I_X2_errorPosition [.ref (sz + 0)] (patch (patch G 1 7 f) 18 1 g, T) 0 0 (.inl (some (-1))) (patch (patch G 1 7 f) 18 1 g2, T)) (hT : ∀ i, i < 6 → isV (T.1 i)) {m : Nat} (hm : m ≤ 6) (hn : G 0 3 = nI m) {K : Nat} (hK : K ≤ L + 1) (hex : ∀ k, k < K → L ≤ k ∨ tx k = 59 → cmP (ruP L tx f g2 k) true) (hK2 : K = L) (hcm : cmP (ruP L tx f g2 K) false) : Does sz I_X2_runText [.ref (sz + 0)] (patch (patch G 1 7 f) 18 1 g, T) 0 0 (.inl (some (nI (ruP L tx f g2 K).2.2))) (patch (patch (rmG G f T m) 18 1 (ruP L tx f g2 K).2.1) 1 7 (ruP L tx f g2 K).1, rmT T m) := by
  refine Does.of (L := [(0, .ref (sz + 0))]) (by decide +kernel) (Nat.le_of_ble_eq_true rfl) rfl ⟨rfl, (by simp), trivial⟩ (fun VV hF => ?_)
  have hX := hF.c
  have hr9 := rmR_ge (m := m) hT
  have hL9 : rmG G f T m 0 7 = nI L := (rm_0 hr9.1 (by decide)).trans hL
  have ht8 : ∀ i, i < L → rmG G f T m 17 i = nI (tx i) := fun i hi => (congrFun (rm_k hr9.1 (by decide) (by decide)) i).trans (htx i hi)
  refine ro_aload_n (i := 0) (q := 1) hX dX2_runText_0 rfl rfl rfl ?_
  refine ro_callVi (q9 := 4) hX (hE) mw_X2_errorPosition kl_X2_140 (by decide) (fun cy => cell2 (by decide +kernel)) rfl rfl rfl (Nat.le_of_ble_eq_true rfl) ⟨Nat.le_of_ble_eq_true rfl, Nat.le_of_ble_eq_true rfl⟩ dX2_runText_1 ⟨Nat.le_of_ble_eq_true rfl, Nat.le_of_ble_eq_true rfl⟩ rfl ?_
  refine ro_iconst (v := (-1)) (q := 5) hX dX2_runText_4 rfl rfl ?_
  refine ro_icmp_ne (tgt := 12) (q := 8) hX dX2_runText_5 (by decide) rfl (fun q => absurd (by decide) q) (fun _ => ?_)
  refine ro_iconst (v := nI 1) (q := 9) hX dX2_runText_8 rfl rfl ?_
  refine ro_goto (tgt := 13) hX dX2_runText_9 (by decide) ?_
  refine ro_callSv (q9 := 16) hX (p_reqState_t (b := true) rfl) mw_X2_requireState kl_X2_59 rfl rfl (Nat.le_of_ble_eq_true rfl) ⟨Nat.le_of_ble_eq_true rfl, Nat.le_of_ble_eq_true rfl⟩ dX2_runText_13 ⟨Nat.le_of_ble_eq_true rfl, Nat.le_of_ble_eq_true rfl⟩ rfl ?_
  refine vv_LM rfl (mSx (by decide)) ?_
  refine ro_aload_n (i := 0) (q := 17) hX dX2_runText_16 rfl rfl rfl ?_
  refine ro_callVv (q9 := 20) hX (p_remember hT hm hn) mw_X2_remember kl_X2_63 (by decide) (fun cy => cell2 (by decide +kernel)) rfl rfl rfl (Nat.le_of_ble_eq_true rfl) ⟨Nat.le_of_ble_eq_true rfl, Nat.le_of_ble_eq_true rfl⟩ dX2_runText_17 ⟨Nat.le_of_ble_eq_true rfl, Nat.le_of_ble_eq_true rfl⟩ rfl ?_
  refine vv_LM rfl (mRm hr9.1) ?_
  refine ro_iconst (v := nI 0) (q := 21) hX dX2_runText_20 rfl rfl ?_
  refine ro_istore_n (i := 1) (q := 22) hX dX2_runText_21 rfl (Nat.le_of_ble_eq_true rfl) rfl ?_
  refine ro_aload_n (i := 0) (q := 23) hX dX2_runText_22 rfl rfl rfl ?_
  refine ro_Pga8 (q9 := 26) hX kf_X2_43 dX2_runText_23 rfl ?_
  refine ro_callVv (q9 := 29) hX (s_restart) mw_X0_restart kl_X2_129 (by decide) (fun cy => cell0 (by decide +kernel)) rfl rfl rfl (Nat.le_of_ble_eq_true rfl) ⟨Nat.le_of_ble_eq_true rfl, Nat.le_of_ble_eq_true rfl⟩ dX2_runText_26 ⟨Nat.le_of_ble_eq_true rfl, Nat.le_of_ble_eq_true rfl⟩ rfl ?_
  refine ro_iconst (v := nI 0) (q := 30) hX dX2_runText_29 rfl rfl ?_
  refine ro_istore_n (i := 2) (q := 31) hX dX2_runText_30 rfl (Nat.le_of_ble_eq_true rfl) rfl ?_
  refine vv_LM (L' := [(0, .ref (sz + 0)), (1, .int (nI (ruP L tx f g2 0).2.2)), (2, .int (nI 0))]) (M' := (patch (patch (rmG G f T m) 1 7 (ruP L tx f g2 0).1) 18 1 (ruP L tx f g2 0).2.1, rmT T m)) (by rfl) (by rfl) ?_
  refine down_ind (P := fun k31 => VV 0 0 31 [(0, .ref (sz + 0)), (1, .int (nI (ruP L tx f g2 k31).2.2)), (2, .int (nI k31))] [] (patch (patch (rmG G f T m) 1 7 (ruP L tx f g2 k31).1) 18 1 (ruP L tx f g2 k31).2.1, rmT T m)) (K) (fun k31 hk31 ih31 => ?_) ?_
  · have ih31 : VV 0 0 31 [(0, .ref (sz + 0)), (1, .int (nI (ruP L tx f g2 (k31 + 1)).2.2)), (2, .int (nI (k31 + 1)))] [] (patch (patch (rmG G f T m) 1 7 (ruP L tx f g2 (k31 + 1)).1) 18 1 (ruP L tx f g2 (k31 + 1)).2.1, rmT T m) := ih31
    show VV 0 0 31 [(0, .ref (sz + 0)), (1, .int (nI (ruP L tx f g2 k31).2.2)), (2, .int (nI k31))] [] (patch (patch (rmG G f T m) 1 7 (ruP L tx f g2 k31).1) 18 1 (ruP L tx f g2 k31).2.1, rmT T m)
    refine ro_iload_n (i := 2) (q := 32) hX dX2_runText_31 rfl rfl rfl ?_
    refine ro_aload_n (i := 0) (q := 33) hX dX2_runText_32 rfl rfl rfl ?_
    refine ro_Pgi (j := 7) (q9 := 36) (by decide) hX kf_X2_37 dX2_runText_33 rfl ?_
    refine vv_top (y := (nI L)) (hL9) ?_
    refine ro_icmp_gt (tgt := 122) (q := 39) hX dX2_runText_36 (by decide) rfl (fun q => absurd q (ni_nlt (by omega) (by omega))) (fun _ => ?_)
    refine ro_iload_n (i := 2) (q := 40) hX dX2_runText_39 rfl rfl rfl ?_
    refine ro_aload_n (i := 0) (q := 41) hX dX2_runText_40 rfl rfl rfl ?_
    refine ro_Pgi (j := 7) (q9 := 44) (by decide) hX kf_X2_37 dX2_runText_41 rfl ?_
    refine vv_top (y := (nI L)) (hL9) ?_
    refine ro_icmp_ge (tgt := 75) (q := 47) hX dX2_runText_44 (by decide) rfl (fun q1 => ?_) (fun q1 => ?_)
    · rw [nI_leI (by omega) (by omega)] at q1
      obtain ⟨c, p, hgc, hgp, ht9, hcal⟩ := hex k31 hk31 (by omega)
      refine ro_aload_n (i := 0) (q := 76) hX dX2_runText_75 rfl rfl rfl ?_
      refine ro_aload_n (i := 0) (q := 77) hX dX2_runText_76 rfl rfl rfl ?_
      refine ro_Pga8 (q9 := 80) hX kf_X2_43 dX2_runText_77 rfl ?_
      refine ro_Rgi (j := 0) (q9 := 83) (by decide) hX kf_X2_144 dX2_runText_80 rfl ?_
      refine vv_top (y := (nI c)) (hgc) ?_
      refine ro_aload_n (i := 0) (q := 84) hX dX2_runText_83 rfl rfl rfl ?_
      refine ro_Pga8 (q9 := 87) hX kf_X2_43 dX2_runText_84 rfl ?_
      refine ro_Rgi (j := 1) (q9 := 90) (by decide) hX kf_X2_148 dX2_runText_87 rfl ?_
      refine vv_top (y := (nI p)) (hgp) ?_
      refine ro_aload_n (i := 0) (q := 91) hX dX2_runText_90 rfl rfl rfl ?_
      refine ro_Pga8 (q9 := 94) hX kf_X2_43 dX2_runText_91 rfl ?_
      refine ro_Rgi (j := 2) (q9 := 97) (by decide) hX kf_X2_151 dX2_runText_94 rfl ?_
      refine vv_LM rfl (mSx (by decide)) ?_
      refine ro_callVi (q9 := 100) hX (x_exec_1 ht9 hcal) mw_X2_execute kl_X2_154 (by decide) (fun cy => cell2 (by decide +kernel)) rfl rfl rfl (Nat.le_of_ble_eq_true rfl) ⟨Nat.le_of_ble_eq_true rfl, Nat.le_of_ble_eq_true rfl⟩ dX2_runText_97 ⟨Nat.le_of_ble_eq_true rfl, Nat.le_of_ble_eq_true rfl⟩ rfl ?_
      refine vv_LM rfl (mSw (by decide)) ?_
      refine ro_if_ne (tgt := 106) (q := 103) hX dX2_runText_100 (by decide) rfl (fun _ => ?_) (fun q => absurd q (by decide))
      refine ro_iinc (i := 1) (v := nI (((ruP L tx f g2 k31).2.2) + 1)) (q := 109) hX dX2_runText_106 rfl (ni_inc _) (Nat.le_of_ble_eq_true rfl) rfl ?_
      refine ro_aload_n (i := 0) (q := 110) hX dX2_runText_109 rfl rfl rfl ?_
      refine ro_Pga8 (q9 := 113) hX kf_X2_43 dX2_runText_110 rfl ?_
      refine ro_callVv (q9 := 116) hX (s_restart) mw_X0_restart kl_X2_129 (by decide) (fun cy => cell0 (by decide +kernel)) rfl rfl rfl (Nat.le_of_ble_eq_true rfl) ⟨Nat.le_of_ble_eq_true rfl, Nat.le_of_ble_eq_true rfl⟩ dX2_runText_113 ⟨Nat.le_of_ble_eq_true rfl, Nat.le_of_ble_eq_true rfl⟩ rfl ?_
      refine ro_iinc (i := 2) (v := nI (k31 + 1)) (q := 119) hX dX2_runText_116 rfl (ni_inc _) (Nat.le_of_ble_eq_true rfl) rfl ?_
      refine ro_goto (tgt := 31) hX dX2_runText_119 (by decide) ?_
      exact vv_LM (by first | (rw [ruP_a (by omega) (by assumption)]; rfl) | (rw [ruP_e (by omega) hgc hgp ht9]; rfl)) (by first | (rw [ruP_a (by omega) (by assumption)]) | (rw [ruP_e (by omega) hgc hgp ht9])) ih31
    · rw [nI_leI (by omega) (by omega)] at q1
      refine ro_aload_n (i := 0) (q := 48) hX dX2_runText_47 rfl rfl rfl ?_
      refine ro_Pga6 (q9 := 51) hX kf_X2_33 dX2_runText_48 rfl ?_
      refine ro_iload_n (i := 2) (q := 52) hX dX2_runText_51 rfl rfl rfl ?_
      refine ro_cald (k := 17) (n := k31) (q9 := 53) hX (by decide) (by decide +kernel) rfl (show k31 < 80 from by omega) dX2_runText_52 rfl ?_
      refine vv_top (y := (nI (tx k31))) (ht8 k31 (by omega)) ?_
      refine ro_bipush (v := nI 59) (q := 55) hX dX2_runText_53 rfl rfl ?_
      refine ro_icmp_eq (tgt := 75) (q := 58) hX dX2_runText_55 (by decide) rfl (fun q2 => ?_) (fun q2 => ?_)
      · have hc99 := htx2 k31 (by omega); rw [nI_eq (by omega) (by omega)] at q2
        obtain ⟨c, p, hgc, hgp, ht9, hcal⟩ := hex k31 hk31 (by omega)
        refine ro_aload_n (i := 0) (q := 76) hX dX2_runText_75 rfl rfl rfl ?_
        refine ro_aload_n (i := 0) (q := 77) hX dX2_runText_76 rfl rfl rfl ?_
        refine ro_Pga8 (q9 := 80) hX kf_X2_43 dX2_runText_77 rfl ?_
        refine ro_Rgi (j := 0) (q9 := 83) (by decide) hX kf_X2_144 dX2_runText_80 rfl ?_
        refine vv_top (y := (nI c)) (hgc) ?_
        refine ro_aload_n (i := 0) (q := 84) hX dX2_runText_83 rfl rfl rfl ?_
        refine ro_Pga8 (q9 := 87) hX kf_X2_43 dX2_runText_84 rfl ?_
        refine ro_Rgi (j := 1) (q9 := 90) (by decide) hX kf_X2_148 dX2_runText_87 rfl ?_
        refine vv_top (y := (nI p)) (hgp) ?_
        refine ro_aload_n (i := 0) (q := 91) hX dX2_runText_90 rfl rfl rfl ?_
        refine ro_Pga8 (q9 := 94) hX kf_X2_43 dX2_runText_91 rfl ?_
        refine ro_Rgi (j := 2) (q9 := 97) (by decide) hX kf_X2_151 dX2_runText_94 rfl ?_
        refine vv_LM rfl (mSx (by decide)) ?_
        refine ro_callVi (q9 := 100) hX (x_exec_1 ht9 hcal) mw_X2_execute kl_X2_154 (by decide) (fun cy => cell2 (by decide +kernel)) rfl rfl rfl (Nat.le_of_ble_eq_true rfl) ⟨Nat.le_of_ble_eq_true rfl, Nat.le_of_ble_eq_true rfl⟩ dX2_runText_97 ⟨Nat.le_of_ble_eq_true rfl, Nat.le_of_ble_eq_true rfl⟩ rfl ?_
        refine vv_LM rfl (mSw (by decide)) ?_
        refine ro_if_ne (tgt := 106) (q := 103) hX dX2_runText_100 (by decide) rfl (fun _ => ?_) (fun q => absurd q (by decide))
        refine ro_iinc (i := 1) (v := nI (((ruP L tx f g2 k31).2.2) + 1)) (q := 109) hX dX2_runText_106 rfl (ni_inc _) (Nat.le_of_ble_eq_true rfl) rfl ?_
        refine ro_aload_n (i := 0) (q := 110) hX dX2_runText_109 rfl rfl rfl ?_
        refine ro_Pga8 (q9 := 113) hX kf_X2_43 dX2_runText_110 rfl ?_
        refine ro_callVv (q9 := 116) hX (s_restart) mw_X0_restart kl_X2_129 (by decide) (fun cy => cell0 (by decide +kernel)) rfl rfl rfl (Nat.le_of_ble_eq_true rfl) ⟨Nat.le_of_ble_eq_true rfl, Nat.le_of_ble_eq_true rfl⟩ dX2_runText_113 ⟨Nat.le_of_ble_eq_true rfl, Nat.le_of_ble_eq_true rfl⟩ rfl ?_
        refine ro_iinc (i := 2) (v := nI (k31 + 1)) (q := 119) hX dX2_runText_116 rfl (ni_inc _) (Nat.le_of_ble_eq_true rfl) rfl ?_
        refine ro_goto (tgt := 31) hX dX2_runText_119 (by decide) ?_
        exact vv_LM (by first | (rw [ruP_a (by omega) (by assumption)]; rfl) | (rw [ruP_e (by omega) hgc hgp ht9]; rfl)) (by first | (rw [ruP_a (by omega) (by assumption)]) | (rw [ruP_e (by omega) hgc hgp ht9])) ih31
      · have hc99 := htx2 k31 (by omega); rw [nI_eq (by omega) (by omega)] at q2
        refine ro_aload_n (i := 0) (q := 59) hX dX2_runText_58 rfl rfl rfl ?_
        refine ro_Pga8 (q9 := 62) hX kf_X2_43 dX2_runText_59 rfl ?_
        refine ro_aload_n (i := 0) (q := 63) hX dX2_runText_62 rfl rfl rfl ?_
        refine ro_Pga6 (q9 := 66) hX kf_X2_33 dX2_runText_63 rfl ?_
        refine ro_iload_n (i := 2) (q := 67) hX dX2_runText_66 rfl rfl rfl ?_
        refine ro_cald (k := 17) (n := k31) (q9 := 68) hX (by decide) (by decide +kernel) rfl (show k31 < 80 from by omega) dX2_runText_67 rfl ?_
        refine vv_top (y := (nI (tx k31))) (ht8 k31 (by omega)) ?_
        refine ro_callVi (q9 := 71) hX (s_accept (htx2 k31 (by omega))) mw_X0_accept kl_X2_132 (by decide) (fun cy => cell0 (by decide +kernel)) rfl rfl rfl (Nat.le_of_ble_eq_true rfl) ⟨Nat.le_of_ble_eq_true rfl, Nat.le_of_ble_eq_true rfl⟩ dX2_runText_68 ⟨Nat.le_of_ble_eq_true rfl, Nat.le_of_ble_eq_true rfl⟩ rfl ?_
        refine ro_pop (q := 72) hX dX2_runText_71 rfl rfl ?_
        refine ro_goto (tgt := 116) hX dX2_runText_72 (by decide) ?_
        refine ro_iinc (i := 2) (v := nI (k31 + 1)) (q := 119) hX dX2_runText_116 rfl (ni_inc _) (Nat.le_of_ble_eq_true rfl) rfl ?_
        refine ro_goto (tgt := 31) hX dX2_runText_119 (by decide) ?_
        exact vv_LM (by first | (rw [ruP_a (by omega) (by assumption)]; rfl) | (rw [ruP_e (by omega) hgc hgp ht9]; rfl)) (by first | (rw [ruP_a (by omega) (by assumption)]) | (rw [ruP_e (by omega) hgc hgp ht9])) ih31
  · show VV 0 0 31 [(0, .ref (sz + 0)), (1, .int (nI (ruP L tx f g2 K).2.2)), (2, .int (nI K))] [] (patch (patch (rmG G f T m) 1 7 (ruP L tx f g2 K).1) 18 1 (ruP L tx f g2 K).2.1, rmT T m)
    refine ro_iload_n (i := 2) (q := 32) hX dX2_runText_31 rfl rfl rfl ?_
    refine ro_aload_n (i := 0) (q := 33) hX dX2_runText_32 rfl rfl rfl ?_
    refine ro_Pgi (j := 7) (q9 := 36) (by decide) hX kf_X2_37 dX2_runText_33 rfl ?_
    refine vv_top (y := (nI L)) (hL9) ?_
    refine ro_icmp_gt (tgt := 122) (q := 39) hX dX2_runText_36 (by decide) rfl (fun q => absurd q (ni_nlt (by omega) (by omega))) (fun _ => ?_)
    refine ro_iload_n (i := 2) (q := 40) hX dX2_runText_39 rfl rfl rfl ?_
    refine ro_aload_n (i := 0) (q := 41) hX dX2_runText_40 rfl rfl rfl ?_
    refine ro_Pgi (j := 7) (q9 := 44) (by decide) hX kf_X2_37 dX2_runText_41 rfl ?_
    refine vv_top (y := (nI L)) (hL9) ?_
    refine ro_icmp_ge (tgt := 75) (q := 47) hX dX2_runText_44 (by decide) rfl (fun _ => ?_) (fun q => absurd (ni_le (by omega) (by omega)) q)
    obtain ⟨c, p, hgc, hgp, ht9, hcal⟩ := hcm
    refine ro_aload_n (i := 0) (q := 76) hX dX2_runText_75 rfl rfl rfl ?_
    refine ro_aload_n (i := 0) (q := 77) hX dX2_runText_76 rfl rfl rfl ?_
    refine ro_Pga8 (q9 := 80) hX kf_X2_43 dX2_runText_77 rfl ?_
    refine ro_Rgi (j := 0) (q9 := 83) (by decide) hX kf_X2_144 dX2_runText_80 rfl ?_
    refine vv_top (y := (nI c)) (hgc) ?_
    refine ro_aload_n (i := 0) (q := 84) hX dX2_runText_83 rfl rfl rfl ?_
    refine ro_Pga8 (q9 := 87) hX kf_X2_43 dX2_runText_84 rfl ?_
    refine ro_Rgi (j := 1) (q9 := 90) (by decide) hX kf_X2_148 dX2_runText_87 rfl ?_
    refine vv_top (y := (nI p)) (hgp) ?_
    refine ro_aload_n (i := 0) (q := 91) hX dX2_runText_90 rfl rfl rfl ?_
    refine ro_Pga8 (q9 := 94) hX kf_X2_43 dX2_runText_91 rfl ?_
    refine ro_Rgi (j := 2) (q9 := 97) (by decide) hX kf_X2_151 dX2_runText_94 rfl ?_
    refine vv_LM rfl (mSx (by decide)) ?_
    refine ro_callVi (q9 := 100) hX (x_exec_0 ht9 hcal) mw_X2_execute kl_X2_154 (by decide) (fun cy => cell2 (by decide +kernel)) rfl rfl rfl (Nat.le_of_ble_eq_true rfl) ⟨Nat.le_of_ble_eq_true rfl, Nat.le_of_ble_eq_true rfl⟩ dX2_runText_97 ⟨Nat.le_of_ble_eq_true rfl, Nat.le_of_ble_eq_true rfl⟩ rfl ?_
    refine vv_LM rfl (mSw (by decide)) ?_
    refine ro_if_ne (tgt := 106) (q := 103) hX dX2_runText_100 (by decide) rfl (fun q => absurd (by decide) q) (fun _ => ?_)
    refine ro_goto (tgt := 122) hX dX2_runText_103 (by decide) ?_
    refine ro_iload_n (i := 1) (q := 123) hX dX2_runText_122 rfl rfl rfl ?_
    exact fin_i hF (Nat.le_of_ble_eq_true rfl) (Nat.le_of_ble_eq_true rfl) dX2_runText_123 (by rfl) (by exact mSx (by decide))
set_option maxRecDepth 20000 in
set_option maxHeartbeats 2000000 in
theorem x_runText_c {L : Nat} {tx : Nat → Nat} (hL : G 0 7 = nI L) (hL8 : L ≤ 80) (htx : ∀ i, i < L → G 17 i = nI (tx i)) (htx2 : ∀ i, i < L → tx i < 128) {g2 : SV} (hE : Does sz I_X2_errorPosition [.ref (sz + 0)] (patch (patch G 1 7 f) 18 1 g, T) 0 0 (.inl (some (-1))) (patch (patch G 1 7 f) 18 1 g2, T)) (hT : ∀ i, i < 6 → isV (T.1 i)) {m : Nat} (hm : m ≤ 6) (hn : G 0 3 = nI m) {K : Nat} (hK : K ≤ L + 1) (hex : ∀ k, k < K → L ≤ k ∨ tx k = 59 → cmP (ruP L tx f g2 k) true) (hK2 : K < L) (h59 : tx K = 59) (hcm : cmP (ruP L tx f g2 K) false) : Does sz I_X2_runText [.ref (sz + 0)] (patch (patch G 1 7 f) 18 1 g, T) 0 0 (.inl (some (nI (ruP L tx f g2 K).2.2))) (patch (patch (rmG G f T m) 18 1 (ruP L tx f g2 K).2.1) 1 7 (ruP L tx f g2 K).1, rmT T m) := by
  refine Does.of (L := [(0, .ref (sz + 0))]) (by decide +kernel) (Nat.le_of_ble_eq_true rfl) rfl ⟨rfl, (by simp), trivial⟩ (fun VV hF => ?_)
  have hX := hF.c
  have hr9 := rmR_ge (m := m) hT
  have hL9 : rmG G f T m 0 7 = nI L := (rm_0 hr9.1 (by decide)).trans hL
  have ht8 : ∀ i, i < L → rmG G f T m 17 i = nI (tx i) := fun i hi => (congrFun (rm_k hr9.1 (by decide) (by decide)) i).trans (htx i hi)
  refine ro_aload_n (i := 0) (q := 1) hX dX2_runText_0 rfl rfl rfl ?_
  refine ro_callVi (q9 := 4) hX (hE) mw_X2_errorPosition kl_X2_140 (by decide) (fun cy => cell2 (by decide +kernel)) rfl rfl rfl (Nat.le_of_ble_eq_true rfl) ⟨Nat.le_of_ble_eq_true rfl, Nat.le_of_ble_eq_true rfl⟩ dX2_runText_1 ⟨Nat.le_of_ble_eq_true rfl, Nat.le_of_ble_eq_true rfl⟩ rfl ?_
  refine ro_iconst (v := (-1)) (q := 5) hX dX2_runText_4 rfl rfl ?_
  refine ro_icmp_ne (tgt := 12) (q := 8) hX dX2_runText_5 (by decide) rfl (fun q => absurd (by decide) q) (fun _ => ?_)
  refine ro_iconst (v := nI 1) (q := 9) hX dX2_runText_8 rfl rfl ?_
  refine ro_goto (tgt := 13) hX dX2_runText_9 (by decide) ?_
  refine ro_callSv (q9 := 16) hX (p_reqState_t (b := true) rfl) mw_X2_requireState kl_X2_59 rfl rfl (Nat.le_of_ble_eq_true rfl) ⟨Nat.le_of_ble_eq_true rfl, Nat.le_of_ble_eq_true rfl⟩ dX2_runText_13 ⟨Nat.le_of_ble_eq_true rfl, Nat.le_of_ble_eq_true rfl⟩ rfl ?_
  refine vv_LM rfl (mSx (by decide)) ?_
  refine ro_aload_n (i := 0) (q := 17) hX dX2_runText_16 rfl rfl rfl ?_
  refine ro_callVv (q9 := 20) hX (p_remember hT hm hn) mw_X2_remember kl_X2_63 (by decide) (fun cy => cell2 (by decide +kernel)) rfl rfl rfl (Nat.le_of_ble_eq_true rfl) ⟨Nat.le_of_ble_eq_true rfl, Nat.le_of_ble_eq_true rfl⟩ dX2_runText_17 ⟨Nat.le_of_ble_eq_true rfl, Nat.le_of_ble_eq_true rfl⟩ rfl ?_
  refine vv_LM rfl (mRm hr9.1) ?_
  refine ro_iconst (v := nI 0) (q := 21) hX dX2_runText_20 rfl rfl ?_
  refine ro_istore_n (i := 1) (q := 22) hX dX2_runText_21 rfl (Nat.le_of_ble_eq_true rfl) rfl ?_
  refine ro_aload_n (i := 0) (q := 23) hX dX2_runText_22 rfl rfl rfl ?_
  refine ro_Pga8 (q9 := 26) hX kf_X2_43 dX2_runText_23 rfl ?_
  refine ro_callVv (q9 := 29) hX (s_restart) mw_X0_restart kl_X2_129 (by decide) (fun cy => cell0 (by decide +kernel)) rfl rfl rfl (Nat.le_of_ble_eq_true rfl) ⟨Nat.le_of_ble_eq_true rfl, Nat.le_of_ble_eq_true rfl⟩ dX2_runText_26 ⟨Nat.le_of_ble_eq_true rfl, Nat.le_of_ble_eq_true rfl⟩ rfl ?_
  refine ro_iconst (v := nI 0) (q := 30) hX dX2_runText_29 rfl rfl ?_
  refine ro_istore_n (i := 2) (q := 31) hX dX2_runText_30 rfl (Nat.le_of_ble_eq_true rfl) rfl ?_
  refine vv_LM (L' := [(0, .ref (sz + 0)), (1, .int (nI (ruP L tx f g2 0).2.2)), (2, .int (nI 0))]) (M' := (patch (patch (rmG G f T m) 1 7 (ruP L tx f g2 0).1) 18 1 (ruP L tx f g2 0).2.1, rmT T m)) (by rfl) (by rfl) ?_
  refine down_ind (P := fun k31 => VV 0 0 31 [(0, .ref (sz + 0)), (1, .int (nI (ruP L tx f g2 k31).2.2)), (2, .int (nI k31))] [] (patch (patch (rmG G f T m) 1 7 (ruP L tx f g2 k31).1) 18 1 (ruP L tx f g2 k31).2.1, rmT T m)) (K) (fun k31 hk31 ih31 => ?_) ?_
  · have ih31 : VV 0 0 31 [(0, .ref (sz + 0)), (1, .int (nI (ruP L tx f g2 (k31 + 1)).2.2)), (2, .int (nI (k31 + 1)))] [] (patch (patch (rmG G f T m) 1 7 (ruP L tx f g2 (k31 + 1)).1) 18 1 (ruP L tx f g2 (k31 + 1)).2.1, rmT T m) := ih31
    show VV 0 0 31 [(0, .ref (sz + 0)), (1, .int (nI (ruP L tx f g2 k31).2.2)), (2, .int (nI k31))] [] (patch (patch (rmG G f T m) 1 7 (ruP L tx f g2 k31).1) 18 1 (ruP L tx f g2 k31).2.1, rmT T m)
    refine ro_iload_n (i := 2) (q := 32) hX dX2_runText_31 rfl rfl rfl ?_
    refine ro_aload_n (i := 0) (q := 33) hX dX2_runText_32 rfl rfl rfl ?_
    refine ro_Pgi (j := 7) (q9 := 36) (by decide) hX kf_X2_37 dX2_runText_33 rfl ?_
    refine vv_top (y := (nI L)) (hL9) ?_
    refine ro_icmp_gt (tgt := 122) (q := 39) hX dX2_runText_36 (by decide) rfl (fun q => absurd q (ni_nlt (by omega) (by omega))) (fun _ => ?_)
    refine ro_iload_n (i := 2) (q := 40) hX dX2_runText_39 rfl rfl rfl ?_
    refine ro_aload_n (i := 0) (q := 41) hX dX2_runText_40 rfl rfl rfl ?_
    refine ro_Pgi (j := 7) (q9 := 44) (by decide) hX kf_X2_37 dX2_runText_41 rfl ?_
    refine vv_top (y := (nI L)) (hL9) ?_
    refine ro_icmp_ge (tgt := 75) (q := 47) hX dX2_runText_44 (by decide) rfl (fun q1 => ?_) (fun q1 => ?_)
    · rw [nI_leI (by omega) (by omega)] at q1
      obtain ⟨c, p, hgc, hgp, ht9, hcal⟩ := hex k31 hk31 (by omega)
      refine ro_aload_n (i := 0) (q := 76) hX dX2_runText_75 rfl rfl rfl ?_
      refine ro_aload_n (i := 0) (q := 77) hX dX2_runText_76 rfl rfl rfl ?_
      refine ro_Pga8 (q9 := 80) hX kf_X2_43 dX2_runText_77 rfl ?_
      refine ro_Rgi (j := 0) (q9 := 83) (by decide) hX kf_X2_144 dX2_runText_80 rfl ?_
      refine vv_top (y := (nI c)) (hgc) ?_
      refine ro_aload_n (i := 0) (q := 84) hX dX2_runText_83 rfl rfl rfl ?_
      refine ro_Pga8 (q9 := 87) hX kf_X2_43 dX2_runText_84 rfl ?_
      refine ro_Rgi (j := 1) (q9 := 90) (by decide) hX kf_X2_148 dX2_runText_87 rfl ?_
      refine vv_top (y := (nI p)) (hgp) ?_
      refine ro_aload_n (i := 0) (q := 91) hX dX2_runText_90 rfl rfl rfl ?_
      refine ro_Pga8 (q9 := 94) hX kf_X2_43 dX2_runText_91 rfl ?_
      refine ro_Rgi (j := 2) (q9 := 97) (by decide) hX kf_X2_151 dX2_runText_94 rfl ?_
      refine vv_LM rfl (mSx (by decide)) ?_
      refine ro_callVi (q9 := 100) hX (x_exec_1 ht9 hcal) mw_X2_execute kl_X2_154 (by decide) (fun cy => cell2 (by decide +kernel)) rfl rfl rfl (Nat.le_of_ble_eq_true rfl) ⟨Nat.le_of_ble_eq_true rfl, Nat.le_of_ble_eq_true rfl⟩ dX2_runText_97 ⟨Nat.le_of_ble_eq_true rfl, Nat.le_of_ble_eq_true rfl⟩ rfl ?_
      refine vv_LM rfl (mSw (by decide)) ?_
      refine ro_if_ne (tgt := 106) (q := 103) hX dX2_runText_100 (by decide) rfl (fun _ => ?_) (fun q => absurd q (by decide))
      refine ro_iinc (i := 1) (v := nI (((ruP L tx f g2 k31).2.2) + 1)) (q := 109) hX dX2_runText_106 rfl (ni_inc _) (Nat.le_of_ble_eq_true rfl) rfl ?_
      refine ro_aload_n (i := 0) (q := 110) hX dX2_runText_109 rfl rfl rfl ?_
      refine ro_Pga8 (q9 := 113) hX kf_X2_43 dX2_runText_110 rfl ?_
      refine ro_callVv (q9 := 116) hX (s_restart) mw_X0_restart kl_X2_129 (by decide) (fun cy => cell0 (by decide +kernel)) rfl rfl rfl (Nat.le_of_ble_eq_true rfl) ⟨Nat.le_of_ble_eq_true rfl, Nat.le_of_ble_eq_true rfl⟩ dX2_runText_113 ⟨Nat.le_of_ble_eq_true rfl, Nat.le_of_ble_eq_true rfl⟩ rfl ?_
      refine ro_iinc (i := 2) (v := nI (k31 + 1)) (q := 119) hX dX2_runText_116 rfl (ni_inc _) (Nat.le_of_ble_eq_true rfl) rfl ?_
      refine ro_goto (tgt := 31) hX dX2_runText_119 (by decide) ?_
      exact vv_LM (by first | (rw [ruP_a (by omega) (by assumption)]; rfl) | (rw [ruP_e (by omega) hgc hgp ht9]; rfl)) (by first | (rw [ruP_a (by omega) (by assumption)]) | (rw [ruP_e (by omega) hgc hgp ht9])) ih31
    · rw [nI_leI (by omega) (by omega)] at q1
      refine ro_aload_n (i := 0) (q := 48) hX dX2_runText_47 rfl rfl rfl ?_
      refine ro_Pga6 (q9 := 51) hX kf_X2_33 dX2_runText_48 rfl ?_
      refine ro_iload_n (i := 2) (q := 52) hX dX2_runText_51 rfl rfl rfl ?_
      refine ro_cald (k := 17) (n := k31) (q9 := 53) hX (by decide) (by decide +kernel) rfl (show k31 < 80 from by omega) dX2_runText_52 rfl ?_
      refine vv_top (y := (nI (tx k31))) (ht8 k31 (by omega)) ?_
      refine ro_bipush (v := nI 59) (q := 55) hX dX2_runText_53 rfl rfl ?_
      refine ro_icmp_eq (tgt := 75) (q := 58) hX dX2_runText_55 (by decide) rfl (fun q2 => ?_) (fun q2 => ?_)
      · have hc99 := htx2 k31 (by omega); rw [nI_eq (by omega) (by omega)] at q2
        obtain ⟨c, p, hgc, hgp, ht9, hcal⟩ := hex k31 hk31 (by omega)
        refine ro_aload_n (i := 0) (q := 76) hX dX2_runText_75 rfl rfl rfl ?_
        refine ro_aload_n (i := 0) (q := 77) hX dX2_runText_76 rfl rfl rfl ?_
        refine ro_Pga8 (q9 := 80) hX kf_X2_43 dX2_runText_77 rfl ?_
        refine ro_Rgi (j := 0) (q9 := 83) (by decide) hX kf_X2_144 dX2_runText_80 rfl ?_
        refine vv_top (y := (nI c)) (hgc) ?_
        refine ro_aload_n (i := 0) (q := 84) hX dX2_runText_83 rfl rfl rfl ?_
        refine ro_Pga8 (q9 := 87) hX kf_X2_43 dX2_runText_84 rfl ?_
        refine ro_Rgi (j := 1) (q9 := 90) (by decide) hX kf_X2_148 dX2_runText_87 rfl ?_
        refine vv_top (y := (nI p)) (hgp) ?_
        refine ro_aload_n (i := 0) (q := 91) hX dX2_runText_90 rfl rfl rfl ?_
        refine ro_Pga8 (q9 := 94) hX kf_X2_43 dX2_runText_91 rfl ?_
        refine ro_Rgi (j := 2) (q9 := 97) (by decide) hX kf_X2_151 dX2_runText_94 rfl ?_
        refine vv_LM rfl (mSx (by decide)) ?_
        refine ro_callVi (q9 := 100) hX (x_exec_1 ht9 hcal) mw_X2_execute kl_X2_154 (by decide) (fun cy => cell2 (by decide +kernel)) rfl rfl rfl (Nat.le_of_ble_eq_true rfl) ⟨Nat.le_of_ble_eq_true rfl, Nat.le_of_ble_eq_true rfl⟩ dX2_runText_97 ⟨Nat.le_of_ble_eq_true rfl, Nat.le_of_ble_eq_true rfl⟩ rfl ?_
        refine vv_LM rfl (mSw (by decide)) ?_
        refine ro_if_ne (tgt := 106) (q := 103) hX dX2_runText_100 (by decide) rfl (fun _ => ?_) (fun q => absurd q (by decide))
        refine ro_iinc (i := 1) (v := nI (((ruP L tx f g2 k31).2.2) + 1)) (q := 109) hX dX2_runText_106 rfl (ni_inc _) (Nat.le_of_ble_eq_true rfl) rfl ?_
        refine ro_aload_n (i := 0) (q := 110) hX dX2_runText_109 rfl rfl rfl ?_
        refine ro_Pga8 (q9 := 113) hX kf_X2_43 dX2_runText_110 rfl ?_
        refine ro_callVv (q9 := 116) hX (s_restart) mw_X0_restart kl_X2_129 (by decide) (fun cy => cell0 (by decide +kernel)) rfl rfl rfl (Nat.le_of_ble_eq_true rfl) ⟨Nat.le_of_ble_eq_true rfl, Nat.le_of_ble_eq_true rfl⟩ dX2_runText_113 ⟨Nat.le_of_ble_eq_true rfl, Nat.le_of_ble_eq_true rfl⟩ rfl ?_
        refine ro_iinc (i := 2) (v := nI (k31 + 1)) (q := 119) hX dX2_runText_116 rfl (ni_inc _) (Nat.le_of_ble_eq_true rfl) rfl ?_
        refine ro_goto (tgt := 31) hX dX2_runText_119 (by decide) ?_
        exact vv_LM (by first | (rw [ruP_a (by omega) (by assumption)]; rfl) | (rw [ruP_e (by omega) hgc hgp ht9]; rfl)) (by first | (rw [ruP_a (by omega) (by assumption)]) | (rw [ruP_e (by omega) hgc hgp ht9])) ih31
      · have hc99 := htx2 k31 (by omega); rw [nI_eq (by omega) (by omega)] at q2
        refine ro_aload_n (i := 0) (q := 59) hX dX2_runText_58 rfl rfl rfl ?_
        refine ro_Pga8 (q9 := 62) hX kf_X2_43 dX2_runText_59 rfl ?_
        refine ro_aload_n (i := 0) (q := 63) hX dX2_runText_62 rfl rfl rfl ?_
        refine ro_Pga6 (q9 := 66) hX kf_X2_33 dX2_runText_63 rfl ?_
        refine ro_iload_n (i := 2) (q := 67) hX dX2_runText_66 rfl rfl rfl ?_
        refine ro_cald (k := 17) (n := k31) (q9 := 68) hX (by decide) (by decide +kernel) rfl (show k31 < 80 from by omega) dX2_runText_67 rfl ?_
        refine vv_top (y := (nI (tx k31))) (ht8 k31 (by omega)) ?_
        refine ro_callVi (q9 := 71) hX (s_accept (htx2 k31 (by omega))) mw_X0_accept kl_X2_132 (by decide) (fun cy => cell0 (by decide +kernel)) rfl rfl rfl (Nat.le_of_ble_eq_true rfl) ⟨Nat.le_of_ble_eq_true rfl, Nat.le_of_ble_eq_true rfl⟩ dX2_runText_68 ⟨Nat.le_of_ble_eq_true rfl, Nat.le_of_ble_eq_true rfl⟩ rfl ?_
        refine ro_pop (q := 72) hX dX2_runText_71 rfl rfl ?_
        refine ro_goto (tgt := 116) hX dX2_runText_72 (by decide) ?_
        refine ro_iinc (i := 2) (v := nI (k31 + 1)) (q := 119) hX dX2_runText_116 rfl (ni_inc _) (Nat.le_of_ble_eq_true rfl) rfl ?_
        refine ro_goto (tgt := 31) hX dX2_runText_119 (by decide) ?_
        exact vv_LM (by first | (rw [ruP_a (by omega) (by assumption)]; rfl) | (rw [ruP_e (by omega) hgc hgp ht9]; rfl)) (by first | (rw [ruP_a (by omega) (by assumption)]) | (rw [ruP_e (by omega) hgc hgp ht9])) ih31
  · show VV 0 0 31 [(0, .ref (sz + 0)), (1, .int (nI (ruP L tx f g2 K).2.2)), (2, .int (nI K))] [] (patch (patch (rmG G f T m) 1 7 (ruP L tx f g2 K).1) 18 1 (ruP L tx f g2 K).2.1, rmT T m)
    refine ro_iload_n (i := 2) (q := 32) hX dX2_runText_31 rfl rfl rfl ?_
    refine ro_aload_n (i := 0) (q := 33) hX dX2_runText_32 rfl rfl rfl ?_
    refine ro_Pgi (j := 7) (q9 := 36) (by decide) hX kf_X2_37 dX2_runText_33 rfl ?_
    refine vv_top (y := (nI L)) (hL9) ?_
    refine ro_icmp_gt (tgt := 122) (q := 39) hX dX2_runText_36 (by decide) rfl (fun q => absurd q (ni_nlt (by omega) (by omega))) (fun _ => ?_)
    refine ro_iload_n (i := 2) (q := 40) hX dX2_runText_39 rfl rfl rfl ?_
    refine ro_aload_n (i := 0) (q := 41) hX dX2_runText_40 rfl rfl rfl ?_
    refine ro_Pgi (j := 7) (q9 := 44) (by decide) hX kf_X2_37 dX2_runText_41 rfl ?_
    refine vv_top (y := (nI L)) (hL9) ?_
    refine ro_icmp_ge (tgt := 75) (q := 47) hX dX2_runText_44 (by decide) rfl (fun q => absurd q (ni_nle (by omega) (by omega))) (fun _ => ?_)
    refine ro_aload_n (i := 0) (q := 48) hX dX2_runText_47 rfl rfl rfl ?_
    refine ro_Pga6 (q9 := 51) hX kf_X2_33 dX2_runText_48 rfl ?_
    refine ro_iload_n (i := 2) (q := 52) hX dX2_runText_51 rfl rfl rfl ?_
    refine ro_cald (k := 17) (n := K) (q9 := 53) hX (by decide) (by decide +kernel) rfl (show K < 80 from by omega) dX2_runText_52 rfl ?_
    refine vv_top (y := (nI (tx K))) (ht8 K (by omega)) ?_
    refine ro_bipush (v := nI 59) (q := 55) hX dX2_runText_53 rfl rfl ?_
    refine ro_icmp_eq (tgt := 75) (q := 58) hX dX2_runText_55 (by decide) rfl (fun _ => ?_) (fun q => absurd (by rw [h59]) q)
    obtain ⟨c, p, hgc, hgp, ht9, hcal⟩ := hcm
    refine ro_aload_n (i := 0) (q := 76) hX dX2_runText_75 rfl rfl rfl ?_
    refine ro_aload_n (i := 0) (q := 77) hX dX2_runText_76 rfl rfl rfl ?_
    refine ro_Pga8 (q9 := 80) hX kf_X2_43 dX2_runText_77 rfl ?_
    refine ro_Rgi (j := 0) (q9 := 83) (by decide) hX kf_X2_144 dX2_runText_80 rfl ?_
    refine vv_top (y := (nI c)) (hgc) ?_
    refine ro_aload_n (i := 0) (q := 84) hX dX2_runText_83 rfl rfl rfl ?_
    refine ro_Pga8 (q9 := 87) hX kf_X2_43 dX2_runText_84 rfl ?_
    refine ro_Rgi (j := 1) (q9 := 90) (by decide) hX kf_X2_148 dX2_runText_87 rfl ?_
    refine vv_top (y := (nI p)) (hgp) ?_
    refine ro_aload_n (i := 0) (q := 91) hX dX2_runText_90 rfl rfl rfl ?_
    refine ro_Pga8 (q9 := 94) hX kf_X2_43 dX2_runText_91 rfl ?_
    refine ro_Rgi (j := 2) (q9 := 97) (by decide) hX kf_X2_151 dX2_runText_94 rfl ?_
    refine vv_LM rfl (mSx (by decide)) ?_
    refine ro_callVi (q9 := 100) hX (x_exec_0 ht9 hcal) mw_X2_execute kl_X2_154 (by decide) (fun cy => cell2 (by decide +kernel)) rfl rfl rfl (Nat.le_of_ble_eq_true rfl) ⟨Nat.le_of_ble_eq_true rfl, Nat.le_of_ble_eq_true rfl⟩ dX2_runText_97 ⟨Nat.le_of_ble_eq_true rfl, Nat.le_of_ble_eq_true rfl⟩ rfl ?_
    refine vv_LM rfl (mSw (by decide)) ?_
    refine ro_if_ne (tgt := 106) (q := 103) hX dX2_runText_100 (by decide) rfl (fun q => absurd (by decide) q) (fun _ => ?_)
    refine ro_goto (tgt := 122) hX dX2_runText_103 (by decide) ?_
    refine ro_iload_n (i := 1) (q := 123) hX dX2_runText_122 rfl rfl rfl ?_
    exact fin_i hF (Nat.le_of_ble_eq_true rfl) (Nat.le_of_ble_eq_true rfl) dX2_runText_123 (by rfl) (by exact mSx (by decide))
end
