section
variable {VV : VT} {sz b LL : Nat} {xs : Nat → Int32} {G G1 G2 G3 : Nat → Nat → Int32} {T T1 T2 T3 : (Nat → Nat) × Int64} {f f1 f2 f3 g : SV} {B M : Nat}
set_option maxRecDepth 20000 in
set_option maxHeartbeats 2000000 in
theorem la_l0 (hC : CtxL VV sz b LL xs) (hLL : LL ≤ 260) {v : Int32 → Nat} {ff : Int32 → SV} {GG : Int32 → Nat → Nat → Int32} {TT : Int32 → (Nat → Nat) × Int64} (hv : ∀ x, 1 ≤ v x ∧ v x < 1000)
    (hD : ∀ x, Does sz I_X2_lend [.ref (sz + 0), .int (nI 0), .int (nI (1 + upN x 9))] (patch G 1 7 f, T) 0 0 (.inl (some (nI (v x)))) (patch (GG x) 1 7 (ff x), TT x)) (kk : ∀ x, VV 75 851 29 [(0, .ref b), (1, .ref (sz + 0))] [] (patch (GG x) 1 7 (ff x), TT x)) : VV 75 851 8 [(0, .ref b), (1, .ref (sz + 0))] [] (patch G 1 7 f, T) := by
  have hX := hC.c
  refine ro_aload_n (i := 1) (q := 9) hX dL_law_8 rfl rfl rfl ?_
  refine ro_iconst (v := nI 0) (q := 10) hX dL_law_9 rfl rfl ?_
  refine ro_iconst (v := nI 1) (q := 11) hX dL_law_10 rfl rfl ?_
  refine ro_aload_n (i := 0) (q := 12) hX dL_law_11 rfl rfl rfl ?_
  refine ro_bipush (v := nI 90) (q := 14) hX dL_law_12 rfl rfl ?_
  refine ro_cell (q9 := 17) hC hLL (by omega) (Nat.le_of_ble_eq_true rfl) dL_law_14 ⟨Nat.le_of_ble_eq_true rfl, Nat.le_of_ble_eq_true rfl⟩ rfl (fun x => ?_)
  refine ro_bipush (v := nI 9) (q := 19) hX dL_law_17 rfl rfl ?_
  refine ro_callSi (q9 := 22) hX (l_up (x := x) (n := 9) (by decide) (by decide)) mw_L_up kl_L_57 rfl rfl (Nat.le_of_ble_eq_true rfl) ⟨Nat.le_of_ble_eq_true rfl, Nat.le_of_ble_eq_true rfl⟩ dL_law_19 ⟨Nat.le_of_ble_eq_true rfl, Nat.le_of_ble_eq_true rfl⟩ rfl ?_
  refine ro_iadd (q := 23) hX dL_law_22 rfl ?_
  refine vv_top (y := (nI (1 + upN x 9))) (nI_add' rfl rfl) ?_
  refine ro_callVi (q9 := 26) hX (hD x) mw_X2_lend kl_L_83 (by decide) (fun cy => cell2 (by decide +kernel)) rfl rfl rfl (Nat.le_of_ble_eq_true rfl) ⟨Nat.le_of_ble_eq_true rfl, Nat.le_of_ble_eq_true rfl⟩ dL_law_23 ⟨Nat.le_of_ble_eq_true rfl, Nat.le_of_ble_eq_true rfl⟩ rfl ?_
  refine ro_if_le (tgt := 83) (q := 29) hX dL_law_26 (by decide) rfl (fun q => absurd q (fun q => absurd ((ni_le0 (by have := hv x; omega)).mp q) (by have := hv x; omega))) (fun _ => ?_)
  exact kk x
set_option maxRecDepth 20000 in
set_option maxHeartbeats 2000000 in
theorem la_l1 (hC : CtxL VV sz b LL xs) (hLL : LL ≤ 260) {v : Int32 → Nat} {ff : Int32 → SV} {GG : Int32 → Nat → Nat → Int32} {TT : Int32 → (Nat → Nat) × Int64} (hv : ∀ x, 1 ≤ v x ∧ v x < 1000)
    (hD : ∀ x, Does sz I_X2_lend [.ref (sz + 0), .int (nI 1), .int (nI (1 + upN x 9))] (patch G 1 7 f, T) 0 0 (.inl (some (nI (v x)))) (patch (GG x) 1 7 (ff x), TT x)) (kk : ∀ x, VV 75 851 50 [(0, .ref b), (1, .ref (sz + 0))] [] (patch (GG x) 1 7 (ff x), TT x)) : VV 75 851 29 [(0, .ref b), (1, .ref (sz + 0))] [] (patch G 1 7 f, T) := by
  have hX := hC.c
  refine ro_aload_n (i := 1) (q := 30) hX dL_law_29 rfl rfl rfl ?_
  refine ro_iconst (v := nI 1) (q := 31) hX dL_law_30 rfl rfl ?_
  refine ro_iconst (v := nI 1) (q := 32) hX dL_law_31 rfl rfl ?_
  refine ro_aload_n (i := 0) (q := 33) hX dL_law_32 rfl rfl rfl ?_
  refine ro_bipush (v := nI 91) (q := 35) hX dL_law_33 rfl rfl ?_
  refine ro_cell (q9 := 38) hC hLL (by omega) (Nat.le_of_ble_eq_true rfl) dL_law_35 ⟨Nat.le_of_ble_eq_true rfl, Nat.le_of_ble_eq_true rfl⟩ rfl (fun x => ?_)
  refine ro_bipush (v := nI 9) (q := 40) hX dL_law_38 rfl rfl ?_
  refine ro_callSi (q9 := 43) hX (l_up (x := x) (n := 9) (by decide) (by decide)) mw_L_up kl_L_57 rfl rfl (Nat.le_of_ble_eq_true rfl) ⟨Nat.le_of_ble_eq_true rfl, Nat.le_of_ble_eq_true rfl⟩ dL_law_40 ⟨Nat.le_of_ble_eq_true rfl, Nat.le_of_ble_eq_true rfl⟩ rfl ?_
  refine ro_iadd (q := 44) hX dL_law_43 rfl ?_
  refine vv_top (y := (nI (1 + upN x 9))) (nI_add' rfl rfl) ?_
  refine ro_callVi (q9 := 47) hX (hD x) mw_X2_lend kl_L_83 (by decide) (fun cy => cell2 (by decide +kernel)) rfl rfl rfl (Nat.le_of_ble_eq_true rfl) ⟨Nat.le_of_ble_eq_true rfl, Nat.le_of_ble_eq_true rfl⟩ dL_law_44 ⟨Nat.le_of_ble_eq_true rfl, Nat.le_of_ble_eq_true rfl⟩ rfl ?_
  refine ro_if_le (tgt := 83) (q := 50) hX dL_law_47 (by decide) rfl (fun q => absurd q (fun q => absurd ((ni_le0 (by have := hv x; omega)).mp q) (by have := hv x; omega))) (fun _ => ?_)
  exact kk x
set_option maxRecDepth 20000 in
set_option maxHeartbeats 2000000 in
theorem la_l2 (hC : CtxL VV sz b LL xs) (hLL : LL ≤ 260) {v : Int32 → Nat} {ff : Int32 → SV} {GG : Int32 → Nat → Nat → Int32} {TT : Int32 → (Nat → Nat) × Int64} (hv : ∀ x, 1 ≤ v x ∧ v x < 1000)
    (hD : ∀ x, Does sz I_X2_lend [.ref (sz + 0), .int (nI 2), .int (nI (1 + upN x 9))] (patch G 1 7 f, T) 0 0 (.inl (some (nI (v x)))) (patch (GG x) 1 7 (ff x), TT x)) (kk : ∀ x, VV 75 851 71 [(0, .ref b), (1, .ref (sz + 0))] [] (patch (GG x) 1 7 (ff x), TT x)) : VV 75 851 50 [(0, .ref b), (1, .ref (sz + 0))] [] (patch G 1 7 f, T) := by
  have hX := hC.c
  refine ro_aload_n (i := 1) (q := 51) hX dL_law_50 rfl rfl rfl ?_
  refine ro_iconst (v := nI 2) (q := 52) hX dL_law_51 rfl rfl ?_
  refine ro_iconst (v := nI 1) (q := 53) hX dL_law_52 rfl rfl ?_
  refine ro_aload_n (i := 0) (q := 54) hX dL_law_53 rfl rfl rfl ?_
  refine ro_bipush (v := nI 92) (q := 56) hX dL_law_54 rfl rfl ?_
  refine ro_cell (q9 := 59) hC hLL (by omega) (Nat.le_of_ble_eq_true rfl) dL_law_56 ⟨Nat.le_of_ble_eq_true rfl, Nat.le_of_ble_eq_true rfl⟩ rfl (fun x => ?_)
  refine ro_bipush (v := nI 9) (q := 61) hX dL_law_59 rfl rfl ?_
  refine ro_callSi (q9 := 64) hX (l_up (x := x) (n := 9) (by decide) (by decide)) mw_L_up kl_L_57 rfl rfl (Nat.le_of_ble_eq_true rfl) ⟨Nat.le_of_ble_eq_true rfl, Nat.le_of_ble_eq_true rfl⟩ dL_law_61 ⟨Nat.le_of_ble_eq_true rfl, Nat.le_of_ble_eq_true rfl⟩ rfl ?_
  refine ro_iadd (q := 65) hX dL_law_64 rfl ?_
  refine vv_top (y := (nI (1 + upN x 9))) (nI_add' rfl rfl) ?_
  refine ro_callVi (q9 := 68) hX (hD x) mw_X2_lend kl_L_83 (by decide) (fun cy => cell2 (by decide +kernel)) rfl rfl rfl (Nat.le_of_ble_eq_true rfl) ⟨Nat.le_of_ble_eq_true rfl, Nat.le_of_ble_eq_true rfl⟩ dL_law_65 ⟨Nat.le_of_ble_eq_true rfl, Nat.le_of_ble_eq_true rfl⟩ rfl ?_
  refine ro_if_le (tgt := 83) (q := 71) hX dL_law_68 (by decide) rfl (fun q => absurd q (fun q => absurd ((ni_le0 (by have := hv x; omega)).mp q) (by have := hv x; omega))) (fun _ => ?_)
  exact kk x
set_option maxRecDepth 20000 in
set_option maxHeartbeats 2000000 in
theorem la_sv (hC : CtxL VV sz b LL xs) (hLL : LL ≤ 260) (e0 : f 0 8 = 0) (hD : Does sz I_X2_save [.ref (sz + 0), .int (nI 0)] (patch G 1 7 f, T) 0 0 (.inl (some (f 0 8))) (patch G1 1 7 f, T)) (kk : VV 75 851 87 [(0, .ref b), (1, .ref (sz + 0)), (2, .int (nI 1)), (3, .int (nI 0))] [] (patch G1 1 7 f, T)) : VV 75 851 71 [(0, .ref b), (1, .ref (sz + 0))] [] (patch G 1 7 f, T) := by
  have hX := hC.c
  refine ro_aload_n (i := 1) (q := 72) hX dL_law_71 rfl rfl rfl ?_
  refine ro_iconst (v := nI 0) (q := 73) hX dL_law_72 rfl rfl ?_
  refine ro_callVi (q9 := 76) hX (hD) mw_X2_save kl_L_116 (by decide) (fun cy => cell2 (by decide +kernel)) rfl rfl rfl (Nat.le_of_ble_eq_true rfl) ⟨Nat.le_of_ble_eq_true rfl, Nat.le_of_ble_eq_true rfl⟩ dL_law_73 ⟨Nat.le_of_ble_eq_true rfl, Nat.le_of_ble_eq_true rfl⟩ rfl ?_
  refine ro_if_ne (tgt := 83) (q := 79) hX dL_law_76 (by decide) rfl (fun q => absurd (e0) q) (fun _ => ?_)
  refine ro_iconst (v := nI 1) (q := 80) hX dL_law_79 rfl rfl ?_
  refine ro_goto (tgt := 84) hX dL_law_80 (by decide) ?_
  refine ro_istore_n (i := 2) (q := 85) hX dL_law_84 rfl (Nat.le_of_ble_eq_true rfl) rfl ?_
  refine ro_iconst (v := nI 0) (q := 86) hX dL_law_85 rfl rfl ?_
  refine ro_istore_n (i := 3) (q := 87) hX dL_law_86 rfl (Nat.le_of_ble_eq_true rfl) rfl ?_
  exact kk
set_option maxRecDepth 20000 in
set_option maxHeartbeats 2000000 in
theorem la_a (hC : CtxL VV sz b LL xs) (hLL : LL ≤ 260) {k : Nat} (hk : k < 44) (kk : ∀ (x : Int32) (y : Int32), VV 75 851 117 [(0, .ref b), (1, .ref (sz + 0)), (2, .int (nI 1)), (3, .int (nI k)), (4, .int x), (5, .int y)] [] (patch G 1 7 f, T)) : VV 75 851 93 [(0, .ref b), (1, .ref (sz + 0)), (2, .int (nI 1)), (3, .int (nI k))] [] (patch G 1 7 f, T) := by
  have hX := hC.c
  refine ro_iload_n (i := 2) (q := 94) hX dL_law_93 rfl rfl rfl ?_
  refine ro_if_eq (tgt := 371) (q := 97) hX dL_law_94 (by decide) rfl (fun q => absurd q (by decide)) (fun _ => ?_)
  refine ro_aload_n (i := 0) (q := 98) hX dL_law_97 rfl rfl rfl ?_
  refine ro_iconst (v := nI 2) (q := 99) hX dL_law_98 rfl rfl ?_
  refine ro_iload_n (i := 3) (q := 100) hX dL_law_99 rfl rfl rfl ?_
  refine ro_imul (q := 101) hX dL_law_100 rfl ?_
  refine vv_top (y := (nI (2 * k))) (nI_mul' rfl rfl) ?_
  refine ro_cell (q9 := 104) hC hLL (by omega) (Nat.le_of_ble_eq_true rfl) dL_law_101 ⟨Nat.le_of_ble_eq_true rfl, Nat.le_of_ble_eq_true rfl⟩ rfl (fun x => ?_)
  refine ro_istore (i := 4) (q := 106) hX dL_law_104 (Nat.le_of_ble_eq_true rfl) rfl ?_
  refine ro_aload_n (i := 0) (q := 107) hX dL_law_106 rfl rfl rfl ?_
  refine ro_iconst (v := nI 2) (q := 108) hX dL_law_107 rfl rfl ?_
  refine ro_iload_n (i := 3) (q := 109) hX dL_law_108 rfl rfl rfl ?_
  refine ro_imul (q := 110) hX dL_law_109 rfl ?_
  refine vv_top (y := (nI (2 * k))) (nI_mul' rfl rfl) ?_
  refine ro_iconst (v := nI 1) (q := 111) hX dL_law_110 rfl rfl ?_
  refine ro_iadd (q := 112) hX dL_law_111 rfl ?_
  refine vv_top (y := (nI (2 * k + 1))) (nI_add' rfl rfl) ?_
  refine ro_cell (q9 := 115) hC hLL (by omega) (Nat.le_of_ble_eq_true rfl) dL_law_112 ⟨Nat.le_of_ble_eq_true rfl, Nat.le_of_ble_eq_true rfl⟩ rfl (fun y => ?_)
  refine ro_istore (i := 5) (q := 117) hX dL_law_115 (Nat.le_of_ble_eq_true rfl) rfl ?_
  exact kk x y
set_option maxRecDepth 20000 in
set_option maxHeartbeats 2000000 in
theorem la_bl (hC : CtxL VV sz b LL xs) (hLL : LL ≤ 260) (hf : GoodS f B M) {k n v : Nat} {x y : Int32} (hn6 : n ≤ 6) (hn : n < 6) (e0 : G 0 3 = nI n) (e1 : G1 0 3 = nI (n + 1)) (hv : v < 2147483648) (hD : Does sz I_L_act [.ref (sz + 0), .int x, .int y] (patch G 1 7 f, T) 0 0 (.inl (some (nI v))) (patch G1 1 7 f1, T1)) (kk : VV 75 851 173 [(0, .ref b), (1, .ref (sz + 0)), (2, .int (nI 1)), (3, .int (nI k)), (4, .int x), (5, .int y), (6, .long (toldV f)), (8, .int (nI n)), (9, .int (nI v))] [] (patch G1 1 7 f1, T1)) : VV 75 851 117 [(0, .ref b), (1, .ref (sz + 0)), (2, .int (nI 1)), (3, .int (nI k)), (4, .int x), (5, .int y)] [] (patch G 1 7 f, T) := by
  have hX := hC.c
  refine ro_aload_n (i := 1) (q := 118) hX dL_law_117 rfl rfl rfl ?_
  refine ro_callSR (q9 := 121) hX (l_told (good_told hf)) mw_L_told kl_L_101 rfl rfl (Nat.le_of_ble_eq_true rfl) ⟨Nat.le_of_ble_eq_true rfl, Nat.le_of_ble_eq_true rfl⟩ dL_law_118 ⟨Nat.le_of_ble_eq_true rfl, Nat.le_of_ble_eq_true rfl⟩ rfl (fun v9 M9 hv9 => ?_)
  obtain ⟨rfl, rfl⟩ := hv9
  refine ro_lstore (i := 6) (q := 123) hX dL_law_121 (Nat.le_of_ble_eq_true rfl) rfl (Nat.le_of_ble_eq_true rfl) rfl ?_
  refine ro_aload_n (i := 1) (q := 124) hX dL_law_123 rfl rfl rfl ?_
  refine ro_callVi (q9 := 127) hX (x_savedStates) mw_X2_savedStates kl_L_119 (by decide) (fun cy => cell2 (by decide +kernel)) rfl rfl rfl (Nat.le_of_ble_eq_true rfl) ⟨Nat.le_of_ble_eq_true rfl, Nat.le_of_ble_eq_true rfl⟩ dL_law_124 ⟨Nat.le_of_ble_eq_true rfl, Nat.le_of_ble_eq_true rfl⟩ rfl ?_
  refine vv_top (y := (nI n)) (e0) ?_
  refine ro_istore (i := 8) (q := 129) hX dL_law_127 (Nat.le_of_ble_eq_true rfl) rfl ?_
  refine ro_aload_n (i := 1) (q := 130) hX dL_law_129 rfl rfl rfl ?_
  refine ro_iload (i := 4) (q := 132) hX dL_law_130 rfl rfl ?_
  refine ro_iload (i := 5) (q := 134) hX dL_law_132 rfl rfl ?_
  refine ro_callSi (q9 := 137) hX (hD) mw_L_act kl_L_122 rfl rfl (Nat.le_of_ble_eq_true rfl) ⟨Nat.le_of_ble_eq_true rfl, Nat.le_of_ble_eq_true rfl⟩ dL_law_134 ⟨Nat.le_of_ble_eq_true rfl, Nat.le_of_ble_eq_true rfl⟩ rfl ?_
  refine ro_istore (i := 9) (q := 139) hX dL_law_137 (Nat.le_of_ble_eq_true rfl) rfl ?_
  refine ro_iload (i := 9) (q := 141) hX dL_law_139 rfl rfl ?_
  refine ro_if_lt (tgt := 171) (q := 144) hX dL_law_141 (by decide) rfl (fun q => absurd q (nI_pos (by omega))) (fun _ => ?_)
  refine ro_aload_n (i := 1) (q := 145) hX dL_law_144 rfl rfl rfl ?_
  refine ro_callVi (q9 := 148) hX (x_savedStates) mw_X2_savedStates kl_L_119 (by decide) (fun cy => cell2 (by decide +kernel)) rfl rfl rfl (Nat.le_of_ble_eq_true rfl) ⟨Nat.le_of_ble_eq_true rfl, Nat.le_of_ble_eq_true rfl⟩ dL_law_145 ⟨Nat.le_of_ble_eq_true rfl, Nat.le_of_ble_eq_true rfl⟩ rfl ?_
  refine vv_top (y := (nI (n + 1))) (e1) ?_
  refine ro_iload (i := 8) (q := 150) hX dL_law_148 rfl rfl ?_
  refine ro_bipush (v := nI 6) (q := 152) hX dL_law_150 rfl rfl ?_
  refine ro_icmp_ge (tgt := 162) (q := 155) hX dL_law_152 (by decide) rfl (fun q => absurd q (ni_nle (by omega) (by omega))) (fun _ => ?_)
  refine ro_iload (i := 8) (q := 157) hX dL_law_155 rfl rfl ?_
  refine ro_iconst (v := nI 1) (q := 158) hX dL_law_157 rfl rfl ?_
  refine ro_iadd (q := 159) hX dL_law_158 rfl ?_
  refine vv_top (y := (nI (n + 1))) (nI_add' rfl rfl) ?_
  refine ro_goto (tgt := 164) hX dL_law_159 (by decide) ?_
  refine ro_icmp_ne (tgt := 171) (q := 167) hX dL_law_164 (by decide) rfl (fun q => absurd (rfl) q) (fun _ => ?_)
  refine ro_iconst (v := nI 1) (q := 168) hX dL_law_167 rfl rfl ?_
  refine ro_goto (tgt := 172) hX dL_law_168 (by decide) ?_
  refine ro_istore_n (i := 2) (q := 173) hX dL_law_172 rfl (Nat.le_of_ble_eq_true rfl) rfl ?_
  exact kk
set_option maxRecDepth 20000 in
set_option maxHeartbeats 2000000 in
theorem la_bf (hC : CtxL VV sz b LL xs) (hLL : LL ≤ 260) (hf : GoodS f B M) {k n v : Nat} {x y : Int32} (hn6 : n ≤ 6) (hn : n = 6) (e0 : G 0 3 = nI n) (e1 : G1 0 3 = nI (6)) (hv : v < 2147483648) (hD : Does sz I_L_act [.ref (sz + 0), .int x, .int y] (patch G 1 7 f, T) 0 0 (.inl (some (nI v))) (patch G1 1 7 f1, T1)) (kk : VV 75 851 173 [(0, .ref b), (1, .ref (sz + 0)), (2, .int (nI 1)), (3, .int (nI k)), (4, .int x), (5, .int y), (6, .long (toldV f)), (8, .int (nI n)), (9, .int (nI v))] [] (patch G1 1 7 f1, T1)) : VV 75 851 117 [(0, .ref b), (1, .ref (sz + 0)), (2, .int (nI 1)), (3, .int (nI k)), (4, .int x), (5, .int y)] [] (patch G 1 7 f, T) := by
  have hX := hC.c
  refine ro_aload_n (i := 1) (q := 118) hX dL_law_117 rfl rfl rfl ?_
  refine ro_callSR (q9 := 121) hX (l_told (good_told hf)) mw_L_told kl_L_101 rfl rfl (Nat.le_of_ble_eq_true rfl) ⟨Nat.le_of_ble_eq_true rfl, Nat.le_of_ble_eq_true rfl⟩ dL_law_118 ⟨Nat.le_of_ble_eq_true rfl, Nat.le_of_ble_eq_true rfl⟩ rfl (fun v9 M9 hv9 => ?_)
  obtain ⟨rfl, rfl⟩ := hv9
  refine ro_lstore (i := 6) (q := 123) hX dL_law_121 (Nat.le_of_ble_eq_true rfl) rfl (Nat.le_of_ble_eq_true rfl) rfl ?_
  refine ro_aload_n (i := 1) (q := 124) hX dL_law_123 rfl rfl rfl ?_
  refine ro_callVi (q9 := 127) hX (x_savedStates) mw_X2_savedStates kl_L_119 (by decide) (fun cy => cell2 (by decide +kernel)) rfl rfl rfl (Nat.le_of_ble_eq_true rfl) ⟨Nat.le_of_ble_eq_true rfl, Nat.le_of_ble_eq_true rfl⟩ dL_law_124 ⟨Nat.le_of_ble_eq_true rfl, Nat.le_of_ble_eq_true rfl⟩ rfl ?_
  refine vv_top (y := (nI n)) (e0) ?_
  refine ro_istore (i := 8) (q := 129) hX dL_law_127 (Nat.le_of_ble_eq_true rfl) rfl ?_
  refine ro_aload_n (i := 1) (q := 130) hX dL_law_129 rfl rfl rfl ?_
  refine ro_iload (i := 4) (q := 132) hX dL_law_130 rfl rfl ?_
  refine ro_iload (i := 5) (q := 134) hX dL_law_132 rfl rfl ?_
  refine ro_callSi (q9 := 137) hX (hD) mw_L_act kl_L_122 rfl rfl (Nat.le_of_ble_eq_true rfl) ⟨Nat.le_of_ble_eq_true rfl, Nat.le_of_ble_eq_true rfl⟩ dL_law_134 ⟨Nat.le_of_ble_eq_true rfl, Nat.le_of_ble_eq_true rfl⟩ rfl ?_
  refine ro_istore (i := 9) (q := 139) hX dL_law_137 (Nat.le_of_ble_eq_true rfl) rfl ?_
  refine ro_iload (i := 9) (q := 141) hX dL_law_139 rfl rfl ?_
  refine ro_if_lt (tgt := 171) (q := 144) hX dL_law_141 (by decide) rfl (fun q => absurd q (nI_pos (by omega))) (fun _ => ?_)
  refine ro_aload_n (i := 1) (q := 145) hX dL_law_144 rfl rfl rfl ?_
  refine ro_callVi (q9 := 148) hX (x_savedStates) mw_X2_savedStates kl_L_119 (by decide) (fun cy => cell2 (by decide +kernel)) rfl rfl rfl (Nat.le_of_ble_eq_true rfl) ⟨Nat.le_of_ble_eq_true rfl, Nat.le_of_ble_eq_true rfl⟩ dL_law_145 ⟨Nat.le_of_ble_eq_true rfl, Nat.le_of_ble_eq_true rfl⟩ rfl ?_
  refine vv_top (y := (nI 6)) (e1) ?_
  refine ro_iload (i := 8) (q := 150) hX dL_law_148 rfl rfl ?_
  refine ro_bipush (v := nI 6) (q := 152) hX dL_law_150 rfl rfl ?_
  refine ro_icmp_ge (tgt := 162) (q := 155) hX dL_law_152 (by decide) rfl (fun _ => ?_) (fun q => absurd (by rw [hn]; decide) q)
  refine ro_bipush (v := nI 6) (q := 164) hX dL_law_162 rfl rfl ?_
  refine ro_icmp_ne (tgt := 171) (q := 167) hX dL_law_164 (by decide) rfl (fun q => absurd (rfl) q) (fun _ => ?_)
  refine ro_iconst (v := nI 1) (q := 168) hX dL_law_167 rfl rfl ?_
  refine ro_goto (tgt := 172) hX dL_law_168 (by decide) ?_
  refine ro_istore_n (i := 2) (q := 173) hX dL_law_172 rfl (Nat.le_of_ble_eq_true rfl) rfl ?_
  exact kk
set_option maxRecDepth 20000 in
set_option maxHeartbeats 2000000 in
theorem la_n (hC : CtxL VV sz b LL xs) (hLL : LL ≤ 260) {k n v : Nat} {x y : Int32} (hq : ¬ (x >>> (nI 8 &&& 31)) &&& nI 3 = 0) (kk : VV 75 851 249 [(0, .ref b), (1, .ref (sz + 0)), (2, .int (nI 1)), (3, .int (nI k)), (4, .int x), (5, .int y), (6, .long (toldV f)), (8, .int (nI n)), (9, .int (nI v))] [] (patch G 1 7 f1, T)) : VV 75 851 173 [(0, .ref b), (1, .ref (sz + 0)), (2, .int (nI 1)), (3, .int (nI k)), (4, .int x), (5, .int y), (6, .long (toldV f)), (8, .int (nI n)), (9, .int (nI v))] [] (patch G 1 7 f1, T) := by
  have hX := hC.c
  refine ro_iload_n (i := 2) (q := 174) hX dL_law_173 rfl rfl rfl ?_
  refine ro_if_eq (tgt := 249) (q := 177) hX dL_law_174 (by decide) rfl (fun q => absurd q (by decide)) (fun _ => ?_)
  refine ro_iload (i := 4) (q := 179) hX dL_law_177 rfl rfl ?_
  refine ro_bipush (v := nI 8) (q := 181) hX dL_law_179 rfl rfl ?_
  refine ro_ishr (q := 182) hX dL_law_181 rfl ?_
  refine ro_iconst (v := nI 3) (q := 183) hX dL_law_182 rfl rfl ?_
  refine ro_iand (q := 184) hX dL_law_183 rfl ?_
  refine ro_if_ne (tgt := 249) (q := 187) hX dL_law_184 (by decide) rfl (fun _ => ?_) (fun q => absurd q (hq))
  exact kk
set_option maxRecDepth 20000 in
set_option maxHeartbeats 2000000 in
theorem la_y (hC : CtxL VV sz b LL xs) (hLL : LL ≤ 260) (hf : GoodS f B M) (hf1 : GoodS f1 B M) {k n c v : Nat} {x y : Int32} (hc : c < 10) (hq : (x >>> (nI 8 &&& 31)) &&& nI 3 = 0) (e0 : G 0 3 = nI (c + 1)) (hU : Does sz I_X2_undo [.ref (sz + 0)] (patch G 1 7 f1, T) 0 0 (.inl (some (nI c))) (patch G1 1 7 f, T)) (hD : Does sz I_L_act [.ref (sz + 0), .int x, .int y] (patch G1 1 7 f, T) 0 0 (.inl (some (nI v))) (patch G2 1 7 f1, T2)) (kk : VV 75 851 249 [(0, .ref b), (1, .ref (sz + 0)), (2, .int (nI 1)), (3, .int (nI k)), (4, .int x), (5, .int y), (6, .long (toldV f)), (8, .int (nI n)), (9, .int (nI v)), (10, .long (toldV f1)), (12, .int (nI c))] [] (patch G2 1 7 f1, T2)) : VV 75 851 173 [(0, .ref b), (1, .ref (sz + 0)), (2, .int (nI 1)), (3, .int (nI k)), (4, .int x), (5, .int y), (6, .long (toldV f)), (8, .int (nI n)), (9, .int (nI v))] [] (patch G 1 7 f1, T) := by
  have hX := hC.c
  refine ro_iload_n (i := 2) (q := 174) hX dL_law_173 rfl rfl rfl ?_
  refine ro_if_eq (tgt := 249) (q := 177) hX dL_law_174 (by decide) rfl (fun q => absurd q (by decide)) (fun _ => ?_)
  refine ro_iload (i := 4) (q := 179) hX dL_law_177 rfl rfl ?_
  refine ro_bipush (v := nI 8) (q := 181) hX dL_law_179 rfl rfl ?_
  refine ro_ishr (q := 182) hX dL_law_181 rfl ?_
  refine ro_iconst (v := nI 3) (q := 183) hX dL_law_182 rfl rfl ?_
  refine ro_iand (q := 184) hX dL_law_183 rfl ?_
  refine ro_if_ne (tgt := 249) (q := 187) hX dL_law_184 (by decide) rfl (fun q => absurd (hq) q) (fun _ => ?_)
  refine ro_aload_n (i := 1) (q := 188) hX dL_law_187 rfl rfl rfl ?_
  refine ro_callSR (q9 := 191) hX (l_told (good_told hf1)) mw_L_told kl_L_101 rfl rfl (Nat.le_of_ble_eq_true rfl) ⟨Nat.le_of_ble_eq_true rfl, Nat.le_of_ble_eq_true rfl⟩ dL_law_188 ⟨Nat.le_of_ble_eq_true rfl, Nat.le_of_ble_eq_true rfl⟩ rfl (fun v9 M9 hv9 => ?_)
  obtain ⟨rfl, rfl⟩ := hv9
  refine ro_lstore (i := 10) (q := 193) hX dL_law_191 (Nat.le_of_ble_eq_true rfl) rfl (Nat.le_of_ble_eq_true rfl) rfl ?_
  refine ro_aload_n (i := 1) (q := 194) hX dL_law_193 rfl rfl rfl ?_
  refine ro_callVi (q9 := 197) hX (x_savedStates) mw_X2_savedStates kl_L_119 (by decide) (fun cy => cell2 (by decide +kernel)) rfl rfl rfl (Nat.le_of_ble_eq_true rfl) ⟨Nat.le_of_ble_eq_true rfl, Nat.le_of_ble_eq_true rfl⟩ dL_law_194 ⟨Nat.le_of_ble_eq_true rfl, Nat.le_of_ble_eq_true rfl⟩ rfl ?_
  refine vv_top (y := (nI (c + 1))) (e0) ?_
  refine ro_iconst (v := nI 1) (q := 198) hX dL_law_197 rfl rfl ?_
  refine ro_isub (q := 199) hX dL_law_198 rfl ?_
  refine vv_top (y := (nI c)) (nI_pred c) ?_
  refine ro_istore (i := 12) (q := 201) hX dL_law_199 (Nat.le_of_ble_eq_true rfl) rfl ?_
  refine ro_aload_n (i := 1) (q := 202) hX dL_law_201 rfl rfl rfl ?_
  refine ro_callVi (q9 := 205) hX (hU) mw_X2_undo kl_L_105 (by decide) (fun cy => cell2 (by decide +kernel)) rfl rfl rfl (Nat.le_of_ble_eq_true rfl) ⟨Nat.le_of_ble_eq_true rfl, Nat.le_of_ble_eq_true rfl⟩ dL_law_202 ⟨Nat.le_of_ble_eq_true rfl, Nat.le_of_ble_eq_true rfl⟩ rfl ?_
  refine ro_iload (i := 12) (q := 207) hX dL_law_205 rfl rfl ?_
  refine ro_icmp_ne (tgt := 247) (q := 210) hX dL_law_207 (by decide) rfl (fun q => absurd (rfl) q) (fun _ => ?_)
  refine ro_aload_n (i := 1) (q := 211) hX dL_law_210 rfl rfl rfl ?_
  refine ro_callSR (q9 := 214) hX (l_told (good_told hf)) mw_L_told kl_L_101 rfl rfl (Nat.le_of_ble_eq_true rfl) ⟨Nat.le_of_ble_eq_true rfl, Nat.le_of_ble_eq_true rfl⟩ dL_law_211 ⟨Nat.le_of_ble_eq_true rfl, Nat.le_of_ble_eq_true rfl⟩ rfl (fun v9 M9 hv9 => ?_)
  obtain ⟨rfl, rfl⟩ := hv9
  refine ro_lload (i := 6) (q := 216) hX dL_law_214 rfl rfl ?_
  refine ro_lcmp (q := 217) hX dL_law_216 rfl ?_
  refine vv_top (y := (nI 0)) (lg_self _) ?_
  refine ro_if_ne (tgt := 247) (q := 220) hX dL_law_217 (by decide) rfl (fun q => absurd (by decide) q) (fun _ => ?_)
  refine ro_aload_n (i := 1) (q := 221) hX dL_law_220 rfl rfl rfl ?_
  refine ro_iload (i := 4) (q := 223) hX dL_law_221 rfl rfl ?_
  refine ro_iload (i := 5) (q := 225) hX dL_law_223 rfl rfl ?_
  refine ro_callSi (q9 := 228) hX (hD) mw_L_act kl_L_122 rfl rfl (Nat.le_of_ble_eq_true rfl) ⟨Nat.le_of_ble_eq_true rfl, Nat.le_of_ble_eq_true rfl⟩ dL_law_225 ⟨Nat.le_of_ble_eq_true rfl, Nat.le_of_ble_eq_true rfl⟩ rfl ?_
  refine ro_iload (i := 9) (q := 230) hX dL_law_228 rfl rfl ?_
  refine ro_icmp_ne (tgt := 247) (q := 233) hX dL_law_230 (by decide) rfl (fun q => absurd (rfl) q) (fun _ => ?_)
  refine ro_aload_n (i := 1) (q := 234) hX dL_law_233 rfl rfl rfl ?_
  refine ro_callSR (q9 := 237) hX (l_told (good_told hf1)) mw_L_told kl_L_101 rfl rfl (Nat.le_of_ble_eq_true rfl) ⟨Nat.le_of_ble_eq_true rfl, Nat.le_of_ble_eq_true rfl⟩ dL_law_234 ⟨Nat.le_of_ble_eq_true rfl, Nat.le_of_ble_eq_true rfl⟩ rfl (fun v9 M9 hv9 => ?_)
  obtain ⟨rfl, rfl⟩ := hv9
  refine ro_lload (i := 10) (q := 239) hX dL_law_237 rfl rfl ?_
  refine ro_lcmp (q := 240) hX dL_law_239 rfl ?_
  refine vv_top (y := (nI 0)) (lg_self _) ?_
  refine ro_if_ne (tgt := 247) (q := 243) hX dL_law_240 (by decide) rfl (fun q => absurd (by decide) q) (fun _ => ?_)
  refine ro_iconst (v := nI 1) (q := 244) hX dL_law_243 rfl rfl ?_
  refine ro_goto (tgt := 248) hX dL_law_244 (by decide) ?_
  refine ro_istore_n (i := 2) (q := 249) hX dL_law_248 rfl (Nat.le_of_ble_eq_true rfl) rfl ?_
  exact kk
set_option maxRecDepth 20000 in
set_option maxHeartbeats 2000000 in
theorem la_h (hC : CtxL VV sz b LL xs) (hLL : LL ≤ 260) (hf : GoodS f B M) {k : Nat} {x : Int32} (kk : VV 75 851 267 [(0, .ref b), (1, .ref (sz + 0)), (2, .int (nI 1)), (3, .int (nI k)), (4, .int x)] [] (patch G 1 7 f, T)) : VV 75 851 249 [(0, .ref b), (1, .ref (sz + 0)), (2, .int (nI 1)), (3, .int (nI k)), (4, .int x)] [] (patch G 1 7 f, T) := by
  have hX := hC.c
  refine ro_iload_n (i := 2) (q := 250) hX dL_law_249 rfl rfl rfl ?_
  refine ro_if_eq (tgt := 332) (q := 253) hX dL_law_250 (by decide) rfl (fun q => absurd q (by decide)) (fun _ => ?_)
  refine ro_aload_n (i := 1) (q := 254) hX dL_law_253 rfl rfl rfl ?_
  refine ro_callSi (q9 := 257) hX (l_areHosts hf) mw_L_areHosts kl_L_126 rfl rfl (Nat.le_of_ble_eq_true rfl) ⟨Nat.le_of_ble_eq_true rfl, Nat.le_of_ble_eq_true rfl⟩ dL_law_254 ⟨Nat.le_of_ble_eq_true rfl, Nat.le_of_ble_eq_true rfl⟩ rfl ?_
  refine ro_if_eq (tgt := 332) (q := 260) hX dL_law_257 (by decide) rfl (fun q => absurd q (by decide)) (fun _ => ?_)
  refine ro_aload_n (i := 1) (q := 261) hX dL_law_260 rfl rfl rfl ?_
  refine ro_callSi (q9 := 264) hX (l_arePages hf) mw_L_arePages kl_L_130 rfl rfl (Nat.le_of_ble_eq_true rfl) ⟨Nat.le_of_ble_eq_true rfl, Nat.le_of_ble_eq_true rfl⟩ dL_law_261 ⟨Nat.le_of_ble_eq_true rfl, Nat.le_of_ble_eq_true rfl⟩ rfl ?_
  refine ro_if_eq (tgt := 332) (q := 267) hX dL_law_264 (by decide) rfl (fun q => absurd q (by decide)) (fun _ => ?_)
  exact kk
set_option maxRecDepth 20000 in
set_option maxHeartbeats 2000000 in
theorem la_kn (hC : CtxL VV sz b LL xs) (hLL : LL ≤ 260) {k : Nat} {x : Int32} (hk : k < 44) (hq : ¬ k % 3 = 1) (kk : VV 75 851 305 [(0, .ref b), (1, .ref (sz + 0)), (2, .int (nI 1)), (3, .int (nI k)), (4, .int x)] [] (patch G 1 7 f, T)) : VV 75 851 267 [(0, .ref b), (1, .ref (sz + 0)), (2, .int (nI 1)), (3, .int (nI k)), (4, .int x)] [] (patch G 1 7 f, T) := by
  have hX := hC.c
  refine ro_iload_n (i := 3) (q := 268) hX dL_law_267 rfl rfl rfl ?_
  refine ro_iconst (v := nI 3) (q := 269) hX dL_law_268 rfl rfl ?_
  refine ro_irem (v := nI (k % 3)) (q := 270) hX dL_law_269 (by decide) (nI_rem (by omega) (by decide) (by decide)) rfl ?_
  refine ro_iconst (v := nI 1) (q := 271) hX dL_law_270 rfl rfl ?_
  refine ro_icmp_ne (tgt := 305) (q := 274) hX dL_law_271 (by decide) rfl (fun _ => ?_) (fun q => absurd q (ni_ne hq (by omega) (by decide)))
  exact kk
set_option maxRecDepth 20000 in
set_option maxHeartbeats 2000000 in
theorem la_k1 (hC : CtxL VV sz b LL xs) (hLL : LL ≤ 260) (hf : GoodS f B M) {n : Nat} (hW : WorldS G T n g) {k : Nat} {x : Int32} (hk : k < 44) (hq : k % 3 = 1) (hc : (x >>> (nI 9 &&& 31)) &&& nI 1 = 0) (kk : ∀ G T n, WorldS G T n g → VV 75 851 305 [(0, .ref b), (1, .ref (sz + 0)), (2, .int (nI 1)), (3, .int (nI k)), (4, .int x)] [] (patch G 1 7 f, T)) : VV 75 851 267 [(0, .ref b), (1, .ref (sz + 0)), (2, .int (nI 1)), (3, .int (nI k)), (4, .int x)] [] (patch G 1 7 f, T) := by
  have hX := hC.c
  refine ro_iload_n (i := 3) (q := 268) hX dL_law_267 rfl rfl rfl ?_
  refine ro_iconst (v := nI 3) (q := 269) hX dL_law_268 rfl rfl ?_
  refine ro_irem (v := nI (k % 3)) (q := 270) hX dL_law_269 (by decide) (nI_rem (by omega) (by decide) (by decide)) rfl ?_
  refine ro_iconst (v := nI 1) (q := 271) hX dL_law_270 rfl rfl ?_
  refine ro_icmp_ne (tgt := 305) (q := 274) hX dL_law_271 (by decide) rfl (fun q => absurd (by rw [hq]) q) (fun _ => ?_)
  refine ro_aload_n (i := 1) (q := 275) hX dL_law_274 rfl rfl rfl ?_
  refine ro_iload (i := 4) (q := 277) hX dL_law_275 rfl rfl ?_
  refine ro_iconst (v := nI 4) (q := 278) hX dL_law_277 rfl rfl ?_
  refine ro_ishr (q := 279) hX dL_law_278 rfl ?_
  refine ro_bipush (v := nI 10) (q := 281) hX dL_law_279 rfl rfl ?_
  refine ro_callSi (q9 := 284) hX (l_up (x := x >>> ((nI 4) &&& 31)) (n := 10) (by decide) (by decide)) mw_L_up kl_L_57 rfl rfl (Nat.le_of_ble_eq_true rfl) ⟨Nat.le_of_ble_eq_true rfl, Nat.le_of_ble_eq_true rfl⟩ dL_law_281 ⟨Nat.le_of_ble_eq_true rfl, Nat.le_of_ble_eq_true rfl⟩ rfl ?_
  refine ro_iload (i := 4) (q := 286) hX dL_law_284 rfl rfl ?_
  refine ro_bipush (v := nI 9) (q := 288) hX dL_law_286 rfl rfl ?_
  refine ro_ishr (q := 289) hX dL_law_288 rfl ?_
  refine ro_iconst (v := nI 1) (q := 290) hX dL_law_289 rfl rfl ?_
  refine ro_iand (q := 291) hX dL_law_290 rfl ?_
  refine ro_if_ne (tgt := 298) (q := 294) hX dL_law_291 (by decide) rfl (fun q => absurd (hc) q) (fun _ => ?_)
  refine ro_iconst (v := nI 1) (q := 295) hX dL_law_294 rfl rfl ?_
  refine ro_goto (tgt := 299) hX dL_law_295 (by decide) ?_
  refine ro_callSR (q9 := 302) hX (l_isKept hf (upN_lt (by decide)) (by decide) hW) mw_L_isKept kl_L_133 rfl rfl (Nat.le_of_ble_eq_true rfl) ⟨Nat.le_of_ble_eq_true rfl, Nat.le_of_ble_eq_true rfl⟩ dL_law_299 ⟨Nat.le_of_ble_eq_true rfl, Nat.le_of_ble_eq_true rfl⟩ rfl (fun v9 M9 hv9 => ?_)
  obtain ⟨rfl, G9, T9, n9, hW9, rfl⟩ := hv9
  refine ro_if_eq (tgt := 332) (q := 305) hX dL_law_302 (by decide) rfl (fun q => absurd q (by decide)) (fun _ => ?_)
  exact kk _ _ _ hW9
set_option maxRecDepth 20000 in
set_option maxHeartbeats 2000000 in
theorem la_k0 (hC : CtxL VV sz b LL xs) (hLL : LL ≤ 260) (hf : GoodS f B M) {n : Nat} (hW : WorldS G T n g) {k : Nat} {x : Int32} (hk : k < 44) (hq : k % 3 = 1) (hc : ¬ (x >>> (nI 9 &&& 31)) &&& nI 1 = 0) (kk : ∀ G T n, WorldS G T n g → VV 75 851 305 [(0, .ref b), (1, .ref (sz + 0)), (2, .int (nI 1)), (3, .int (nI k)), (4, .int x)] [] (patch G 1 7 f, T)) : VV 75 851 267 [(0, .ref b), (1, .ref (sz + 0)), (2, .int (nI 1)), (3, .int (nI k)), (4, .int x)] [] (patch G 1 7 f, T) := by
  have hX := hC.c
  refine ro_iload_n (i := 3) (q := 268) hX dL_law_267 rfl rfl rfl ?_
  refine ro_iconst (v := nI 3) (q := 269) hX dL_law_268 rfl rfl ?_
  refine ro_irem (v := nI (k % 3)) (q := 270) hX dL_law_269 (by decide) (nI_rem (by omega) (by decide) (by decide)) rfl ?_
  refine ro_iconst (v := nI 1) (q := 271) hX dL_law_270 rfl rfl ?_
  refine ro_icmp_ne (tgt := 305) (q := 274) hX dL_law_271 (by decide) rfl (fun q => absurd (by rw [hq]) q) (fun _ => ?_)
  refine ro_aload_n (i := 1) (q := 275) hX dL_law_274 rfl rfl rfl ?_
  refine ro_iload (i := 4) (q := 277) hX dL_law_275 rfl rfl ?_
  refine ro_iconst (v := nI 4) (q := 278) hX dL_law_277 rfl rfl ?_
  refine ro_ishr (q := 279) hX dL_law_278 rfl ?_
  refine ro_bipush (v := nI 10) (q := 281) hX dL_law_279 rfl rfl ?_
  refine ro_callSi (q9 := 284) hX (l_up (x := x >>> ((nI 4) &&& 31)) (n := 10) (by decide) (by decide)) mw_L_up kl_L_57 rfl rfl (Nat.le_of_ble_eq_true rfl) ⟨Nat.le_of_ble_eq_true rfl, Nat.le_of_ble_eq_true rfl⟩ dL_law_281 ⟨Nat.le_of_ble_eq_true rfl, Nat.le_of_ble_eq_true rfl⟩ rfl ?_
  refine ro_iload (i := 4) (q := 286) hX dL_law_284 rfl rfl ?_
  refine ro_bipush (v := nI 9) (q := 288) hX dL_law_286 rfl rfl ?_
  refine ro_ishr (q := 289) hX dL_law_288 rfl ?_
  refine ro_iconst (v := nI 1) (q := 290) hX dL_law_289 rfl rfl ?_
  refine ro_iand (q := 291) hX dL_law_290 rfl ?_
  refine ro_if_ne (tgt := 298) (q := 294) hX dL_law_291 (by decide) rfl (fun _ => ?_) (fun q => absurd q (hc))
  refine ro_iconst (v := nI 0) (q := 299) hX dL_law_298 rfl rfl ?_
  refine ro_callSR (q9 := 302) hX (l_isKept hf (upN_lt (by decide)) (by decide) hW) mw_L_isKept kl_L_133 rfl rfl (Nat.le_of_ble_eq_true rfl) ⟨Nat.le_of_ble_eq_true rfl, Nat.le_of_ble_eq_true rfl⟩ dL_law_299 ⟨Nat.le_of_ble_eq_true rfl, Nat.le_of_ble_eq_true rfl⟩ rfl (fun v9 M9 hv9 => ?_)
  obtain ⟨rfl, G9, T9, n9, hW9, rfl⟩ := hv9
  refine ro_if_eq (tgt := 332) (q := 305) hX dL_law_302 (by decide) rfl (fun q => absurd q (by decide)) (fun _ => ?_)
  exact kk _ _ _ hW9
set_option maxRecDepth 20000 in
set_option maxHeartbeats 2000000 in
theorem la_on (hC : CtxL VV sz b LL xs) (hLL : LL ≤ 260) {k : Nat} {x : Int32} (hk : k < 44) (hq : ¬ k % 4 = 2) (kk : VV 75 851 334 [(0, .ref b), (1, .ref (sz + 0)), (2, .int (nI 1)), (3, .int (nI k)), (4, .int x)] [] (patch G 1 7 f, T)) : VV 75 851 305 [(0, .ref b), (1, .ref (sz + 0)), (2, .int (nI 1)), (3, .int (nI k)), (4, .int x)] [] (patch G 1 7 f, T) := by
  have hX := hC.c
  refine ro_iload_n (i := 3) (q := 306) hX dL_law_305 rfl rfl rfl ?_
  refine ro_iconst (v := nI 4) (q := 307) hX dL_law_306 rfl rfl ?_
  refine ro_irem (v := nI (k % 4)) (q := 308) hX dL_law_307 (by decide) (nI_rem (by omega) (by decide) (by decide)) rfl ?_
  refine ro_iconst (v := nI 2) (q := 309) hX dL_law_308 rfl rfl ?_
  refine ro_icmp_ne (tgt := 328) (q := 312) hX dL_law_309 (by decide) rfl (fun _ => ?_) (fun q => absurd q (ni_ne hq (by omega) (by decide)))
  refine ro_iconst (v := nI 1) (q := 329) hX dL_law_328 rfl rfl ?_
  refine ro_goto (tgt := 333) hX dL_law_329 (by decide) ?_
  refine ro_istore_n (i := 2) (q := 334) hX dL_law_333 rfl (Nat.le_of_ble_eq_true rfl) rfl ?_
  exact kk
set_option maxRecDepth 20000 in
set_option maxHeartbeats 2000000 in
theorem la_oy (hC : CtxL VV sz b LL xs) (hLL : LL ≤ 260) (hf : GoodS f B M) (hM : M ≤ 400000) {n : Nat} (hW : WorldS G T n g) {k : Nat} {x : Int32} (hk : k < 44) (hq : k % 4 = 2) (kk : ∀ G T n, WorldS G T n g → VV 75 851 334 [(0, .ref b), (1, .ref (sz + 0)), (2, .int (nI 1)), (3, .int (nI k)), (4, .int x)] [] (patch G 1 7 f, T)) : VV 75 851 305 [(0, .ref b), (1, .ref (sz + 0)), (2, .int (nI 1)), (3, .int (nI k)), (4, .int x)] [] (patch G 1 7 f, T) := by
  have hX := hC.c
  refine ro_iload_n (i := 3) (q := 306) hX dL_law_305 rfl rfl rfl ?_
  refine ro_iconst (v := nI 4) (q := 307) hX dL_law_306 rfl rfl ?_
  refine ro_irem (v := nI (k % 4)) (q := 308) hX dL_law_307 (by decide) (nI_rem (by omega) (by decide) (by decide)) rfl ?_
  refine ro_iconst (v := nI 2) (q := 309) hX dL_law_308 rfl rfl ?_
  refine ro_icmp_ne (tgt := 328) (q := 312) hX dL_law_309 (by decide) rfl (fun q => absurd (by rw [hq]) q) (fun _ => ?_)
  refine ro_aload_n (i := 1) (q := 313) hX dL_law_312 rfl rfl rfl ?_
  refine ro_iload (i := 4) (q := 315) hX dL_law_313 rfl rfl ?_
  refine ro_iconst (v := nI 5) (q := 316) hX dL_law_315 rfl rfl ?_
  refine ro_ishr (q := 317) hX dL_law_316 rfl ?_
  refine ro_bipush (v := nI 6) (q := 319) hX dL_law_317 rfl rfl ?_
  refine ro_callSi (q9 := 322) hX (l_up (x := x >>> ((nI 5) &&& 31)) (n := 6) (by decide) (by decide)) mw_L_up kl_L_57 rfl rfl (Nat.le_of_ble_eq_true rfl) ⟨Nat.le_of_ble_eq_true rfl, Nat.le_of_ble_eq_true rfl⟩ dL_law_319 ⟨Nat.le_of_ble_eq_true rfl, Nat.le_of_ble_eq_true rfl⟩ rfl ?_
  refine ro_callSR (q9 := 325) hX (l_isOver hf hM (upN_lt (by decide)) hW) mw_L_isOver kl_L_137 rfl rfl (Nat.le_of_ble_eq_true rfl) ⟨Nat.le_of_ble_eq_true rfl, Nat.le_of_ble_eq_true rfl⟩ dL_law_322 ⟨Nat.le_of_ble_eq_true rfl, Nat.le_of_ble_eq_true rfl⟩ rfl (fun v9 M9 hv9 => ?_)
  obtain ⟨rfl, G9, T9, n9, hW9, rfl⟩ := hv9
  refine ro_if_eq (tgt := 332) (q := 328) hX dL_law_325 (by decide) rfl (fun q => absurd q (by decide)) (fun _ => ?_)
  refine ro_iconst (v := nI 1) (q := 329) hX dL_law_328 rfl rfl ?_
  refine ro_goto (tgt := 333) hX dL_law_329 (by decide) ?_
  refine ro_istore_n (i := 2) (q := 334) hX dL_law_333 rfl (Nat.le_of_ble_eq_true rfl) rfl ?_
  exact kk _ _ _ hW9
set_option maxRecDepth 20000 in
set_option maxHeartbeats 2000000 in
theorem la_sn (hC : CtxL VV sz b LL xs) (hLL : LL ≤ 260) {k : Nat} {x : Int32} (hk : k < 44) (hq : ¬ k % 17 = 9) (kk : VV 75 851 87 [(0, .ref b), (1, .ref (sz + 0)), (2, .int (nI 1)), (3, .int (nI (k + 1)))] [] (patch G 1 7 f, T)) : VV 75 851 334 [(0, .ref b), (1, .ref (sz + 0)), (2, .int (nI 1)), (3, .int (nI k)), (4, .int x)] [] (patch G 1 7 f, T) := by
  have hX := hC.c
  refine ro_iload_n (i := 2) (q := 335) hX dL_law_334 rfl rfl rfl ?_
  refine ro_if_eq (tgt := 363) (q := 338) hX dL_law_335 (by decide) rfl (fun q => absurd q (by decide)) (fun _ => ?_)
  refine ro_iload_n (i := 3) (q := 339) hX dL_law_338 rfl rfl rfl ?_
  refine ro_bipush (v := nI 17) (q := 341) hX dL_law_339 rfl rfl ?_
  refine ro_irem (v := nI (k % 17)) (q := 342) hX dL_law_341 (by decide) (nI_rem (by omega) (by decide) (by decide)) rfl ?_
  refine ro_bipush (v := nI 9) (q := 344) hX dL_law_342 rfl rfl ?_
  refine ro_icmp_ne (tgt := 359) (q := 347) hX dL_law_344 (by decide) rfl (fun _ => ?_) (fun q => absurd q (ni_ne hq (by omega) (by decide)))
  refine ro_iconst (v := nI 1) (q := 360) hX dL_law_359 rfl rfl ?_
  refine ro_goto (tgt := 364) hX dL_law_360 (by decide) ?_
  refine ro_istore_n (i := 2) (q := 365) hX dL_law_364 rfl (Nat.le_of_ble_eq_true rfl) rfl ?_
  refine ro_drop [4] hX rfl ?_
  refine ro_iinc (i := 3) (v := nI (k + 1)) (q := 368) hX dL_law_365 rfl (ni_inc _) (Nat.le_of_ble_eq_true rfl) rfl ?_
  refine ro_goto (tgt := 87) hX dL_law_368 (by decide) ?_
  exact kk
set_option maxRecDepth 20000 in
set_option maxHeartbeats 2000000 in
theorem la_sy (hC : CtxL VV sz b LL xs) (hLL : LL ≤ 260) {k : Nat} {x : Int32} (hk : k < 44) (hq : k % 17 = 9) (hD : Does sz I_X2_save [.ref (sz + 0), .int (nI 0)] (patch G 1 7 f, T) 0 0 (.inl (some (f 0 8))) (patch G1 1 7 f, T)) (kk : VV 75 851 87 [(0, .ref b), (1, .ref (sz + 0)), (2, .int (nI 1)), (3, .int (nI (k + 1)))] [] (patch G1 1 7 f, T)) : VV 75 851 334 [(0, .ref b), (1, .ref (sz + 0)), (2, .int (nI 1)), (3, .int (nI k)), (4, .int x)] [] (patch G 1 7 f, T) := by
  have hX := hC.c
  refine ro_iload_n (i := 2) (q := 335) hX dL_law_334 rfl rfl rfl ?_
  refine ro_if_eq (tgt := 363) (q := 338) hX dL_law_335 (by decide) rfl (fun q => absurd q (by decide)) (fun _ => ?_)
  refine ro_iload_n (i := 3) (q := 339) hX dL_law_338 rfl rfl rfl ?_
  refine ro_bipush (v := nI 17) (q := 341) hX dL_law_339 rfl rfl ?_
  refine ro_irem (v := nI (k % 17)) (q := 342) hX dL_law_341 (by decide) (nI_rem (by omega) (by decide) (by decide)) rfl ?_
  refine ro_bipush (v := nI 9) (q := 344) hX dL_law_342 rfl rfl ?_
  refine ro_icmp_ne (tgt := 359) (q := 347) hX dL_law_344 (by decide) rfl (fun q => absurd (by rw [hq]) q) (fun _ => ?_)
  refine ro_aload_n (i := 1) (q := 348) hX dL_law_347 rfl rfl rfl ?_
  refine ro_iconst (v := nI 0) (q := 349) hX dL_law_348 rfl rfl ?_
  refine ro_callVi (q9 := 352) hX (hD) mw_X2_save kl_L_116 (by decide) (fun cy => cell2 (by decide +kernel)) rfl rfl rfl (Nat.le_of_ble_eq_true rfl) ⟨Nat.le_of_ble_eq_true rfl, Nat.le_of_ble_eq_true rfl⟩ dL_law_349 ⟨Nat.le_of_ble_eq_true rfl, Nat.le_of_ble_eq_true rfl⟩ rfl ?_
  refine ro_aload_n (i := 1) (q := 353) hX dL_law_352 rfl rfl rfl ?_
  refine ro_callVi (q9 := 356) hX (x_time) mw_X2_time kl_L_11 (by decide) (fun cy => cell2 (by decide +kernel)) rfl rfl rfl (Nat.le_of_ble_eq_true rfl) ⟨Nat.le_of_ble_eq_true rfl, Nat.le_of_ble_eq_true rfl⟩ dL_law_353 ⟨Nat.le_of_ble_eq_true rfl, Nat.le_of_ble_eq_true rfl⟩ rfl ?_
  refine ro_icmp_ne (tgt := 363) (q := 359) hX dL_law_356 (by decide) rfl (fun q => absurd (rfl) q) (fun _ => ?_)
  refine ro_iconst (v := nI 1) (q := 360) hX dL_law_359 rfl rfl ?_
  refine ro_goto (tgt := 364) hX dL_law_360 (by decide) ?_
  refine ro_istore_n (i := 2) (q := 365) hX dL_law_364 rfl (Nat.le_of_ble_eq_true rfl) rfl ?_
  refine ro_drop [4] hX rfl ?_
  refine ro_iinc (i := 3) (v := nI (k + 1)) (q := 368) hX dL_law_365 rfl (ni_inc _) (Nat.le_of_ble_eq_true rfl) rfl ?_
  refine ro_goto (tgt := 87) hX dL_law_368 (by decide) ?_
  exact kk
end
