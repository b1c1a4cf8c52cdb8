section
variable {sz r : Nat} {G : Nat → Nat → Int32} {T : (Nat → Nat) × Int64} {f g : SV}
set_option maxRecDepth 20000 in
set_option maxHeartbeats 2000000 in
theorem x_allowed_115 {p : Nat} (hp : p < 30) : Does sz I_X2_isAllowed [.ref (sz + 0), .int (nI 115), .int (nI p)] (patch G 1 7 f, T) 0 0 (.inl (some (bi (caddS f p)))) (patch G 1 7 f, T) := by
  refine Does.of (L := [(0, .ref (sz + 0)), (1, .int (nI 115)), (2, .int (nI p))]) (by decide +kernel) (Nat.le_of_ble_eq_true rfl) rfl ⟨rfl, (by simp), ⟨rfl, (by simp), ⟨rfl, (by simp), trivial⟩⟩⟩ (fun VV hF => ?_)
  have hX := hF.c
  refine ro_iload_n (i := 1) (q := 1) hX dX2_isAllowed_0 rfl rfl rfl ?_
  refine ro_tableIn (tgt := 104) (off := 103) hX dX2_isAllowed_1 (by decide) (by decide) (by decide +kernel) (by decide) ?_
  refine ro_aload_n (i := 0) (q := 105) hX dX2_isAllowed_104 rfl rfl rfl ?_
  refine ro_Pga0 (q9 := 108) hX kf_X2_12 dX2_isAllowed_105 rfl ?_
  refine ro_iload_n (i := 2) (q := 109) hX dX2_isAllowed_108 rfl rfl rfl ?_
  refine ro_callVi (q9 := 112) hX (s_canAdd (by unfold isB; decide) hp) mw_X1_canAdd kl_X2_55 (isB_lt (by unfold isB; decide)) (fun cy => cell1 (isB_kd (by unfold isB; decide)).2.2.1) rfl rfl rfl (Nat.le_of_ble_eq_true rfl) ⟨Nat.le_of_ble_eq_true rfl, Nat.le_of_ble_eq_true rfl⟩ dX2_isAllowed_109 ⟨Nat.le_of_ble_eq_true rfl, Nat.le_of_ble_eq_true rfl⟩ rfl ?_
  exact fin_z hF (Nat.le_of_ble_eq_true rfl) (Nat.le_of_ble_eq_true rfl) dX2_isAllowed_112 (bi_nar _) (by rfl) (by rfl)
set_option maxRecDepth 20000 in
set_option maxHeartbeats 2000000 in
theorem x_allowed_119 {p : Nat} (hp : p < 30) : Does sz I_X2_isAllowed [.ref (sz + 0), .int (nI 119), .int (nI p)] (patch G 1 7 f, T) 0 0 (.inl (some (bi (reS f p)))) (patch G 1 7 f, T) := by
  refine Does.of (L := [(0, .ref (sz + 0)), (1, .int (nI 119)), (2, .int (nI p))]) (by decide +kernel) (Nat.le_of_ble_eq_true rfl) rfl ⟨rfl, (by simp), ⟨rfl, (by simp), ⟨rfl, (by simp), trivial⟩⟩⟩ (fun VV hF => ?_)
  have hX := hF.c
  refine ro_iload_n (i := 1) (q := 1) hX dX2_isAllowed_0 rfl rfl rfl ?_
  refine ro_tableIn (tgt := 113) (off := 112) hX dX2_isAllowed_1 (by decide) (by decide) (by decide +kernel) (by decide) ?_
  refine ro_aload_n (i := 0) (q := 114) hX dX2_isAllowed_113 rfl rfl rfl ?_
  refine ro_Pga0 (q9 := 117) hX kf_X2_12 dX2_isAllowed_114 rfl ?_
  refine ro_iload_n (i := 2) (q := 118) hX dX2_isAllowed_117 rfl rfl rfl ?_
  refine ro_callVi (q9 := 121) hX (s_isReachable (by unfold isB; decide) hp) mw_X1_isReachable kl_X2_70 (isB_lt (by unfold isB; decide)) (fun cy => cell1 (isB_kd (by unfold isB; decide)).2.2.1) rfl rfl rfl (Nat.le_of_ble_eq_true rfl) ⟨Nat.le_of_ble_eq_true rfl, Nat.le_of_ble_eq_true rfl⟩ dX2_isAllowed_118 ⟨Nat.le_of_ble_eq_true rfl, Nat.le_of_ble_eq_true rfl⟩ rfl ?_
  exact fin_z hF (Nat.le_of_ble_eq_true rfl) (Nat.le_of_ble_eq_true rfl) dX2_isAllowed_121 (bi_nar _) (by rfl) (by rfl)
set_option maxRecDepth 20000 in
set_option maxHeartbeats 2000000 in
theorem x_allowed_100 {p : Nat} (hp : p < 30) : Does sz I_X2_isAllowed [.ref (sz + 0), .int (nI 100), .int (nI p)] (patch G 1 7 f, T) 0 0 (.inl (some (bi (exS f p)))) (patch G 1 7 f, T) := by
  refine Does.of (L := [(0, .ref (sz + 0)), (1, .int (nI 100)), (2, .int (nI p))]) (by decide +kernel) (Nat.le_of_ble_eq_true rfl) rfl ⟨rfl, (by simp), ⟨rfl, (by simp), ⟨rfl, (by simp), trivial⟩⟩⟩ (fun VV hF => ?_)
  have hX := hF.c
  refine ro_iload_n (i := 1) (q := 1) hX dX2_isAllowed_0 rfl rfl rfl ?_
  refine ro_tableIn (tgt := 122) (off := 121) hX dX2_isAllowed_1 (by decide) (by decide) (by decide +kernel) (by decide) ?_
  refine ro_aload_n (i := 0) (q := 123) hX dX2_isAllowed_122 rfl rfl rfl ?_
  refine ro_Pga0 (q9 := 126) hX kf_X2_12 dX2_isAllowed_123 rfl ?_
  refine ro_iload_n (i := 2) (q := 127) hX dX2_isAllowed_126 rfl rfl rfl ?_
  refine ro_callVi (q9 := 130) hX (s_exists (by unfold isB; decide) hp) mw_X1_exists kl_X2_80 (isB_lt (by unfold isB; decide)) (fun cy => cell1 (isB_kd (by unfold isB; decide)).2.2.1) rfl rfl rfl (Nat.le_of_ble_eq_true rfl) ⟨Nat.le_of_ble_eq_true rfl, Nat.le_of_ble_eq_true rfl⟩ dX2_isAllowed_127 ⟨Nat.le_of_ble_eq_true rfl, Nat.le_of_ble_eq_true rfl⟩ rfl ?_
  exact fin_z hF (Nat.le_of_ble_eq_true rfl) (Nat.le_of_ble_eq_true rfl) dX2_isAllowed_130 (bi_nar _) (by rfl) (by rfl)
set_option maxRecDepth 20000 in
set_option maxHeartbeats 2000000 in
theorem x_allowed_108 {h : Nat} (hh : h < 6) : Does sz I_X2_isAllowed [.ref (sz + 0), .int (nI 108), .int (nI h)] (patch G 1 7 f, T) 0 0 (.inl (some (bi (cbegS f h)))) (patch G 1 7 f, T) := by
  refine Does.of (L := [(0, .ref (sz + 0)), (1, .int (nI 108)), (2, .int (nI h))]) (by decide +kernel) (Nat.le_of_ble_eq_true rfl) rfl ⟨rfl, (by simp), ⟨rfl, (by simp), ⟨rfl, (by simp), trivial⟩⟩⟩ (fun VV hF => ?_)
  have hX := hF.c
  refine ro_iload_n (i := 1) (q := 1) hX dX2_isAllowed_0 rfl rfl rfl ?_
  refine ro_tableIn (tgt := 131) (off := 130) hX dX2_isAllowed_1 (by decide) (by decide) (by decide +kernel) (by decide) ?_
  refine ro_aload_n (i := 0) (q := 132) hX dX2_isAllowed_131 rfl rfl rfl ?_
  refine ro_Pga0 (q9 := 135) hX kf_X2_12 dX2_isAllowed_132 rfl ?_
  refine ro_iload_n (i := 2) (q := 136) hX dX2_isAllowed_135 rfl rfl rfl ?_
  refine ro_callVi (q9 := 139) hX (s_canBegin (by unfold isB; decide) hh) mw_X1_canBegin kl_X2_90 (isB_lt (by unfold isB; decide)) (fun cy => cell1 (isB_kd (by unfold isB; decide)).2.2.1) rfl rfl rfl (Nat.le_of_ble_eq_true rfl) ⟨Nat.le_of_ble_eq_true rfl, Nat.le_of_ble_eq_true rfl⟩ dX2_isAllowed_136 ⟨Nat.le_of_ble_eq_true rfl, Nat.le_of_ble_eq_true rfl⟩ rfl ?_
  exact fin_z hF (Nat.le_of_ble_eq_true rfl) (Nat.le_of_ble_eq_true rfl) dX2_isAllowed_139 (bi_nar _) (by rfl) (by rfl)
set_option maxRecDepth 20000 in
set_option maxHeartbeats 2000000 in
theorem x_allowed_114 {h : Nat} (hh : h < 6) : Does sz I_X2_isAllowed [.ref (sz + 0), .int (nI 114), .int (nI h)] (patch G 1 7 f, T) 0 0 (.inl (some (bi (opS f h)))) (patch G 1 7 f, T) := by
  refine Does.of (L := [(0, .ref (sz + 0)), (1, .int (nI 114)), (2, .int (nI h))]) (by decide +kernel) (Nat.le_of_ble_eq_true rfl) rfl ⟨rfl, (by simp), ⟨rfl, (by simp), ⟨rfl, (by simp), trivial⟩⟩⟩ (fun VV hF => ?_)
  have hX := hF.c
  refine ro_iload_n (i := 1) (q := 1) hX dX2_isAllowed_0 rfl rfl rfl ?_
  refine ro_tableIn (tgt := 140) (off := 139) hX dX2_isAllowed_1 (by decide) (by decide) (by decide +kernel) (by decide) ?_
  refine ro_aload_n (i := 0) (q := 141) hX dX2_isAllowed_140 rfl rfl rfl ?_
  refine ro_Pga0 (q9 := 144) hX kf_X2_12 dX2_isAllowed_141 rfl ?_
  refine ro_iload_n (i := 2) (q := 145) hX dX2_isAllowed_144 rfl rfl rfl ?_
  refine ro_callVi (q9 := 148) hX (s_isOpen (by unfold isB; decide) hh) mw_X1_isOpen kl_X2_96 (isB_lt (by unfold isB; decide)) (fun cy => cell1 (isB_kd (by unfold isB; decide)).2.2.1) rfl rfl rfl (Nat.le_of_ble_eq_true rfl) ⟨Nat.le_of_ble_eq_true rfl, Nat.le_of_ble_eq_true rfl⟩ dX2_isAllowed_145 ⟨Nat.le_of_ble_eq_true rfl, Nat.le_of_ble_eq_true rfl⟩ rfl ?_
  exact fin_z hF (Nat.le_of_ble_eq_true rfl) (Nat.le_of_ble_eq_true rfl) dX2_isAllowed_148 (bi_nar _) (by rfl) (by rfl)
set_option maxRecDepth 20000 in
set_option maxHeartbeats 2000000 in
theorem x_allowed_111 {h : Nat} (hh : h < 6) : Does sz I_X2_isAllowed [.ref (sz + 0), .int (nI 111), .int (nI h)] (patch G 1 7 f, T) 0 0 (.inl (some (bi (cdetS f h)))) (patch G 1 7 f, T) := by
  refine Does.of (L := [(0, .ref (sz + 0)), (1, .int (nI 111)), (2, .int (nI h))]) (by decide +kernel) (Nat.le_of_ble_eq_true rfl) rfl ⟨rfl, (by simp), ⟨rfl, (by simp), ⟨rfl, (by simp), trivial⟩⟩⟩ (fun VV hF => ?_)
  have hX := hF.c
  refine ro_iload_n (i := 1) (q := 1) hX dX2_isAllowed_0 rfl rfl rfl ?_
  refine ro_tableIn (tgt := 149) (off := 148) hX dX2_isAllowed_1 (by decide) (by decide) (by decide +kernel) (by decide) ?_
  refine ro_aload_n (i := 0) (q := 150) hX dX2_isAllowed_149 rfl rfl rfl ?_
  refine ro_Pga0 (q9 := 153) hX kf_X2_12 dX2_isAllowed_150 rfl ?_
  refine ro_iload_n (i := 2) (q := 154) hX dX2_isAllowed_153 rfl rfl rfl ?_
  refine ro_callVi (q9 := 157) hX (s_canDetach (by unfold isB; decide) hh) mw_X1_canDetach kl_X2_102 (isB_lt (by unfold isB; decide)) (fun cy => cell1 (isB_kd (by unfold isB; decide)).2.2.1) rfl rfl rfl (Nat.le_of_ble_eq_true rfl) ⟨Nat.le_of_ble_eq_true rfl, Nat.le_of_ble_eq_true rfl⟩ dX2_isAllowed_154 ⟨Nat.le_of_ble_eq_true rfl, Nat.le_of_ble_eq_true rfl⟩ rfl ?_
  exact fin_z hF (Nat.le_of_ble_eq_true rfl) (Nat.le_of_ble_eq_true rfl) dX2_isAllowed_157 (bi_nar _) (by rfl) (by rfl)
set_option maxRecDepth 20000 in
set_option maxHeartbeats 2000000 in
theorem x_allowed_99 {h : Nat} (hh : h < 6) : Does sz I_X2_isAllowed [.ref (sz + 0), .int (nI 99), .int (nI h)] (patch G 1 7 f, T) 0 0 (.inl (some (bi (cattS f h)))) (patch G 1 7 f, T) := by
  refine Does.of (L := [(0, .ref (sz + 0)), (1, .int (nI 99)), (2, .int (nI h))]) (by decide +kernel) (Nat.le_of_ble_eq_true rfl) rfl ⟨rfl, (by simp), ⟨rfl, (by simp), ⟨rfl, (by simp), trivial⟩⟩⟩ (fun VV hF => ?_)
  have hX := hF.c
  refine ro_iload_n (i := 1) (q := 1) hX dX2_isAllowed_0 rfl rfl rfl ?_
  refine ro_tableIn (tgt := 158) (off := 157) hX dX2_isAllowed_1 (by decide) (by decide) (by decide +kernel) (by decide) ?_
  refine ro_aload_n (i := 0) (q := 159) hX dX2_isAllowed_158 rfl rfl rfl ?_
  refine ro_Pga0 (q9 := 162) hX kf_X2_12 dX2_isAllowed_159 rfl ?_
  refine ro_iload_n (i := 2) (q := 163) hX dX2_isAllowed_162 rfl rfl rfl ?_
  refine ro_callVi (q9 := 166) hX (s_canAttach (by unfold isB; decide) hh) mw_X1_canAttach kl_X2_108 (isB_lt (by unfold isB; decide)) (fun cy => cell1 (isB_kd (by unfold isB; decide)).2.2.1) rfl rfl rfl (Nat.le_of_ble_eq_true rfl) ⟨Nat.le_of_ble_eq_true rfl, Nat.le_of_ble_eq_true rfl⟩ dX2_isAllowed_163 ⟨Nat.le_of_ble_eq_true rfl, Nat.le_of_ble_eq_true rfl⟩ rfl ?_
  exact fin_z hF (Nat.le_of_ble_eq_true rfl) (Nat.le_of_ble_eq_true rfl) dX2_isAllowed_166 (bi_nar _) (by rfl) (by rfl)
set_option maxRecDepth 20000 in
set_option maxHeartbeats 2000000 in
theorem x_allowed_120 {h : Nat} (hh : h < 6) : Does sz I_X2_isAllowed [.ref (sz + 0), .int (nI 120), .int (nI h)] (patch G 1 7 f, T) 0 0 (.inl (some (bi (cbrkS f h)))) (patch G 1 7 f, T) := by
  refine Does.of (L := [(0, .ref (sz + 0)), (1, .int (nI 120)), (2, .int (nI h))]) (by decide +kernel) (Nat.le_of_ble_eq_true rfl) rfl ⟨rfl, (by simp), ⟨rfl, (by simp), ⟨rfl, (by simp), trivial⟩⟩⟩ (fun VV hF => ?_)
  have hX := hF.c
  refine ro_iload_n (i := 1) (q := 1) hX dX2_isAllowed_0 rfl rfl rfl ?_
  refine ro_tableIn (tgt := 167) (off := 166) hX dX2_isAllowed_1 (by decide) (by decide) (by decide +kernel) (by decide) ?_
  refine ro_aload_n (i := 0) (q := 168) hX dX2_isAllowed_167 rfl rfl rfl ?_
  refine ro_Pga0 (q9 := 171) hX kf_X2_12 dX2_isAllowed_168 rfl ?_
  refine ro_iload_n (i := 2) (q := 172) hX dX2_isAllowed_171 rfl rfl rfl ?_
  refine ro_callVi (q9 := 175) hX (s_canBreak (by unfold isB; decide) hh) mw_X1_canBreak kl_X2_114 (isB_lt (by unfold isB; decide)) (fun cy => cell1 (isB_kd (by unfold isB; decide)).2.2.1) rfl rfl rfl (Nat.le_of_ble_eq_true rfl) ⟨Nat.le_of_ble_eq_true rfl, Nat.le_of_ble_eq_true rfl⟩ dX2_isAllowed_172 ⟨Nat.le_of_ble_eq_true rfl, Nat.le_of_ble_eq_true rfl⟩ rfl ?_
  exact fin_z hF (Nat.le_of_ble_eq_true rfl) (Nat.le_of_ble_eq_true rfl) dX2_isAllowed_175 (bi_nar _) (by rfl) (by rfl)
set_option maxRecDepth 20000 in
set_option maxHeartbeats 2000000 in
theorem x_allowed_116 {k : Nat} (hk : k ≤ 600) : Does sz I_X2_isAllowed [.ref (sz + 0), .int (nI 116), .int (nI k)] (patch G 1 7 f, T) 0 0 (.inl (some (bi (cadvS f (nI k))))) (patch G 1 7 f, T) := by
  refine Does.of (L := [(0, .ref (sz + 0)), (1, .int (nI 116)), (2, .int (nI k))]) (by decide +kernel) (Nat.le_of_ble_eq_true rfl) rfl ⟨rfl, (by simp), ⟨rfl, (by simp), ⟨rfl, (by simp), trivial⟩⟩⟩ (fun VV hF => ?_)
  have hX := hF.c
  refine ro_iload_n (i := 1) (q := 1) hX dX2_isAllowed_0 rfl rfl rfl ?_
  refine ro_tableIn (tgt := 176) (off := 175) hX dX2_isAllowed_1 (by decide) (by decide) (by decide +kernel) (by decide) ?_
  refine ro_aload_n (i := 0) (q := 177) hX dX2_isAllowed_176 rfl rfl rfl ?_
  refine ro_Pga0 (q9 := 180) hX kf_X2_12 dX2_isAllowed_177 rfl ?_
  refine ro_iload_n (i := 2) (q := 181) hX dX2_isAllowed_180 rfl rfl rfl ?_
  refine ro_callVi (q9 := 184) hX (s_canAdvance (by unfold isB; decide)) mw_X1_canAdvance kl_X2_120 (isB_lt (by unfold isB; decide)) (fun cy => cell1 (isB_kd (by unfold isB; decide)).2.2.1) rfl rfl rfl (Nat.le_of_ble_eq_true rfl) ⟨Nat.le_of_ble_eq_true rfl, Nat.le_of_ble_eq_true rfl⟩ dX2_isAllowed_181 ⟨Nat.le_of_ble_eq_true rfl, Nat.le_of_ble_eq_true rfl⟩ rfl ?_
  exact fin_z hF (Nat.le_of_ble_eq_true rfl) (Nat.le_of_ble_eq_true rfl) dX2_isAllowed_184 (bi_nar _) (by rfl) (by rfl)
set_option maxRecDepth 20000 in
set_option maxHeartbeats 2000000 in
theorem x_exec_115_0 {p : Nat} (hp : p < 30) {y : Int32} (hc : caddS f p = false) : Does sz I_X2_execute [.ref (sz + 0), .int (nI 115), .int (nI p), .int y] (patch G 1 7 f, T) 0 0 (.inl (some (nI 0))) (patch G 1 7 f, T) := by
  refine Does.of (L := [(0, .ref (sz + 0)), (1, .int (nI 115)), (2, .int (nI p)), (3, .int y)]) (by decide +kernel) (Nat.le_of_ble_eq_true rfl) rfl ⟨rfl, (by simp), ⟨rfl, (by simp), ⟨rfl, (by simp), ⟨rfl, (by simp), trivial⟩⟩⟩⟩ (fun VV hF => ?_)
  have hX := hF.c
  refine ro_aload_n (i := 0) (q := 1) hX dX2_execute_0 rfl rfl rfl ?_
  refine ro_iload_n (i := 1) (q := 2) hX dX2_execute_1 rfl rfl rfl ?_
  refine ro_iload_n (i := 2) (q := 3) hX dX2_execute_2 rfl rfl rfl ?_
  refine ro_callVi (q9 := 6) hX (x_allowed_115 hp) mw_X2_isAllowed kl_X2_244 (by decide) (fun cy => cell2 (by decide +kernel)) rfl rfl rfl (Nat.le_of_ble_eq_true rfl) ⟨Nat.le_of_ble_eq_true rfl, Nat.le_of_ble_eq_true rfl⟩ dX2_execute_3 ⟨Nat.le_of_ble_eq_true rfl, Nat.le_of_ble_eq_true rfl⟩ rfl ?_
  refine ro_ifb_ne (tgt := 11) (q := 9) hX dX2_execute_6 (by decide) rfl (fun q => absurd q (by rw [hc]; decide)) (fun _ => ?_)
  refine ro_iconst (v := nI 0) (q := 10) hX dX2_execute_9 rfl rfl ?_
  exact fin_z hF (Nat.le_of_ble_eq_true rfl) (Nat.le_of_ble_eq_true rfl) dX2_execute_10 rfl (by rfl) (by rfl)
set_option maxRecDepth 20000 in
set_option maxHeartbeats 2000000 in
theorem x_exec_115_1 {p : Nat} (hp : p < 30) {y : Int32} (hc : caddS f p = true) : Does sz I_X2_execute [.ref (sz + 0), .int (nI 115), .int (nI p), .int y] (patch G 1 7 f, T) 0 0 (.inl (some (nI 1))) (patch G 1 7 (seS (adG f p y)), T) := by
  refine Does.of (L := [(0, .ref (sz + 0)), (1, .int (nI 115)), (2, .int (nI p)), (3, .int y)]) (by decide +kernel) (Nat.le_of_ble_eq_true rfl) rfl ⟨rfl, (by simp), ⟨rfl, (by simp), ⟨rfl, (by simp), ⟨rfl, (by simp), trivial⟩⟩⟩⟩ (fun VV hF => ?_)
  have hX := hF.c
  refine ro_aload_n (i := 0) (q := 1) hX dX2_execute_0 rfl rfl rfl ?_
  refine ro_iload_n (i := 1) (q := 2) hX dX2_execute_1 rfl rfl rfl ?_
  refine ro_iload_n (i := 2) (q := 3) hX dX2_execute_2 rfl rfl rfl ?_
  refine ro_callVi (q9 := 6) hX (x_allowed_115 hp) mw_X2_isAllowed kl_X2_244 (by decide) (fun cy => cell2 (by decide +kernel)) rfl rfl rfl (Nat.le_of_ble_eq_true rfl) ⟨Nat.le_of_ble_eq_true rfl, Nat.le_of_ble_eq_true rfl⟩ dX2_execute_3 ⟨Nat.le_of_ble_eq_true rfl, Nat.le_of_ble_eq_true rfl⟩ rfl ?_
  refine ro_ifb_ne (tgt := 11) (q := 9) hX dX2_execute_6 (by decide) rfl (fun _ => ?_) (fun q => absurd q (by rw [hc]; decide))
  refine ro_iload_n (i := 1) (q := 12) hX dX2_execute_11 rfl rfl rfl ?_
  refine ro_tableIn (tgt := 116) (off := 104) hX dX2_execute_12 (by decide) (by decide) (by decide +kernel) (by decide) ?_
  refine ro_aload_n (i := 0) (q := 117) hX dX2_execute_116 rfl rfl rfl ?_
  refine ro_Pga0 (q9 := 120) hX kf_X2_12 dX2_execute_117 rfl ?_
  refine ro_iload_n (i := 2) (q := 121) hX dX2_execute_120 rfl rfl rfl ?_
  refine ro_iload_n (i := 3) (q := 122) hX dX2_execute_121 rfl rfl rfl ?_
  refine ro_callVi (q9 := 125) hX (s_addPage (by unfold isB; decide) hp) mw_X1_addPage kl_X2_66 (isB_lt (by unfold isB; decide)) (fun cy => cell1 (isB_kd (by unfold isB; decide)).2.2.1) rfl rfl rfl (Nat.le_of_ble_eq_true rfl) ⟨Nat.le_of_ble_eq_true rfl, Nat.le_of_ble_eq_true rfl⟩ dX2_execute_122 ⟨Nat.le_of_ble_eq_true rfl, Nat.le_of_ble_eq_true rfl⟩ rfl ?_
  refine ro_pop (q := 126) hX dX2_execute_125 rfl rfl ?_
  refine ro_goto (tgt := 225) hX dX2_execute_126 (by decide) ?_
  refine ro_iconst (v := nI 1) (q := 226) hX dX2_execute_225 rfl rfl ?_
  exact fin_z hF (Nat.le_of_ble_eq_true rfl) (Nat.le_of_ble_eq_true rfl) dX2_execute_226 rfl (by rfl) (by rfl)
set_option maxRecDepth 20000 in
set_option maxHeartbeats 2000000 in
theorem x_exec_119_0 {p : Nat} (hp : p < 30) {y : Int32} (hc : reS f p = false) : Does sz I_X2_execute [.ref (sz + 0), .int (nI 119), .int (nI p), .int y] (patch G 1 7 f, T) 0 0 (.inl (some (nI 0))) (patch G 1 7 f, T) := by
  refine Does.of (L := [(0, .ref (sz + 0)), (1, .int (nI 119)), (2, .int (nI p)), (3, .int y)]) (by decide +kernel) (Nat.le_of_ble_eq_true rfl) rfl ⟨rfl, (by simp), ⟨rfl, (by simp), ⟨rfl, (by simp), ⟨rfl, (by simp), trivial⟩⟩⟩⟩ (fun VV hF => ?_)
  have hX := hF.c
  refine ro_aload_n (i := 0) (q := 1) hX dX2_execute_0 rfl rfl rfl ?_
  refine ro_iload_n (i := 1) (q := 2) hX dX2_execute_1 rfl rfl rfl ?_
  refine ro_iload_n (i := 2) (q := 3) hX dX2_execute_2 rfl rfl rfl ?_
  refine ro_callVi (q9 := 6) hX (x_allowed_119 hp) mw_X2_isAllowed kl_X2_244 (by decide) (fun cy => cell2 (by decide +kernel)) rfl rfl rfl (Nat.le_of_ble_eq_true rfl) ⟨Nat.le_of_ble_eq_true rfl, Nat.le_of_ble_eq_true rfl⟩ dX2_execute_3 ⟨Nat.le_of_ble_eq_true rfl, Nat.le_of_ble_eq_true rfl⟩ rfl ?_
  refine ro_ifb_ne (tgt := 11) (q := 9) hX dX2_execute_6 (by decide) rfl (fun q => absurd q (by rw [hc]; decide)) (fun _ => ?_)
  refine ro_iconst (v := nI 0) (q := 10) hX dX2_execute_9 rfl rfl ?_
  exact fin_z hF (Nat.le_of_ble_eq_true rfl) (Nat.le_of_ble_eq_true rfl) dX2_execute_10 rfl (by rfl) (by rfl)
set_option maxRecDepth 20000 in
set_option maxHeartbeats 2000000 in
theorem x_exec_119_1 {p : Nat} (hp : p < 30) {y : Int32} (hc : reS f p = true) : Does sz I_X2_execute [.ref (sz + 0), .int (nI 119), .int (nI p), .int y] (patch G 1 7 f, T) 0 0 (.inl (some (nI 1))) (patch G 1 7 (owG f p y), T) := by
  refine Does.of (L := [(0, .ref (sz + 0)), (1, .int (nI 119)), (2, .int (nI p)), (3, .int y)]) (by decide +kernel) (Nat.le_of_ble_eq_true rfl) rfl ⟨rfl, (by simp), ⟨rfl, (by simp), ⟨rfl, (by simp), ⟨rfl, (by simp), trivial⟩⟩⟩⟩ (fun VV hF => ?_)
  have hX := hF.c
  refine ro_aload_n (i := 0) (q := 1) hX dX2_execute_0 rfl rfl rfl ?_
  refine ro_iload_n (i := 1) (q := 2) hX dX2_execute_1 rfl rfl rfl ?_
  refine ro_iload_n (i := 2) (q := 3) hX dX2_execute_2 rfl rfl rfl ?_
  refine ro_callVi (q9 := 6) hX (x_allowed_119 hp) mw_X2_isAllowed kl_X2_244 (by decide) (fun cy => cell2 (by decide +kernel)) rfl rfl rfl (Nat.le_of_ble_eq_true rfl) ⟨Nat.le_of_ble_eq_true rfl, Nat.le_of_ble_eq_true rfl⟩ dX2_execute_3 ⟨Nat.le_of_ble_eq_true rfl, Nat.le_of_ble_eq_true rfl⟩ rfl ?_
  refine ro_ifb_ne (tgt := 11) (q := 9) hX dX2_execute_6 (by decide) rfl (fun _ => ?_) (fun q => absurd q (by rw [hc]; decide))
  refine ro_iload_n (i := 1) (q := 12) hX dX2_execute_11 rfl rfl rfl ?_
  refine ro_tableIn (tgt := 129) (off := 117) hX dX2_execute_12 (by decide) (by decide) (by decide +kernel) (by decide) ?_
  refine ro_aload_n (i := 0) (q := 130) hX dX2_execute_129 rfl rfl rfl ?_
  refine ro_Pga0 (q9 := 133) hX kf_X2_12 dX2_execute_130 rfl ?_
  refine ro_iload_n (i := 2) (q := 134) hX dX2_execute_133 rfl rfl rfl ?_
  refine ro_iload_n (i := 3) (q := 135) hX dX2_execute_134 rfl rfl rfl ?_
  refine ro_callVi (q9 := 138) hX (s_overwritePage (by unfold isB; decide) hp) mw_X1_overwritePage kl_X2_73 (isB_lt (by unfold isB; decide)) (fun cy => cell1 (isB_kd (by unfold isB; decide)).2.2.1) rfl rfl rfl (Nat.le_of_ble_eq_true rfl) ⟨Nat.le_of_ble_eq_true rfl, Nat.le_of_ble_eq_true rfl⟩ dX2_execute_135 ⟨Nat.le_of_ble_eq_true rfl, Nat.le_of_ble_eq_true rfl⟩ rfl ?_
  refine ro_pop (q := 139) hX dX2_execute_138 rfl rfl ?_
  refine ro_goto (tgt := 225) hX dX2_execute_139 (by decide) ?_
  refine ro_iconst (v := nI 1) (q := 226) hX dX2_execute_225 rfl rfl ?_
  exact fin_z hF (Nat.le_of_ble_eq_true rfl) (Nat.le_of_ble_eq_true rfl) dX2_execute_226 rfl (by rfl) (by rfl)
set_option maxRecDepth 20000 in
set_option maxHeartbeats 2000000 in
theorem x_exec_100_0 {p : Nat} (hp : p < 30) {y : Int32} (hc : exS f p = false) : Does sz I_X2_execute [.ref (sz + 0), .int (nI 100), .int (nI p), .int y] (patch G 1 7 f, T) 0 0 (.inl (some (nI 0))) (patch G 1 7 f, T) := by
  refine Does.of (L := [(0, .ref (sz + 0)), (1, .int (nI 100)), (2, .int (nI p)), (3, .int y)]) (by decide +kernel) (Nat.le_of_ble_eq_true rfl) rfl ⟨rfl, (by simp), ⟨rfl, (by simp), ⟨rfl, (by simp), ⟨rfl, (by simp), trivial⟩⟩⟩⟩ (fun VV hF => ?_)
  have hX := hF.c
  refine ro_aload_n (i := 0) (q := 1) hX dX2_execute_0 rfl rfl rfl ?_
  refine ro_iload_n (i := 1) (q := 2) hX dX2_execute_1 rfl rfl rfl ?_
  refine ro_iload_n (i := 2) (q := 3) hX dX2_execute_2 rfl rfl rfl ?_
  refine ro_callVi (q9 := 6) hX (x_allowed_100 hp) mw_X2_isAllowed kl_X2_244 (by decide) (fun cy => cell2 (by decide +kernel)) rfl rfl rfl (Nat.le_of_ble_eq_true rfl) ⟨Nat.le_of_ble_eq_true rfl, Nat.le_of_ble_eq_true rfl⟩ dX2_execute_3 ⟨Nat.le_of_ble_eq_true rfl, Nat.le_of_ble_eq_true rfl⟩ rfl ?_
  refine ro_ifb_ne (tgt := 11) (q := 9) hX dX2_execute_6 (by decide) rfl (fun q => absurd q (by rw [hc]; decide)) (fun _ => ?_)
  refine ro_iconst (v := nI 0) (q := 10) hX dX2_execute_9 rfl rfl ?_
  exact fin_z hF (Nat.le_of_ble_eq_true rfl) (Nat.le_of_ble_eq_true rfl) dX2_execute_10 rfl (by rfl) (by rfl)
set_option maxRecDepth 20000 in
set_option maxHeartbeats 2000000 in
theorem x_exec_100_1 {p : Nat} (hp : p < 30) {y : Int32} (hc : exS f p = true) : Does sz I_X2_execute [.ref (sz + 0), .int (nI 100), .int (nI p), .int y] (patch G 1 7 f, T) 0 0 (.inl (some (nI 1))) (patch G 1 7 (drG f p), T) := by
  refine Does.of (L := [(0, .ref (sz + 0)), (1, .int (nI 100)), (2, .int (nI p)), (3, .int y)]) (by decide +kernel) (Nat.le_of_ble_eq_true rfl) rfl ⟨rfl, (by simp), ⟨rfl, (by simp), ⟨rfl, (by simp), ⟨rfl, (by simp), trivial⟩⟩⟩⟩ (fun VV hF => ?_)
  have hX := hF.c
  refine ro_aload_n (i := 0) (q := 1) hX dX2_execute_0 rfl rfl rfl ?_
  refine ro_iload_n (i := 1) (q := 2) hX dX2_execute_1 rfl rfl rfl ?_
  refine ro_iload_n (i := 2) (q := 3) hX dX2_execute_2 rfl rfl rfl ?_
  refine ro_callVi (q9 := 6) hX (x_allowed_100 hp) mw_X2_isAllowed kl_X2_244 (by decide) (fun cy => cell2 (by decide +kernel)) rfl rfl rfl (Nat.le_of_ble_eq_true rfl) ⟨Nat.le_of_ble_eq_true rfl, Nat.le_of_ble_eq_true rfl⟩ dX2_execute_3 ⟨Nat.le_of_ble_eq_true rfl, Nat.le_of_ble_eq_true rfl⟩ rfl ?_
  refine ro_ifb_ne (tgt := 11) (q := 9) hX dX2_execute_6 (by decide) rfl (fun _ => ?_) (fun q => absurd q (by rw [hc]; decide))
  refine ro_iload_n (i := 1) (q := 12) hX dX2_execute_11 rfl rfl rfl ?_
  refine ro_tableIn (tgt := 142) (off := 130) hX dX2_execute_12 (by decide) (by decide) (by decide +kernel) (by decide) ?_
  refine ro_aload_n (i := 0) (q := 143) hX dX2_execute_142 rfl rfl rfl ?_
  refine ro_Pga0 (q9 := 146) hX kf_X2_12 dX2_execute_143 rfl ?_
  refine ro_iload_n (i := 2) (q := 147) hX dX2_execute_146 rfl rfl rfl ?_
  refine ro_callVi (q9 := 150) hX (s_dropPage (by unfold isB; decide) hp) mw_X1_dropPage kl_X2_83 (isB_lt (by unfold isB; decide)) (fun cy => cell1 (isB_kd (by unfold isB; decide)).2.2.1) rfl rfl rfl (Nat.le_of_ble_eq_true rfl) ⟨Nat.le_of_ble_eq_true rfl, Nat.le_of_ble_eq_true rfl⟩ dX2_execute_147 ⟨Nat.le_of_ble_eq_true rfl, Nat.le_of_ble_eq_true rfl⟩ rfl ?_
  refine ro_pop (q := 151) hX dX2_execute_150 rfl rfl ?_
  refine ro_goto (tgt := 225) hX dX2_execute_151 (by decide) ?_
  refine ro_iconst (v := nI 1) (q := 226) hX dX2_execute_225 rfl rfl ?_
  exact fin_z hF (Nat.le_of_ble_eq_true rfl) (Nat.le_of_ble_eq_true rfl) dX2_execute_226 rfl (by rfl) (by rfl)
set_option maxRecDepth 20000 in
set_option maxHeartbeats 2000000 in
theorem x_exec_108_0 {h : Nat} (hh : h < 6) {y : Int32} (hc : cbegS f h = false) : Does sz I_X2_execute [.ref (sz + 0), .int (nI 108), .int (nI h), .int y] (patch G 1 7 f, T) 0 0 (.inl (some (nI 0))) (patch G 1 7 f, T) := by
  refine Does.of (L := [(0, .ref (sz + 0)), (1, .int (nI 108)), (2, .int (nI h)), (3, .int y)]) (by decide +kernel) (Nat.le_of_ble_eq_true rfl) rfl ⟨rfl, (by simp), ⟨rfl, (by simp), ⟨rfl, (by simp), ⟨rfl, (by simp), trivial⟩⟩⟩⟩ (fun VV hF => ?_)
  have hX := hF.c
  refine ro_aload_n (i := 0) (q := 1) hX dX2_execute_0 rfl rfl rfl ?_
  refine ro_iload_n (i := 1) (q := 2) hX dX2_execute_1 rfl rfl rfl ?_
  refine ro_iload_n (i := 2) (q := 3) hX dX2_execute_2 rfl rfl rfl ?_
  refine ro_callVi (q9 := 6) hX (x_allowed_108 hh) mw_X2_isAllowed kl_X2_244 (by decide) (fun cy => cell2 (by decide +kernel)) rfl rfl rfl (Nat.le_of_ble_eq_true rfl) ⟨Nat.le_of_ble_eq_true rfl, Nat.le_of_ble_eq_true rfl⟩ dX2_execute_3 ⟨Nat.le_of_ble_eq_true rfl, Nat.le_of_ble_eq_true rfl⟩ rfl ?_
  refine ro_ifb_ne (tgt := 11) (q := 9) hX dX2_execute_6 (by decide) rfl (fun q => absurd q (by rw [hc]; decide)) (fun _ => ?_)
  refine ro_iconst (v := nI 0) (q := 10) hX dX2_execute_9 rfl rfl ?_
  exact fin_z hF (Nat.le_of_ble_eq_true rfl) (Nat.le_of_ble_eq_true rfl) dX2_execute_10 rfl (by rfl) (by rfl)
set_option maxRecDepth 20000 in
set_option maxHeartbeats 2000000 in
theorem x_exec_108_1 {h : Nat} (hh : h < 6) {y : Int32} (hc : cbegS f h = true) : Does sz I_X2_execute [.ref (sz + 0), .int (nI 108), .int (nI h), .int y] (patch G 1 7 f, T) 0 0 (.inl (some (nI 1))) (patch G 1 7 (seS (beG f h y)), T) := by
  refine Does.of (L := [(0, .ref (sz + 0)), (1, .int (nI 108)), (2, .int (nI h)), (3, .int y)]) (by decide +kernel) (Nat.le_of_ble_eq_true rfl) rfl ⟨rfl, (by simp), ⟨rfl, (by simp), ⟨rfl, (by simp), ⟨rfl, (by simp), trivial⟩⟩⟩⟩ (fun VV hF => ?_)
  have hX := hF.c
  refine ro_aload_n (i := 0) (q := 1) hX dX2_execute_0 rfl rfl rfl ?_
  refine ro_iload_n (i := 1) (q := 2) hX dX2_execute_1 rfl rfl rfl ?_
  refine ro_iload_n (i := 2) (q := 3) hX dX2_execute_2 rfl rfl rfl ?_
  refine ro_callVi (q9 := 6) hX (x_allowed_108 hh) mw_X2_isAllowed kl_X2_244 (by decide) (fun cy => cell2 (by decide +kernel)) rfl rfl rfl (Nat.le_of_ble_eq_true rfl) ⟨Nat.le_of_ble_eq_true rfl, Nat.le_of_ble_eq_true rfl⟩ dX2_execute_3 ⟨Nat.le_of_ble_eq_true rfl, Nat.le_of_ble_eq_true rfl⟩ rfl ?_
  refine ro_ifb_ne (tgt := 11) (q := 9) hX dX2_execute_6 (by decide) rfl (fun _ => ?_) (fun q => absurd q (by rw [hc]; decide))
  refine ro_iload_n (i := 1) (q := 12) hX dX2_execute_11 rfl rfl rfl ?_
  refine ro_tableIn (tgt := 154) (off := 142) hX dX2_execute_12 (by decide) (by decide) (by decide +kernel) (by decide) ?_
  refine ro_aload_n (i := 0) (q := 155) hX dX2_execute_154 rfl rfl rfl ?_
  refine ro_Pga0 (q9 := 158) hX kf_X2_12 dX2_execute_155 rfl ?_
  refine ro_iload_n (i := 2) (q := 159) hX dX2_execute_158 rfl rfl rfl ?_
  refine ro_iload_n (i := 3) (q := 160) hX dX2_execute_159 rfl rfl rfl ?_
  refine ro_callVi (q9 := 163) hX (s_beginLending (by unfold isB; decide) hh) mw_X1_beginLending kl_X2_93 (isB_lt (by unfold isB; decide)) (fun cy => cell1 (isB_kd (by unfold isB; decide)).2.2.1) rfl rfl rfl (Nat.le_of_ble_eq_true rfl) ⟨Nat.le_of_ble_eq_true rfl, Nat.le_of_ble_eq_true rfl⟩ dX2_execute_160 ⟨Nat.le_of_ble_eq_true rfl, Nat.le_of_ble_eq_true rfl⟩ rfl ?_
  refine ro_pop (q := 164) hX dX2_execute_163 rfl rfl ?_
  refine ro_goto (tgt := 225) hX dX2_execute_164 (by decide) ?_
  refine ro_iconst (v := nI 1) (q := 226) hX dX2_execute_225 rfl rfl ?_
  exact fin_z hF (Nat.le_of_ble_eq_true rfl) (Nat.le_of_ble_eq_true rfl) dX2_execute_226 rfl (by rfl) (by rfl)
set_option maxRecDepth 20000 in
set_option maxHeartbeats 2000000 in
theorem x_exec_114_0 {h : Nat} (hh : h < 6) {y : Int32} (hc : opS f h = false) : Does sz I_X2_execute [.ref (sz + 0), .int (nI 114), .int (nI h), .int y] (patch G 1 7 f, T) 0 0 (.inl (some (nI 0))) (patch G 1 7 f, T) := by
  refine Does.of (L := [(0, .ref (sz + 0)), (1, .int (nI 114)), (2, .int (nI h)), (3, .int y)]) (by decide +kernel) (Nat.le_of_ble_eq_true rfl) rfl ⟨rfl, (by simp), ⟨rfl, (by simp), ⟨rfl, (by simp), ⟨rfl, (by simp), trivial⟩⟩⟩⟩ (fun VV hF => ?_)
  have hX := hF.c
  refine ro_aload_n (i := 0) (q := 1) hX dX2_execute_0 rfl rfl rfl ?_
  refine ro_iload_n (i := 1) (q := 2) hX dX2_execute_1 rfl rfl rfl ?_
  refine ro_iload_n (i := 2) (q := 3) hX dX2_execute_2 rfl rfl rfl ?_
  refine ro_callVi (q9 := 6) hX (x_allowed_114 hh) mw_X2_isAllowed kl_X2_244 (by decide) (fun cy => cell2 (by decide +kernel)) rfl rfl rfl (Nat.le_of_ble_eq_true rfl) ⟨Nat.le_of_ble_eq_true rfl, Nat.le_of_ble_eq_true rfl⟩ dX2_execute_3 ⟨Nat.le_of_ble_eq_true rfl, Nat.le_of_ble_eq_true rfl⟩ rfl ?_
  refine ro_ifb_ne (tgt := 11) (q := 9) hX dX2_execute_6 (by decide) rfl (fun q => absurd q (by rw [hc]; decide)) (fun _ => ?_)
  refine ro_iconst (v := nI 0) (q := 10) hX dX2_execute_9 rfl rfl ?_
  exact fin_z hF (Nat.le_of_ble_eq_true rfl) (Nat.le_of_ble_eq_true rfl) dX2_execute_10 rfl (by rfl) (by rfl)
set_option maxRecDepth 20000 in
set_option maxHeartbeats 2000000 in
theorem x_exec_114_1 {h : Nat} (hh : h < 6) {y : Int32} (hc : opS f h = true) : Does sz I_X2_execute [.ref (sz + 0), .int (nI 114), .int (nI h), .int y] (patch G 1 7 f, T) 0 0 (.inl (some (nI 1))) (patch G 1 7 (cbG f h y), T) := by
  refine Does.of (L := [(0, .ref (sz + 0)), (1, .int (nI 114)), (2, .int (nI h)), (3, .int y)]) (by decide +kernel) (Nat.le_of_ble_eq_true rfl) rfl ⟨rfl, (by simp), ⟨rfl, (by simp), ⟨rfl, (by simp), ⟨rfl, (by simp), trivial⟩⟩⟩⟩ (fun VV hF => ?_)
  have hX := hF.c
  refine ro_aload_n (i := 0) (q := 1) hX dX2_execute_0 rfl rfl rfl ?_
  refine ro_iload_n (i := 1) (q := 2) hX dX2_execute_1 rfl rfl rfl ?_
  refine ro_iload_n (i := 2) (q := 3) hX dX2_execute_2 rfl rfl rfl ?_
  refine ro_callVi (q9 := 6) hX (x_allowed_114 hh) mw_X2_isAllowed kl_X2_244 (by decide) (fun cy => cell2 (by decide +kernel)) rfl rfl rfl (Nat.le_of_ble_eq_true rfl) ⟨Nat.le_of_ble_eq_true rfl, Nat.le_of_ble_eq_true rfl⟩ dX2_execute_3 ⟨Nat.le_of_ble_eq_true rfl, Nat.le_of_ble_eq_true rfl⟩ rfl ?_
  refine ro_ifb_ne (tgt := 11) (q := 9) hX dX2_execute_6 (by decide) rfl (fun _ => ?_) (fun q => absurd q (by rw [hc]; decide))
  refine ro_iload_n (i := 1) (q := 12) hX dX2_execute_11 rfl rfl rfl ?_
  refine ro_tableIn (tgt := 167) (off := 155) hX dX2_execute_12 (by decide) (by decide) (by decide +kernel) (by decide) ?_
  refine ro_aload_n (i := 0) (q := 168) hX dX2_execute_167 rfl rfl rfl ?_
  refine ro_Pga0 (q9 := 171) hX kf_X2_12 dX2_execute_168 rfl ?_
  refine ro_iload_n (i := 2) (q := 172) hX dX2_execute_171 rfl rfl rfl ?_
  refine ro_iload_n (i := 3) (q := 173) hX dX2_execute_172 rfl rfl rfl ?_
  refine ro_callVi (q9 := 176) hX (s_callBack (by unfold isB; decide) hh) mw_X1_callBack kl_X2_99 (isB_lt (by unfold isB; decide)) (fun cy => cell1 (isB_kd (by unfold isB; decide)).2.2.1) rfl rfl rfl (Nat.le_of_ble_eq_true rfl) ⟨Nat.le_of_ble_eq_true rfl, Nat.le_of_ble_eq_true rfl⟩ dX2_execute_173 ⟨Nat.le_of_ble_eq_true rfl, Nat.le_of_ble_eq_true rfl⟩ rfl ?_
  refine ro_pop (q := 177) hX dX2_execute_176 rfl rfl ?_
  refine ro_goto (tgt := 225) hX dX2_execute_177 (by decide) ?_
  refine ro_iconst (v := nI 1) (q := 226) hX dX2_execute_225 rfl rfl ?_
  exact fin_z hF (Nat.le_of_ble_eq_true rfl) (Nat.le_of_ble_eq_true rfl) dX2_execute_226 rfl (by rfl) (by rfl)
set_option maxRecDepth 20000 in
set_option maxHeartbeats 2000000 in
theorem x_exec_111_0 {h : Nat} (hh : h < 6) {y : Int32} (hc : cdetS f h = false) : Does sz I_X2_execute [.ref (sz + 0), .int (nI 111), .int (nI h), .int y] (patch G 1 7 f, T) 0 0 (.inl (some (nI 0))) (patch G 1 7 f, T) := by
  refine Does.of (L := [(0, .ref (sz + 0)), (1, .int (nI 111)), (2, .int (nI h)), (3, .int y)]) (by decide +kernel) (Nat.le_of_ble_eq_true rfl) rfl ⟨rfl, (by simp), ⟨rfl, (by simp), ⟨rfl, (by simp), ⟨rfl, (by simp), trivial⟩⟩⟩⟩ (fun VV hF => ?_)
  have hX := hF.c
  refine ro_aload_n (i := 0) (q := 1) hX dX2_execute_0 rfl rfl rfl ?_
  refine ro_iload_n (i := 1) (q := 2) hX dX2_execute_1 rfl rfl rfl ?_
  refine ro_iload_n (i := 2) (q := 3) hX dX2_execute_2 rfl rfl rfl ?_
  refine ro_callVi (q9 := 6) hX (x_allowed_111 hh) mw_X2_isAllowed kl_X2_244 (by decide) (fun cy => cell2 (by decide +kernel)) rfl rfl rfl (Nat.le_of_ble_eq_true rfl) ⟨Nat.le_of_ble_eq_true rfl, Nat.le_of_ble_eq_true rfl⟩ dX2_execute_3 ⟨Nat.le_of_ble_eq_true rfl, Nat.le_of_ble_eq_true rfl⟩ rfl ?_
  refine ro_ifb_ne (tgt := 11) (q := 9) hX dX2_execute_6 (by decide) rfl (fun q => absurd q (by rw [hc]; decide)) (fun _ => ?_)
  refine ro_iconst (v := nI 0) (q := 10) hX dX2_execute_9 rfl rfl ?_
  exact fin_z hF (Nat.le_of_ble_eq_true rfl) (Nat.le_of_ble_eq_true rfl) dX2_execute_10 rfl (by rfl) (by rfl)
set_option maxRecDepth 20000 in
set_option maxHeartbeats 2000000 in
theorem x_exec_111_1 {h : Nat} (hh : h < 6) {y : Int32} (hc : cdetS f h = true) : Does sz I_X2_execute [.ref (sz + 0), .int (nI 111), .int (nI h), .int y] (patch G 1 7 f, T) 0 0 (.inl (some (nI 1))) (patch G 1 7 (deG f h), T) := by
  refine Does.of (L := [(0, .ref (sz + 0)), (1, .int (nI 111)), (2, .int (nI h)), (3, .int y)]) (by decide +kernel) (Nat.le_of_ble_eq_true rfl) rfl ⟨rfl, (by simp), ⟨rfl, (by simp), ⟨rfl, (by simp), ⟨rfl, (by simp), trivial⟩⟩⟩⟩ (fun VV hF => ?_)
  have hX := hF.c
  refine ro_aload_n (i := 0) (q := 1) hX dX2_execute_0 rfl rfl rfl ?_
  refine ro_iload_n (i := 1) (q := 2) hX dX2_execute_1 rfl rfl rfl ?_
  refine ro_iload_n (i := 2) (q := 3) hX dX2_execute_2 rfl rfl rfl ?_
  refine ro_callVi (q9 := 6) hX (x_allowed_111 hh) mw_X2_isAllowed kl_X2_244 (by decide) (fun cy => cell2 (by decide +kernel)) rfl rfl rfl (Nat.le_of_ble_eq_true rfl) ⟨Nat.le_of_ble_eq_true rfl, Nat.le_of_ble_eq_true rfl⟩ dX2_execute_3 ⟨Nat.le_of_ble_eq_true rfl, Nat.le_of_ble_eq_true rfl⟩ rfl ?_
  refine ro_ifb_ne (tgt := 11) (q := 9) hX dX2_execute_6 (by decide) rfl (fun _ => ?_) (fun q => absurd q (by rw [hc]; decide))
  refine ro_iload_n (i := 1) (q := 12) hX dX2_execute_11 rfl rfl rfl ?_
  refine ro_tableIn (tgt := 180) (off := 168) hX dX2_execute_12 (by decide) (by decide) (by decide +kernel) (by decide) ?_
  refine ro_aload_n (i := 0) (q := 181) hX dX2_execute_180 rfl rfl rfl ?_
  refine ro_Pga0 (q9 := 184) hX kf_X2_12 dX2_execute_181 rfl ?_
  refine ro_iload_n (i := 2) (q := 185) hX dX2_execute_184 rfl rfl rfl ?_
  refine ro_callVi (q9 := 188) hX (s_detach (by unfold isB; decide) hh) mw_X1_detach kl_X2_105 (isB_lt (by unfold isB; decide)) (fun cy => cell1 (isB_kd (by unfold isB; decide)).2.2.1) rfl rfl rfl (Nat.le_of_ble_eq_true rfl) ⟨Nat.le_of_ble_eq_true rfl, Nat.le_of_ble_eq_true rfl⟩ dX2_execute_185 ⟨Nat.le_of_ble_eq_true rfl, Nat.le_of_ble_eq_true rfl⟩ rfl ?_
  refine ro_pop (q := 189) hX dX2_execute_188 rfl rfl ?_
  refine ro_goto (tgt := 225) hX dX2_execute_189 (by decide) ?_
  refine ro_iconst (v := nI 1) (q := 226) hX dX2_execute_225 rfl rfl ?_
  exact fin_z hF (Nat.le_of_ble_eq_true rfl) (Nat.le_of_ble_eq_true rfl) dX2_execute_226 rfl (by rfl) (by rfl)
set_option maxRecDepth 20000 in
set_option maxHeartbeats 2000000 in
theorem x_exec_99_0 {h : Nat} (hh : h < 6) {y : Int32} (hc : cattS f h = false) : Does sz I_X2_execute [.ref (sz + 0), .int (nI 99), .int (nI h), .int y] (patch G 1 7 f, T) 0 0 (.inl (some (nI 0))) (patch G 1 7 f, T) := by
  refine Does.of (L := [(0, .ref (sz + 0)), (1, .int (nI 99)), (2, .int (nI h)), (3, .int y)]) (by decide +kernel) (Nat.le_of_ble_eq_true rfl) rfl ⟨rfl, (by simp), ⟨rfl, (by simp), ⟨rfl, (by simp), ⟨rfl, (by simp), trivial⟩⟩⟩⟩ (fun VV hF => ?_)
  have hX := hF.c
  refine ro_aload_n (i := 0) (q := 1) hX dX2_execute_0 rfl rfl rfl ?_
  refine ro_iload_n (i := 1) (q := 2) hX dX2_execute_1 rfl rfl rfl ?_
  refine ro_iload_n (i := 2) (q := 3) hX dX2_execute_2 rfl rfl rfl ?_
  refine ro_callVi (q9 := 6) hX (x_allowed_99 hh) mw_X2_isAllowed kl_X2_244 (by decide) (fun cy => cell2 (by decide +kernel)) rfl rfl rfl (Nat.le_of_ble_eq_true rfl) ⟨Nat.le_of_ble_eq_true rfl, Nat.le_of_ble_eq_true rfl⟩ dX2_execute_3 ⟨Nat.le_of_ble_eq_true rfl, Nat.le_of_ble_eq_true rfl⟩ rfl ?_
  refine ro_ifb_ne (tgt := 11) (q := 9) hX dX2_execute_6 (by decide) rfl (fun q => absurd q (by rw [hc]; decide)) (fun _ => ?_)
  refine ro_iconst (v := nI 0) (q := 10) hX dX2_execute_9 rfl rfl ?_
  exact fin_z hF (Nat.le_of_ble_eq_true rfl) (Nat.le_of_ble_eq_true rfl) dX2_execute_10 rfl (by rfl) (by rfl)
set_option maxRecDepth 20000 in
set_option maxHeartbeats 2000000 in
theorem x_exec_99_1 {h : Nat} (hh : h < 6) {y : Int32} (hc : cattS f h = true) : Does sz I_X2_execute [.ref (sz + 0), .int (nI 99), .int (nI h), .int y] (patch G 1 7 f, T) 0 0 (.inl (some (nI 1))) (patch G 1 7 (atG f h), T) := by
  refine Does.of (L := [(0, .ref (sz + 0)), (1, .int (nI 99)), (2, .int (nI h)), (3, .int y)]) (by decide +kernel) (Nat.le_of_ble_eq_true rfl) rfl ⟨rfl, (by simp), ⟨rfl, (by simp), ⟨rfl, (by simp), ⟨rfl, (by simp), trivial⟩⟩⟩⟩ (fun VV hF => ?_)
  have hX := hF.c
  refine ro_aload_n (i := 0) (q := 1) hX dX2_execute_0 rfl rfl rfl ?_
  refine ro_iload_n (i := 1) (q := 2) hX dX2_execute_1 rfl rfl rfl ?_
  refine ro_iload_n (i := 2) (q := 3) hX dX2_execute_2 rfl rfl rfl ?_
  refine ro_callVi (q9 := 6) hX (x_allowed_99 hh) mw_X2_isAllowed kl_X2_244 (by decide) (fun cy => cell2 (by decide +kernel)) rfl rfl rfl (Nat.le_of_ble_eq_true rfl) ⟨Nat.le_of_ble_eq_true rfl, Nat.le_of_ble_eq_true rfl⟩ dX2_execute_3 ⟨Nat.le_of_ble_eq_true rfl, Nat.le_of_ble_eq_true rfl⟩ rfl ?_
  refine ro_ifb_ne (tgt := 11) (q := 9) hX dX2_execute_6 (by decide) rfl (fun _ => ?_) (fun q => absurd q (by rw [hc]; decide))
  refine ro_iload_n (i := 1) (q := 12) hX dX2_execute_11 rfl rfl rfl ?_
  refine ro_tableIn (tgt := 192) (off := 180) hX dX2_execute_12 (by decide) (by decide) (by decide +kernel) (by decide) ?_
  refine ro_aload_n (i := 0) (q := 193) hX dX2_execute_192 rfl rfl rfl ?_
  refine ro_Pga0 (q9 := 196) hX kf_X2_12 dX2_execute_193 rfl ?_
  refine ro_iload_n (i := 2) (q := 197) hX dX2_execute_196 rfl rfl rfl ?_
  refine ro_callVi (q9 := 200) hX (s_attach (by unfold isB; decide) hh) mw_X1_attach kl_X2_111 (isB_lt (by unfold isB; decide)) (fun cy => cell1 (isB_kd (by unfold isB; decide)).2.2.1) rfl rfl rfl (Nat.le_of_ble_eq_true rfl) ⟨Nat.le_of_ble_eq_true rfl, Nat.le_of_ble_eq_true rfl⟩ dX2_execute_197 ⟨Nat.le_of_ble_eq_true rfl, Nat.le_of_ble_eq_true rfl⟩ rfl ?_
  refine ro_pop (q := 201) hX dX2_execute_200 rfl rfl ?_
  refine ro_goto (tgt := 225) hX dX2_execute_201 (by decide) ?_
  refine ro_iconst (v := nI 1) (q := 226) hX dX2_execute_225 rfl rfl ?_
  exact fin_z hF (Nat.le_of_ble_eq_true rfl) (Nat.le_of_ble_eq_true rfl) dX2_execute_226 rfl (by rfl) (by rfl)
set_option maxRecDepth 20000 in
set_option maxHeartbeats 2000000 in
theorem x_exec_120_0 {h : Nat} (hh : h < 6) {y : Int32} (hc : cbrkS f h = false) : Does sz I_X2_execute [.ref (sz + 0), .int (nI 120), .int (nI h), .int y] (patch G 1 7 f, T) 0 0 (.inl (some (nI 0))) (patch G 1 7 f, T) := by
  refine Does.of (L := [(0, .ref (sz + 0)), (1, .int (nI 120)), (2, .int (nI h)), (3, .int y)]) (by decide +kernel) (Nat.le_of_ble_eq_true rfl) rfl ⟨rfl, (by simp), ⟨rfl, (by simp), ⟨rfl, (by simp), ⟨rfl, (by simp), trivial⟩⟩⟩⟩ (fun VV hF => ?_)
  have hX := hF.c
  refine ro_aload_n (i := 0) (q := 1) hX dX2_execute_0 rfl rfl rfl ?_
  refine ro_iload_n (i := 1) (q := 2) hX dX2_execute_1 rfl rfl rfl ?_
  refine ro_iload_n (i := 2) (q := 3) hX dX2_execute_2 rfl rfl rfl ?_
  refine ro_callVi (q9 := 6) hX (x_allowed_120 hh) mw_X2_isAllowed kl_X2_244 (by decide) (fun cy => cell2 (by decide +kernel)) rfl rfl rfl (Nat.le_of_ble_eq_true rfl) ⟨Nat.le_of_ble_eq_true rfl, Nat.le_of_ble_eq_true rfl⟩ dX2_execute_3 ⟨Nat.le_of_ble_eq_true rfl, Nat.le_of_ble_eq_true rfl⟩ rfl ?_
  refine ro_ifb_ne (tgt := 11) (q := 9) hX dX2_execute_6 (by decide) rfl (fun q => absurd q (by rw [hc]; decide)) (fun _ => ?_)
  refine ro_iconst (v := nI 0) (q := 10) hX dX2_execute_9 rfl rfl ?_
  exact fin_z hF (Nat.le_of_ble_eq_true rfl) (Nat.le_of_ble_eq_true rfl) dX2_execute_10 rfl (by rfl) (by rfl)
set_option maxRecDepth 20000 in
set_option maxHeartbeats 2000000 in
theorem x_exec_120_1 {h : Nat} (hh : h < 6) {y : Int32} (hc : cbrkS f h = true) : Does sz I_X2_execute [.ref (sz + 0), .int (nI 120), .int (nI h), .int y] (patch G 1 7 f, T) 0 0 (.inl (some (nI 1))) (patch G 1 7 (brG f h), T) := by
  refine Does.of (L := [(0, .ref (sz + 0)), (1, .int (nI 120)), (2, .int (nI h)), (3, .int y)]) (by decide +kernel) (Nat.le_of_ble_eq_true rfl) rfl ⟨rfl, (by simp), ⟨rfl, (by simp), ⟨rfl, (by simp), ⟨rfl, (by simp), trivial⟩⟩⟩⟩ (fun VV hF => ?_)
  have hX := hF.c
  refine ro_aload_n (i := 0) (q := 1) hX dX2_execute_0 rfl rfl rfl ?_
  refine ro_iload_n (i := 1) (q := 2) hX dX2_execute_1 rfl rfl rfl ?_
  refine ro_iload_n (i := 2) (q := 3) hX dX2_execute_2 rfl rfl rfl ?_
  refine ro_callVi (q9 := 6) hX (x_allowed_120 hh) mw_X2_isAllowed kl_X2_244 (by decide) (fun cy => cell2 (by decide +kernel)) rfl rfl rfl (Nat.le_of_ble_eq_true rfl) ⟨Nat.le_of_ble_eq_true rfl, Nat.le_of_ble_eq_true rfl⟩ dX2_execute_3 ⟨Nat.le_of_ble_eq_true rfl, Nat.le_of_ble_eq_true rfl⟩ rfl ?_
  refine ro_ifb_ne (tgt := 11) (q := 9) hX dX2_execute_6 (by decide) rfl (fun _ => ?_) (fun q => absurd q (by rw [hc]; decide))
  refine ro_iload_n (i := 1) (q := 12) hX dX2_execute_11 rfl rfl rfl ?_
  refine ro_tableIn (tgt := 204) (off := 192) hX dX2_execute_12 (by decide) (by decide) (by decide +kernel) (by decide) ?_
  refine ro_aload_n (i := 0) (q := 205) hX dX2_execute_204 rfl rfl rfl ?_
  refine ro_Pga0 (q9 := 208) hX kf_X2_12 dX2_execute_205 rfl ?_
  refine ro_iload_n (i := 2) (q := 209) hX dX2_execute_208 rfl rfl rfl ?_
  refine ro_callVi (q9 := 212) hX (s_breakDown (by unfold isB; decide) hh) mw_X1_breakDown kl_X2_117 (isB_lt (by unfold isB; decide)) (fun cy => cell1 (isB_kd (by unfold isB; decide)).2.2.1) rfl rfl rfl (Nat.le_of_ble_eq_true rfl) ⟨Nat.le_of_ble_eq_true rfl, Nat.le_of_ble_eq_true rfl⟩ dX2_execute_209 ⟨Nat.le_of_ble_eq_true rfl, Nat.le_of_ble_eq_true rfl⟩ rfl ?_
  refine ro_pop (q := 213) hX dX2_execute_212 rfl rfl ?_
  refine ro_goto (tgt := 225) hX dX2_execute_213 (by decide) ?_
  refine ro_iconst (v := nI 1) (q := 226) hX dX2_execute_225 rfl rfl ?_
  exact fin_z hF (Nat.le_of_ble_eq_true rfl) (Nat.le_of_ble_eq_true rfl) dX2_execute_226 rfl (by rfl) (by rfl)
set_option maxRecDepth 20000 in
set_option maxHeartbeats 2000000 in
theorem x_exec_116_0 {k : Nat} (hk : k ≤ 600) {y : Int32} (hc : cadvS f (nI k) = false) : Does sz I_X2_execute [.ref (sz + 0), .int (nI 116), .int (nI k), .int y] (patch G 1 7 f, T) 0 0 (.inl (some (nI 0))) (patch G 1 7 f, T) := by
  refine Does.of (L := [(0, .ref (sz + 0)), (1, .int (nI 116)), (2, .int (nI k)), (3, .int y)]) (by decide +kernel) (Nat.le_of_ble_eq_true rfl) rfl ⟨rfl, (by simp), ⟨rfl, (by simp), ⟨rfl, (by simp), ⟨rfl, (by simp), trivial⟩⟩⟩⟩ (fun VV hF => ?_)
  have hX := hF.c
  refine ro_aload_n (i := 0) (q := 1) hX dX2_execute_0 rfl rfl rfl ?_
  refine ro_iload_n (i := 1) (q := 2) hX dX2_execute_1 rfl rfl rfl ?_
  refine ro_iload_n (i := 2) (q := 3) hX dX2_execute_2 rfl rfl rfl ?_
  refine ro_callVi (q9 := 6) hX (x_allowed_116 hk) mw_X2_isAllowed kl_X2_244 (by decide) (fun cy => cell2 (by decide +kernel)) rfl rfl rfl (Nat.le_of_ble_eq_true rfl) ⟨Nat.le_of_ble_eq_true rfl, Nat.le_of_ble_eq_true rfl⟩ dX2_execute_3 ⟨Nat.le_of_ble_eq_true rfl, Nat.le_of_ble_eq_true rfl⟩ rfl ?_
  refine ro_ifb_ne (tgt := 11) (q := 9) hX dX2_execute_6 (by decide) rfl (fun q => absurd q (by rw [hc]; decide)) (fun _ => ?_)
  refine ro_iconst (v := nI 0) (q := 10) hX dX2_execute_9 rfl rfl ?_
  exact fin_z hF (Nat.le_of_ble_eq_true rfl) (Nat.le_of_ble_eq_true rfl) dX2_execute_10 rfl (by rfl) (by rfl)
set_option maxRecDepth 20000 in
set_option maxHeartbeats 2000000 in
theorem x_exec_116_1 {k : Nat} (hk : k ≤ 600) {y : Int32} (hc : cadvS f (nI k) = true) : Does sz I_X2_execute [.ref (sz + 0), .int (nI 116), .int (nI k), .int y] (patch G 1 7 f, T) 0 0 (.inl (some (nI 1))) (patch G 1 7 (avG (f 0 8 + nI k) k f), T) := by
  refine Does.of (L := [(0, .ref (sz + 0)), (1, .int (nI 116)), (2, .int (nI k)), (3, .int y)]) (by decide +kernel) (Nat.le_of_ble_eq_true rfl) rfl ⟨rfl, (by simp), ⟨rfl, (by simp), ⟨rfl, (by simp), ⟨rfl, (by simp), trivial⟩⟩⟩⟩ (fun VV hF => ?_)
  have hX := hF.c
  refine ro_aload_n (i := 0) (q := 1) hX dX2_execute_0 rfl rfl rfl ?_
  refine ro_iload_n (i := 1) (q := 2) hX dX2_execute_1 rfl rfl rfl ?_
  refine ro_iload_n (i := 2) (q := 3) hX dX2_execute_2 rfl rfl rfl ?_
  refine ro_callVi (q9 := 6) hX (x_allowed_116 hk) mw_X2_isAllowed kl_X2_244 (by decide) (fun cy => cell2 (by decide +kernel)) rfl rfl rfl (Nat.le_of_ble_eq_true rfl) ⟨Nat.le_of_ble_eq_true rfl, Nat.le_of_ble_eq_true rfl⟩ dX2_execute_3 ⟨Nat.le_of_ble_eq_true rfl, Nat.le_of_ble_eq_true rfl⟩ rfl ?_
  refine ro_ifb_ne (tgt := 11) (q := 9) hX dX2_execute_6 (by decide) rfl (fun _ => ?_) (fun q => absurd q (by rw [hc]; decide))
  refine ro_iload_n (i := 1) (q := 12) hX dX2_execute_11 rfl rfl rfl ?_
  refine ro_tableIn (tgt := 216) (off := 204) hX dX2_execute_12 (by decide) (by decide) (by decide +kernel) (by decide) ?_
  refine ro_aload_n (i := 0) (q := 217) hX dX2_execute_216 rfl rfl rfl ?_
  refine ro_Pga0 (q9 := 220) hX kf_X2_12 dX2_execute_217 rfl ?_
  refine ro_iload_n (i := 2) (q := 221) hX dX2_execute_220 rfl rfl rfl ?_
  refine ro_callVi (q9 := 224) hX (s_advance (by unfold isB; decide) (by omega)) mw_X1_advance kl_X2_123 (isB_lt (by unfold isB; decide)) (fun cy => cell1 (isB_kd (by unfold isB; decide)).2.2.1) rfl rfl rfl (Nat.le_of_ble_eq_true rfl) ⟨Nat.le_of_ble_eq_true rfl, Nat.le_of_ble_eq_true rfl⟩ dX2_execute_221 ⟨Nat.le_of_ble_eq_true rfl, Nat.le_of_ble_eq_true rfl⟩ rfl ?_
  refine ro_pop (q := 225) hX dX2_execute_224 rfl rfl ?_
  refine ro_iconst (v := nI 1) (q := 226) hX dX2_execute_225 rfl rfl ?_
  exact fin_z hF (Nat.le_of_ble_eq_true rfl) (Nat.le_of_ble_eq_true rfl) dX2_execute_226 rfl (by rfl) (by rfl)
theorem x_exec_0 {c p : Nat} {y : Int32} (ht : tOK c p) (hc : calT f c p = false) : Does sz I_X2_execute [.ref (sz + 0), .int (nI c), .int (nI p), .int y] (patch G 1 7 f, T) 0 0 (.inl (some (nI 0))) (patch G 1 7 f, T) := by
  rcases ht with ⟨rfl | rfl | rfl, hp⟩ | ⟨rfl | rfl | rfl | rfl | rfl, hp⟩ | ⟨rfl, hp⟩
  · rw [calT, if_pos rfl] at hc; exact x_exec_115_0 hp hc
  · rw [calT, if_neg (by decide), if_pos rfl] at hc; exact x_exec_119_0 hp hc
  · rw [calT, if_neg (by decide), if_neg (by decide), if_pos rfl] at hc; exact x_exec_100_0 hp hc
  · rw [calT, if_neg (by decide), if_neg (by decide), if_neg (by decide), if_pos rfl] at hc; exact x_exec_108_0 hp hc
  · rw [calT, if_neg (by decide), if_neg (by decide), if_neg (by decide), if_neg (by decide), if_pos rfl] at hc; exact x_exec_114_0 hp hc
  · rw [calT, if_neg (by decide), if_neg (by decide), if_neg (by decide), if_neg (by decide), if_neg (by decide), if_neg (by decide), if_pos rfl] at hc; exact x_exec_99_0 hp hc
  · rw [calT, if_neg (by decide), if_neg (by decide), if_neg (by decide), if_neg (by decide), if_neg (by decide), if_pos rfl] at hc; exact x_exec_111_0 hp hc
  · rw [calT, if_neg (by decide), if_neg (by decide), if_neg (by decide), if_neg (by decide), if_neg (by decide), if_neg (by decide), if_neg (by decide), if_pos rfl] at hc; exact x_exec_120_0 hp hc
  · rw [calT, if_neg (by decide), if_neg (by decide), if_neg (by decide), if_neg (by decide), if_neg (by decide), if_neg (by decide), if_neg (by decide), if_neg (by decide)] at hc; exact x_exec_116_0 hp hc
theorem x_exec_1 {c p : Nat} {y : Int32} (ht : tOK c p) (hc : calT f c p = true) : Does sz I_X2_execute [.ref (sz + 0), .int (nI c), .int (nI p), .int y] (patch G 1 7 f, T) 0 0 (.inl (some (nI 1))) (patch G 1 7 (exeT f c p y), T) := by
  rcases ht with ⟨rfl | rfl | rfl, hp⟩ | ⟨rfl | rfl | rfl | rfl | rfl, hp⟩ | ⟨rfl, hp⟩
  · rw [calT, if_pos rfl] at hc; rw [exeT, if_pos rfl]; exact x_exec_115_1 hp hc
  · rw [calT, if_neg (by decide), if_pos rfl] at hc; rw [exeT, if_neg (by decide), if_pos rfl]; exact x_exec_119_1 hp hc
  · rw [calT, if_neg (by decide), if_neg (by decide), if_pos rfl] at hc; rw [exeT, if_neg (by decide), if_neg (by decide), if_pos rfl]; exact x_exec_100_1 hp hc
  · rw [calT, if_neg (by decide), if_neg (by decide), if_neg (by decide), if_pos rfl] at hc; rw [exeT, if_neg (by decide), if_neg (by decide), if_neg (by decide), if_pos rfl]; exact x_exec_108_1 hp hc
  · rw [calT, if_neg (by decide), if_neg (by decide), if_neg (by decide), if_neg (by decide), if_pos rfl] at hc; rw [exeT, if_neg (by decide), if_neg (by decide), if_neg (by decide), if_neg (by decide), if_pos rfl]; exact x_exec_114_1 hp hc
  · rw [calT, if_neg (by decide), if_neg (by decide), if_neg (by decide), if_neg (by decide), if_neg (by decide), if_neg (by decide), if_pos rfl] at hc; rw [exeT, if_neg (by decide), if_neg (by decide), if_neg (by decide), if_neg (by decide), if_neg (by decide), if_neg (by decide), if_pos rfl]; exact x_exec_99_1 hp hc
  · rw [calT, if_neg (by decide), if_neg (by decide), if_neg (by decide), if_neg (by decide), if_neg (by decide), if_pos rfl] at hc; rw [exeT, if_neg (by decide), if_neg (by decide), if_neg (by decide), if_neg (by decide), if_neg (by decide), if_pos rfl]; exact x_exec_111_1 hp hc
  · rw [calT, if_neg (by decide), if_neg (by decide), if_neg (by decide), if_neg (by decide), if_neg (by decide), if_neg (by decide), if_neg (by decide), if_pos rfl] at hc; rw [exeT, if_neg (by decide), if_neg (by decide), if_neg (by decide), if_neg (by decide), if_neg (by decide), if_neg (by decide), if_neg (by decide), if_pos rfl]; exact x_exec_120_1 hp hc
  · rw [calT, if_neg (by decide), if_neg (by decide), if_neg (by decide), if_neg (by decide), if_neg (by decide), if_neg (by decide), if_neg (by decide), if_neg (by decide)] at hc; rw [exeT, if_neg (by decide), if_neg (by decide), if_neg (by decide), if_neg (by decide), if_neg (by decide), if_neg (by decide), if_neg (by decide), if_neg (by decide)]; exact x_exec_116_1 hp hc
end
