section
variable {sz r : Nat} {G : Nat → Nat → Int32} {T : (Nat → Nat) × Int64} {F : SV} {s : NV}
set_option maxRecDepth 20000 in
set_option maxHeartbeats 2000000 in
theorem m_can_115 (hl : F 0 7 = nI 115) {p : Nat} (hp : p < 30) (hf : F 0 8 = nI p) : Does sz I_X3_can [.ref (sz + 75)] (patch G 75 4 (mS F s), T) 0 0 (.inl (some (bi (csM s p)))) (patch G 75 4 (mS F s), T) := by
  refine Does.of (L := [(0, .ref (sz + 75))]) (by decide +kernel) (Nat.le_of_ble_eq_true rfl) rfl ⟨rfl, (by simp), trivial⟩ (fun VV hF => ?_)
  have hX := hF.c
  refine ro_aload_n (i := 0) (q := 1) hX dX3_can_0 rfl rfl rfl ?_
  refine ro_Ngi (j := 7) (q9 := 4) (by decide) hX kf_X3_180 dX3_can_1 rfl ?_
  refine vv_top (y := (nI 115)) (hl) ?_
  refine ro_tableIn (tgt := 108) (off := 104) hX dX3_can_4 (by decide) (by decide) (by decide +kernel) (by decide) ?_
  refine ro_aload_n (i := 0) (q := 109) hX dX3_can_108 rfl rfl rfl ?_
  refine ro_aload_n (i := 0) (q := 110) hX dX3_can_109 rfl rfl rfl ?_
  refine ro_Ngi (j := 8) (q9 := 113) (by decide) hX kf_X3_171 dX3_can_110 rfl ?_
  refine vv_top (y := (nI p)) (hf) ?_
  refine ro_callVi (q9 := 116) hX (m_canStore hp) mw_X3_canStore kl_X3_106 (by decide) (fun cy => cell3 (by decide +kernel)) rfl rfl rfl (Nat.le_of_ble_eq_true rfl) ⟨Nat.le_of_ble_eq_true rfl, Nat.le_of_ble_eq_true rfl⟩ dX3_can_113 ⟨Nat.le_of_ble_eq_true rfl, Nat.le_of_ble_eq_true rfl⟩ rfl ?_
  exact fin_z hF (Nat.le_of_ble_eq_true rfl) (Nat.le_of_ble_eq_true rfl) dX3_can_116 (bi_nar _) (by first | with_reducible rfl | (simp [bi, setL_s, setL_t, setL_0, dropL_0, dropL_c, *]; done) | (simp only [bi, setL_s, setL_t, setL_0, dropL_0, dropL_c]; (repeat' split) <;> first | with_reducible rfl | contradiction | (exfalso; omega) | (simp_all; done)) | rfl) (by first | with_reducible rfl | (simp [bi, setL_s, setL_t, setL_0, dropL_0, dropL_c, *]; done) | (simp only [bi, setL_s, setL_t, setL_0, dropL_0, dropL_c]; (repeat' split) <;> first | with_reducible rfl | contradiction | (exfalso; omega) | (simp_all; done)) | rfl)
set_option maxRecDepth 20000 in
set_option maxHeartbeats 2000000 in
theorem m_can_119 (hl : F 0 7 = nI 119) {p : Nat} (hp : p < 30) (hf : F 0 8 = nI p) : Does sz I_X3_can [.ref (sz + 75)] (patch G 75 4 (mS F s), T) 0 0 (.inl (some (bi (cwM s p)))) (patch G 75 4 (mS F s), T) := by
  refine Does.of (L := [(0, .ref (sz + 75))]) (by decide +kernel) (Nat.le_of_ble_eq_true rfl) rfl ⟨rfl, (by simp), trivial⟩ (fun VV hF => ?_)
  have hX := hF.c
  refine ro_aload_n (i := 0) (q := 1) hX dX3_can_0 rfl rfl rfl ?_
  refine ro_Ngi (j := 7) (q9 := 4) (by decide) hX kf_X3_180 dX3_can_1 rfl ?_
  refine vv_top (y := (nI 119)) (hl) ?_
  refine ro_tableIn (tgt := 117) (off := 113) hX dX3_can_4 (by decide) (by decide) (by decide +kernel) (by decide) ?_
  refine ro_aload_n (i := 0) (q := 118) hX dX3_can_117 rfl rfl rfl ?_
  refine ro_aload_n (i := 0) (q := 119) hX dX3_can_118 rfl rfl rfl ?_
  refine ro_Ngi (j := 8) (q9 := 122) (by decide) hX kf_X3_171 dX3_can_119 rfl ?_
  refine vv_top (y := (nI p)) (hf) ?_
  refine ro_callVi (q9 := 125) hX (m_canWrite hp) mw_X3_canWrite kl_X3_118 (by decide) (fun cy => cell3 (by decide +kernel)) rfl rfl rfl (Nat.le_of_ble_eq_true rfl) ⟨Nat.le_of_ble_eq_true rfl, Nat.le_of_ble_eq_true rfl⟩ dX3_can_122 ⟨Nat.le_of_ble_eq_true rfl, Nat.le_of_ble_eq_true rfl⟩ rfl ?_
  exact fin_z hF (Nat.le_of_ble_eq_true rfl) (Nat.le_of_ble_eq_true rfl) dX3_can_125 (bi_nar _) (by first | with_reducible rfl | (simp [bi, setL_s, setL_t, setL_0, dropL_0, dropL_c, *]; done) | (simp only [bi, setL_s, setL_t, setL_0, dropL_0, dropL_c]; (repeat' split) <;> first | with_reducible rfl | contradiction | (exfalso; omega) | (simp_all; done)) | rfl) (by first | with_reducible rfl | (simp [bi, setL_s, setL_t, setL_0, dropL_0, dropL_c, *]; done) | (simp only [bi, setL_s, setL_t, setL_0, dropL_0, dropL_c]; (repeat' split) <;> first | with_reducible rfl | contradiction | (exfalso; omega) | (simp_all; done)) | rfl)
set_option maxRecDepth 20000 in
set_option maxHeartbeats 2000000 in
theorem m_can_100 (hl : F 0 7 = nI 100) {p : Nat} (hp : p < 30) (hf : F 0 8 = nI p) : Does sz I_X3_can [.ref (sz + 75)] (patch G 75 4 (mS F s), T) 0 0 (.inl (some (bi (thM s 0 p)))) (patch G 75 4 (mS F s), T) := by
  refine Does.of (L := [(0, .ref (sz + 75))]) (by decide +kernel) (Nat.le_of_ble_eq_true rfl) rfl ⟨rfl, (by simp), trivial⟩ (fun VV hF => ?_)
  have hX := hF.c
  refine ro_aload_n (i := 0) (q := 1) hX dX3_can_0 rfl rfl rfl ?_
  refine ro_Ngi (j := 7) (q9 := 4) (by decide) hX kf_X3_180 dX3_can_1 rfl ?_
  refine vv_top (y := (nI 100)) (hl) ?_
  refine ro_tableIn (tgt := 126) (off := 122) hX dX3_can_4 (by decide) (by decide) (by decide +kernel) (by decide) ?_
  refine ro_aload_n (i := 0) (q := 127) hX dX3_can_126 rfl rfl rfl ?_
  refine ro_iconst (v := nI 0) (q := 128) hX dX3_can_127 rfl rfl ?_
  refine ro_aload_n (i := 0) (q := 129) hX dX3_can_128 rfl rfl rfl ?_
  refine ro_Ngi (j := 8) (q9 := 132) (by decide) hX kf_X3_171 dX3_can_129 rfl ?_
  refine vv_top (y := (nI p)) (hf) ?_
  refine ro_callVi (q9 := 135) hX (m_isThere (by omega) hp) mw_X3_isThere kl_X3_28 (by decide) (fun cy => cell3 (by decide +kernel)) rfl rfl rfl (Nat.le_of_ble_eq_true rfl) ⟨Nat.le_of_ble_eq_true rfl, Nat.le_of_ble_eq_true rfl⟩ dX3_can_132 ⟨Nat.le_of_ble_eq_true rfl, Nat.le_of_ble_eq_true rfl⟩ rfl ?_
  exact fin_z hF (Nat.le_of_ble_eq_true rfl) (Nat.le_of_ble_eq_true rfl) dX3_can_135 (bi_nar _) (by first | with_reducible rfl | (simp [bi, setL_s, setL_t, setL_0, dropL_0, dropL_c, *]; done) | (simp only [bi, setL_s, setL_t, setL_0, dropL_0, dropL_c]; (repeat' split) <;> first | with_reducible rfl | contradiction | (exfalso; omega) | (simp_all; done)) | rfl) (by first | with_reducible rfl | (simp [bi, setL_s, setL_t, setL_0, dropL_0, dropL_c, *]; done) | (simp only [bi, setL_s, setL_t, setL_0, dropL_0, dropL_c]; (repeat' split) <;> first | with_reducible rfl | contradiction | (exfalso; omega) | (simp_all; done)) | rfl)
set_option maxRecDepth 20000 in
set_option maxHeartbeats 2000000 in
theorem m_can_108 (hl : F 0 7 = nI 108) {h : Nat} (hh : h < 6) (hf : F 0 8 = nI h) : Does sz I_X3_can [.ref (sz + 75)] (patch G 75 4 (mS F s), T) 0 0 (.inl (some (bi (clB s h)))) (patch G 75 4 (mS F s), T) := by
  refine Does.of (L := [(0, .ref (sz + 75))]) (by decide +kernel) (Nat.le_of_ble_eq_true rfl) rfl ⟨rfl, (by simp), trivial⟩ (fun VV hF => ?_)
  have hX := hF.c
  refine ro_aload_n (i := 0) (q := 1) hX dX3_can_0 rfl rfl rfl ?_
  refine ro_Ngi (j := 7) (q9 := 4) (by decide) hX kf_X3_180 dX3_can_1 rfl ?_
  refine vv_top (y := (nI 108)) (hl) ?_
  refine ro_tableIn (tgt := 136) (off := 132) hX dX3_can_4 (by decide) (by decide) (by decide +kernel) (by decide) ?_
  refine ro_aload_n (i := 0) (q := 137) hX dX3_can_136 rfl rfl rfl ?_
  refine ro_aload_n (i := 0) (q := 138) hX dX3_can_137 rfl rfl rfl ?_
  refine ro_Ngi (j := 8) (q9 := 141) (by decide) hX kf_X3_171 dX3_can_138 rfl ?_
  refine vv_top (y := (nI h)) (hf) ?_
  refine ro_callVi (q9 := 144) hX (m_canLend hh) mw_X3_canLend kl_X3_130 (by decide) (fun cy => cell3 (by decide +kernel)) rfl rfl rfl (Nat.le_of_ble_eq_true rfl) ⟨Nat.le_of_ble_eq_true rfl, Nat.le_of_ble_eq_true rfl⟩ dX3_can_141 ⟨Nat.le_of_ble_eq_true rfl, Nat.le_of_ble_eq_true rfl⟩ rfl ?_
  exact fin_z hF (Nat.le_of_ble_eq_true rfl) (Nat.le_of_ble_eq_true rfl) dX3_can_144 (bi_nar _) (by first | with_reducible rfl | (simp [bi, setL_s, setL_t, setL_0, dropL_0, dropL_c, *]; done) | (simp only [bi, setL_s, setL_t, setL_0, dropL_0, dropL_c]; (repeat' split) <;> first | with_reducible rfl | contradiction | (exfalso; omega) | (simp_all; done)) | rfl) (by first | with_reducible rfl | (simp [bi, setL_s, setL_t, setL_0, dropL_0, dropL_c, *]; done) | (simp only [bi, setL_s, setL_t, setL_0, dropL_0, dropL_c]; (repeat' split) <;> first | with_reducible rfl | contradiction | (exfalso; omega) | (simp_all; done)) | rfl)
set_option maxRecDepth 20000 in
set_option maxHeartbeats 2000000 in
theorem m_can_114 (hl : F 0 7 = nI 114) {h : Nat} (hh : h < 6) (hf : F 0 8 = nI h) : Does sz I_X3_can [.ref (sz + 75)] (patch G 75 4 (mS F s), T) 0 0 (.inl (some (bi (crB s h)))) (patch G 75 4 (mS F s), T) := by
  refine Does.of (L := [(0, .ref (sz + 75))]) (by decide +kernel) (Nat.le_of_ble_eq_true rfl) rfl ⟨rfl, (by simp), trivial⟩ (fun VV hF => ?_)
  have hX := hF.c
  refine ro_aload_n (i := 0) (q := 1) hX dX3_can_0 rfl rfl rfl ?_
  refine ro_Ngi (j := 7) (q9 := 4) (by decide) hX kf_X3_180 dX3_can_1 rfl ?_
  refine vv_top (y := (nI 114)) (hl) ?_
  refine ro_tableIn (tgt := 145) (off := 141) hX dX3_can_4 (by decide) (by decide) (by decide +kernel) (by decide) ?_
  refine ro_aload_n (i := 0) (q := 146) hX dX3_can_145 rfl rfl rfl ?_
  refine ro_aload_n (i := 0) (q := 147) hX dX3_can_146 rfl rfl rfl ?_
  refine ro_Ngi (j := 8) (q9 := 150) (by decide) hX kf_X3_171 dX3_can_147 rfl ?_
  refine vv_top (y := (nI h)) (hf) ?_
  refine ro_callVi (q9 := 153) hX (m_canRecall hh) mw_X3_canRecall kl_X3_136 (by decide) (fun cy => cell3 (by decide +kernel)) rfl rfl rfl (Nat.le_of_ble_eq_true rfl) ⟨Nat.le_of_ble_eq_true rfl, Nat.le_of_ble_eq_true rfl⟩ dX3_can_150 ⟨Nat.le_of_ble_eq_true rfl, Nat.le_of_ble_eq_true rfl⟩ rfl ?_
  exact fin_z hF (Nat.le_of_ble_eq_true rfl) (Nat.le_of_ble_eq_true rfl) dX3_can_153 (bi_nar _) (by first | with_reducible rfl | (simp [bi, setL_s, setL_t, setL_0, dropL_0, dropL_c, *]; done) | (simp only [bi, setL_s, setL_t, setL_0, dropL_0, dropL_c]; (repeat' split) <;> first | with_reducible rfl | contradiction | (exfalso; omega) | (simp_all; done)) | rfl) (by first | with_reducible rfl | (simp [bi, setL_s, setL_t, setL_0, dropL_0, dropL_c, *]; done) | (simp only [bi, setL_s, setL_t, setL_0, dropL_0, dropL_c]; (repeat' split) <;> first | with_reducible rfl | contradiction | (exfalso; omega) | (simp_all; done)) | rfl)
set_option maxRecDepth 20000 in
set_option maxHeartbeats 2000000 in
theorem m_can_111 (hl : F 0 7 = nI 111) {h : Nat} (hh : h < 6) (hf : F 0 8 = nI h) : Does sz I_X3_can [.ref (sz + 75)] (patch G 75 4 (mS F s), T) 0 0 (.inl (some (bi (cdB s h)))) (patch G 75 4 (mS F s), T) := by
  refine Does.of (L := [(0, .ref (sz + 75))]) (by decide +kernel) (Nat.le_of_ble_eq_true rfl) rfl ⟨rfl, (by simp), trivial⟩ (fun VV hF => ?_)
  have hX := hF.c
  refine ro_aload_n (i := 0) (q := 1) hX dX3_can_0 rfl rfl rfl ?_
  refine ro_Ngi (j := 7) (q9 := 4) (by decide) hX kf_X3_180 dX3_can_1 rfl ?_
  refine vv_top (y := (nI 111)) (hl) ?_
  refine ro_tableIn (tgt := 154) (off := 150) hX dX3_can_4 (by decide) (by decide) (by decide +kernel) (by decide) ?_
  refine ro_aload_n (i := 0) (q := 155) hX dX3_can_154 rfl rfl rfl ?_
  refine ro_aload_n (i := 0) (q := 156) hX dX3_can_155 rfl rfl rfl ?_
  refine ro_Ngi (j := 8) (q9 := 159) (by decide) hX kf_X3_171 dX3_can_156 rfl ?_
  refine vv_top (y := (nI h)) (hf) ?_
  refine ro_callVi (q9 := 162) hX (m_canDisconnect hh) mw_X3_canDisconnect kl_X3_142 (by decide) (fun cy => cell3 (by decide +kernel)) rfl rfl rfl (Nat.le_of_ble_eq_true rfl) ⟨Nat.le_of_ble_eq_true rfl, Nat.le_of_ble_eq_true rfl⟩ dX3_can_159 ⟨Nat.le_of_ble_eq_true rfl, Nat.le_of_ble_eq_true rfl⟩ rfl ?_
  exact fin_z hF (Nat.le_of_ble_eq_true rfl) (Nat.le_of_ble_eq_true rfl) dX3_can_162 (bi_nar _) (by first | with_reducible rfl | (simp [bi, setL_s, setL_t, setL_0, dropL_0, dropL_c, *]; done) | (simp only [bi, setL_s, setL_t, setL_0, dropL_0, dropL_c]; (repeat' split) <;> first | with_reducible rfl | contradiction | (exfalso; omega) | (simp_all; done)) | rfl) (by first | with_reducible rfl | (simp [bi, setL_s, setL_t, setL_0, dropL_0, dropL_c, *]; done) | (simp only [bi, setL_s, setL_t, setL_0, dropL_0, dropL_c]; (repeat' split) <;> first | with_reducible rfl | contradiction | (exfalso; omega) | (simp_all; done)) | rfl)
set_option maxRecDepth 20000 in
set_option maxHeartbeats 2000000 in
theorem m_can_99 (hl : F 0 7 = nI 99) {h : Nat} (hh : h < 6) (hf : F 0 8 = nI h) : Does sz I_X3_can [.ref (sz + 75)] (patch G 75 4 (mS F s), T) 0 0 (.inl (some (bi (decide (ofM s 0 h 1 = 0))))) (patch G 75 4 (mS F s), T) := by
  refine Does.of (L := [(0, .ref (sz + 75))]) (by decide +kernel) (Nat.le_of_ble_eq_true rfl) rfl ⟨rfl, (by simp), trivial⟩ (fun VV hF => ?_)
  have hX := hF.c
  refine ro_aload_n (i := 0) (q := 1) hX dX3_can_0 rfl rfl rfl ?_
  refine ro_Ngi (j := 7) (q9 := 4) (by decide) hX kf_X3_180 dX3_can_1 rfl ?_
  refine vv_top (y := (nI 99)) (hl) ?_
  refine ro_tableIn (tgt := 163) (off := 159) hX dX3_can_4 (by decide) (by decide) (by decide +kernel) (by decide) ?_
  refine ro_aload_n (i := 0) (q := 164) hX dX3_can_163 rfl rfl rfl ?_
  refine ro_iconst (v := nI 0) (q := 165) hX dX3_can_164 rfl rfl ?_
  refine ro_aload_n (i := 0) (q := 166) hX dX3_can_165 rfl rfl rfl ?_
  refine ro_Ngi (j := 8) (q9 := 169) (by decide) hX kf_X3_171 dX3_can_166 rfl ?_
  refine vv_top (y := (nI h)) (hf) ?_
  refine ro_iconst (v := nI 1) (q := 170) hX dX3_can_169 rfl rfl ?_
  refine ro_callVi (q9 := 173) hX (m_of (by omega) (by omega) (by omega)) mw_X3_of kl_X3_36 (by decide) (fun cy => cell3 (by decide +kernel)) rfl rfl rfl (Nat.le_of_ble_eq_true rfl) ⟨Nat.le_of_ble_eq_true rfl, Nat.le_of_ble_eq_true rfl⟩ dX3_can_170 ⟨Nat.le_of_ble_eq_true rfl, Nat.le_of_ble_eq_true rfl⟩ rfl ?_
  refine ro_if_ne (tgt := 180) (q := 176) hX dX3_can_173 (by decide) rfl (fun q1 => ?_) (fun q1 => ?_)
  · skip
    refine ro_iconst (v := nI 0) (q := 181) hX dX3_can_180 rfl rfl ?_
    exact fin_z hF (Nat.le_of_ble_eq_true rfl) (Nat.le_of_ble_eq_true rfl) dX3_can_181 rfl (by first | with_reducible rfl | (simp [bi, setL_s, setL_t, setL_0, dropL_0, dropL_c, *]; done) | (simp only [bi, setL_s, setL_t, setL_0, dropL_0, dropL_c]; (repeat' split) <;> first | with_reducible rfl | contradiction | (exfalso; omega) | (simp_all; done)) | rfl) (by first | with_reducible rfl | (simp [bi, setL_s, setL_t, setL_0, dropL_0, dropL_c, *]; done) | (simp only [bi, setL_s, setL_t, setL_0, dropL_0, dropL_c]; (repeat' split) <;> first | with_reducible rfl | contradiction | (exfalso; omega) | (simp_all; done)) | rfl)
  · skip
    refine ro_iconst (v := nI 1) (q := 177) hX dX3_can_176 rfl rfl ?_
    refine ro_goto (tgt := 181) hX dX3_can_177 (by decide) ?_
    exact fin_z hF (Nat.le_of_ble_eq_true rfl) (Nat.le_of_ble_eq_true rfl) dX3_can_181 rfl (by first | with_reducible rfl | (simp [bi, setL_s, setL_t, setL_0, dropL_0, dropL_c, *]; done) | (simp only [bi, setL_s, setL_t, setL_0, dropL_0, dropL_c]; (repeat' split) <;> first | with_reducible rfl | contradiction | (exfalso; omega) | (simp_all; done)) | rfl) (by first | with_reducible rfl | (simp [bi, setL_s, setL_t, setL_0, dropL_0, dropL_c, *]; done) | (simp only [bi, setL_s, setL_t, setL_0, dropL_0, dropL_c]; (repeat' split) <;> first | with_reducible rfl | contradiction | (exfalso; omega) | (simp_all; done)) | rfl)
set_option maxRecDepth 20000 in
set_option maxHeartbeats 2000000 in
theorem m_can_120 (hl : F 0 7 = nI 120) {h : Nat} (hh : h < 6) (hf : F 0 8 = nI h) : Does sz I_X3_can [.ref (sz + 75)] (patch G 75 4 (mS F s), T) 0 0 (.inl (some (bi (decide (¬ ofM s 0 h 0 = 0))))) (patch G 75 4 (mS F s), T) := by
  refine Does.of (L := [(0, .ref (sz + 75))]) (by decide +kernel) (Nat.le_of_ble_eq_true rfl) rfl ⟨rfl, (by simp), trivial⟩ (fun VV hF => ?_)
  have hX := hF.c
  refine ro_aload_n (i := 0) (q := 1) hX dX3_can_0 rfl rfl rfl ?_
  refine ro_Ngi (j := 7) (q9 := 4) (by decide) hX kf_X3_180 dX3_can_1 rfl ?_
  refine vv_top (y := (nI 120)) (hl) ?_
  refine ro_tableIn (tgt := 182) (off := 178) hX dX3_can_4 (by decide) (by decide) (by decide +kernel) (by decide) ?_
  refine ro_aload_n (i := 0) (q := 183) hX dX3_can_182 rfl rfl rfl ?_
  refine ro_iconst (v := nI 0) (q := 184) hX dX3_can_183 rfl rfl ?_
  refine ro_aload_n (i := 0) (q := 185) hX dX3_can_184 rfl rfl rfl ?_
  refine ro_Ngi (j := 8) (q9 := 188) (by decide) hX kf_X3_171 dX3_can_185 rfl ?_
  refine vv_top (y := (nI h)) (hf) ?_
  refine ro_iconst (v := nI 0) (q := 189) hX dX3_can_188 rfl rfl ?_
  refine ro_callVi (q9 := 192) hX (m_of (by omega) (by omega) (by omega)) mw_X3_of kl_X3_36 (by decide) (fun cy => cell3 (by decide +kernel)) rfl rfl rfl (Nat.le_of_ble_eq_true rfl) ⟨Nat.le_of_ble_eq_true rfl, Nat.le_of_ble_eq_true rfl⟩ dX3_can_189 ⟨Nat.le_of_ble_eq_true rfl, Nat.le_of_ble_eq_true rfl⟩ rfl ?_
  refine ro_if_eq (tgt := 199) (q := 195) hX dX3_can_192 (by decide) rfl (fun q1 => ?_) (fun q1 => ?_)
  · skip
    refine ro_iconst (v := nI 0) (q := 200) hX dX3_can_199 rfl rfl ?_
    exact fin_z hF (Nat.le_of_ble_eq_true rfl) (Nat.le_of_ble_eq_true rfl) dX3_can_200 rfl (by first | with_reducible rfl | (simp [bi, setL_s, setL_t, setL_0, dropL_0, dropL_c, *]; done) | (simp only [bi, setL_s, setL_t, setL_0, dropL_0, dropL_c]; (repeat' split) <;> first | with_reducible rfl | contradiction | (exfalso; omega) | (simp_all; done)) | rfl) (by first | with_reducible rfl | (simp [bi, setL_s, setL_t, setL_0, dropL_0, dropL_c, *]; done) | (simp only [bi, setL_s, setL_t, setL_0, dropL_0, dropL_c]; (repeat' split) <;> first | with_reducible rfl | contradiction | (exfalso; omega) | (simp_all; done)) | rfl)
  · skip
    refine ro_iconst (v := nI 1) (q := 196) hX dX3_can_195 rfl rfl ?_
    refine ro_goto (tgt := 200) hX dX3_can_196 (by decide) ?_
    exact fin_z hF (Nat.le_of_ble_eq_true rfl) (Nat.le_of_ble_eq_true rfl) dX3_can_200 rfl (by first | with_reducible rfl | (simp [bi, setL_s, setL_t, setL_0, dropL_0, dropL_c, *]; done) | (simp only [bi, setL_s, setL_t, setL_0, dropL_0, dropL_c]; (repeat' split) <;> first | with_reducible rfl | contradiction | (exfalso; omega) | (simp_all; done)) | rfl) (by first | with_reducible rfl | (simp [bi, setL_s, setL_t, setL_0, dropL_0, dropL_c, *]; done) | (simp only [bi, setL_s, setL_t, setL_0, dropL_0, dropL_c]; (repeat' split) <;> first | with_reducible rfl | contradiction | (exfalso; omega) | (simp_all; done)) | rfl)
set_option maxRecDepth 20000 in
set_option maxHeartbeats 2000000 in
theorem m_can_116 (hl : F 0 7 = nI 116) {n : Nat} (hn : n ≤ 600) (hf : F 0 8 = nI n) : Does sz I_X3_can [.ref (sz + 75)] (patch G 75 4 (mS F s), T) 0 0 (.inl (some (bi (decide (¬ nI 1000000 < s 0 + nI n))))) (patch G 75 4 (mS F s), T) := by
  refine Does.of (L := [(0, .ref (sz + 75))]) (by decide +kernel) (Nat.le_of_ble_eq_true rfl) rfl ⟨rfl, (by simp), trivial⟩ (fun VV hF => ?_)
  have hX := hF.c
  refine ro_aload_n (i := 0) (q := 1) hX dX3_can_0 rfl rfl rfl ?_
  refine ro_Ngi (j := 7) (q9 := 4) (by decide) hX kf_X3_180 dX3_can_1 rfl ?_
  refine vv_top (y := (nI 116)) (hl) ?_
  refine ro_tableIn (tgt := 201) (off := 197) hX dX3_can_4 (by decide) (by decide) (by decide +kernel) (by decide) ?_
  refine ro_aload_n (i := 0) (q := 202) hX dX3_can_201 rfl rfl rfl ?_
  refine ro_Nga1 (q9 := 205) hX kf_X3_7 dX3_can_202 rfl ?_
  refine ro_iconst (v := nI 0) (q := 206) hX dX3_can_205 rfl rfl ?_
  refine ro_Nsld (n := 0) (q9 := 207) hX rfl (by omega) dX3_can_206 rfl ?_
  refine ro_aload_n (i := 0) (q := 208) hX dX3_can_207 rfl rfl rfl ?_
  refine ro_Ngi (j := 8) (q9 := 211) (by decide) hX kf_X3_171 dX3_can_208 rfl ?_
  refine vv_top (y := (nI n)) (hf) ?_
  refine ro_iadd (q := 212) hX dX3_can_211 rfl ?_
  refine ro_ldc (v := nI 1000000) (q := 214) hX kc_X3_154 dX3_can_212 rfl ?_
  refine ro_icmp_gt (tgt := 221) (q := 217) hX dX3_can_214 (by decide) rfl (fun q1 => ?_) (fun q1 => ?_)
  · skip
    refine ro_iconst (v := nI 0) (q := 222) hX dX3_can_221 rfl rfl ?_
    exact fin_z hF (Nat.le_of_ble_eq_true rfl) (Nat.le_of_ble_eq_true rfl) dX3_can_222 rfl (by first | with_reducible rfl | (simp [bi, setL_s, setL_t, setL_0, dropL_0, dropL_c, *]; done) | (simp only [bi, setL_s, setL_t, setL_0, dropL_0, dropL_c]; (repeat' split) <;> first | with_reducible rfl | contradiction | (exfalso; omega) | (simp_all; done)) | rfl) (by first | with_reducible rfl | (simp [bi, setL_s, setL_t, setL_0, dropL_0, dropL_c, *]; done) | (simp only [bi, setL_s, setL_t, setL_0, dropL_0, dropL_c]; (repeat' split) <;> first | with_reducible rfl | contradiction | (exfalso; omega) | (simp_all; done)) | rfl)
  · skip
    refine ro_iconst (v := nI 1) (q := 218) hX dX3_can_217 rfl rfl ?_
    refine ro_goto (tgt := 222) hX dX3_can_218 (by decide) ?_
    exact fin_z hF (Nat.le_of_ble_eq_true rfl) (Nat.le_of_ble_eq_true rfl) dX3_can_222 rfl (by first | with_reducible rfl | (simp [bi, setL_s, setL_t, setL_0, dropL_0, dropL_c, *]; done) | (simp only [bi, setL_s, setL_t, setL_0, dropL_0, dropL_c]; (repeat' split) <;> first | with_reducible rfl | contradiction | (exfalso; omega) | (simp_all; done)) | rfl) (by first | with_reducible rfl | (simp [bi, setL_s, setL_t, setL_0, dropL_0, dropL_c, *]; done) | (simp only [bi, setL_s, setL_t, setL_0, dropL_0, dropL_c]; (repeat' split) <;> first | with_reducible rfl | contradiction | (exfalso; omega) | (simp_all; done)) | rfl)
set_option maxRecDepth 20000 in
set_option maxHeartbeats 2000000 in
theorem m_does_115 (hl : F 0 7 = nI 115) {p : Nat} (hp : p < 30) (hf : F 0 8 = nI p) : Does sz I_X3_does [.ref (sz + 75)] (patch G 75 4 (mS F s), T) 0 0 (.inl (some (onM (cpM (st2 s p (F 0 9)) 0 p)))) (patch G 75 4 (mS F (seM (st2 s p (F 0 9)) 0)), T) := by
  refine Does.of (L := [(0, .ref (sz + 75))]) (by decide +kernel) (Nat.le_of_ble_eq_true rfl) rfl ⟨rfl, (by simp), trivial⟩ (fun VV hF => ?_)
  have hX := hF.c
  refine ro_aload_n (i := 0) (q := 1) hX dX3_does_0 rfl rfl rfl ?_
  refine ro_Ngi (j := 7) (q9 := 4) (by decide) hX kf_X3_180 dX3_does_1 rfl ?_
  refine vv_top (y := (nI 115)) (hl) ?_
  refine ro_tableIn (tgt := 108) (off := 104) hX dX3_does_4 (by decide) (by decide) (by decide +kernel) (by decide) ?_
  refine ro_aload_n (i := 0) (q := 109) hX dX3_does_108 rfl rfl rfl ?_
  refine ro_aload_n (i := 0) (q := 110) hX dX3_does_109 rfl rfl rfl ?_
  refine ro_Ngi (j := 8) (q9 := 113) (by decide) hX kf_X3_171 dX3_does_110 rfl ?_
  refine vv_top (y := (nI p)) (hf) ?_
  refine ro_aload_n (i := 0) (q := 114) hX dX3_does_113 rfl rfl rfl ?_
  refine ro_Ngi (j := 9) (q9 := 117) (by decide) hX kf_X3_177 dX3_does_114 rfl ?_
  refine ro_callVi (q9 := 120) hX (m_stores hp) mw_X3_stores kl_X3_115 (by decide) (fun cy => cell3 (by decide +kernel)) rfl rfl rfl (Nat.le_of_ble_eq_true rfl) ⟨Nat.le_of_ble_eq_true rfl, Nat.le_of_ble_eq_true rfl⟩ dX3_does_117 ⟨Nat.le_of_ble_eq_true rfl, Nat.le_of_ble_eq_true rfl⟩ rfl ?_
  exact fin_i hF (Nat.le_of_ble_eq_true rfl) (Nat.le_of_ble_eq_true rfl) dX3_does_120 (by rfl) (by rfl)
set_option maxRecDepth 20000 in
set_option maxHeartbeats 2000000 in
theorem m_does_119 (hl : F 0 7 = nI 119) {p : Nat} (hp : p < 30) (hf : F 0 8 = nI p) : Does sz I_X3_does [.ref (sz + 75)] (patch G 75 4 (mS F s), T) 0 0 (.inl (some (onM (cpM (st1 s p (F 0 9)) 0 p)))) (patch G 75 4 (mS F (wrM s p (F 0 9))), T) := by
  refine Does.of (L := [(0, .ref (sz + 75))]) (by decide +kernel) (Nat.le_of_ble_eq_true rfl) rfl ⟨rfl, (by simp), trivial⟩ (fun VV hF => ?_)
  have hX := hF.c
  refine ro_aload_n (i := 0) (q := 1) hX dX3_does_0 rfl rfl rfl ?_
  refine ro_Ngi (j := 7) (q9 := 4) (by decide) hX kf_X3_180 dX3_does_1 rfl ?_
  refine vv_top (y := (nI 119)) (hl) ?_
  refine ro_tableIn (tgt := 121) (off := 117) hX dX3_does_4 (by decide) (by decide) (by decide +kernel) (by decide) ?_
  refine ro_aload_n (i := 0) (q := 122) hX dX3_does_121 rfl rfl rfl ?_
  refine ro_aload_n (i := 0) (q := 123) hX dX3_does_122 rfl rfl rfl ?_
  refine ro_Ngi (j := 8) (q9 := 126) (by decide) hX kf_X3_171 dX3_does_123 rfl ?_
  refine vv_top (y := (nI p)) (hf) ?_
  refine ro_aload_n (i := 0) (q := 127) hX dX3_does_126 rfl rfl rfl ?_
  refine ro_Ngi (j := 9) (q9 := 130) (by decide) hX kf_X3_177 dX3_does_127 rfl ?_
  refine ro_callVi (q9 := 133) hX (m_writes hp) mw_X3_writes kl_X3_121 (by decide) (fun cy => cell3 (by decide +kernel)) rfl rfl rfl (Nat.le_of_ble_eq_true rfl) ⟨Nat.le_of_ble_eq_true rfl, Nat.le_of_ble_eq_true rfl⟩ dX3_does_130 ⟨Nat.le_of_ble_eq_true rfl, Nat.le_of_ble_eq_true rfl⟩ rfl ?_
  exact fin_i hF (Nat.le_of_ble_eq_true rfl) (Nat.le_of_ble_eq_true rfl) dX3_does_133 (by rfl) (by rfl)
set_option maxRecDepth 20000 in
set_option maxHeartbeats 2000000 in
theorem m_does_100 (hl : F 0 7 = nI 100) {p : Nat} (hp : p < 30) (hf : F 0 8 = nI p) : Does sz I_X3_does [.ref (sz + 75)] (patch G 75 4 (mS F s), T) 0 0 (.inl (some (onM (cpM s 0 p)))) (patch G 75 4 (mS F (rvM s p)), T) := by
  refine Does.of (L := [(0, .ref (sz + 75))]) (by decide +kernel) (Nat.le_of_ble_eq_true rfl) rfl ⟨rfl, (by simp), trivial⟩ (fun VV hF => ?_)
  have hX := hF.c
  refine ro_aload_n (i := 0) (q := 1) hX dX3_does_0 rfl rfl rfl ?_
  refine ro_Ngi (j := 7) (q9 := 4) (by decide) hX kf_X3_180 dX3_does_1 rfl ?_
  refine vv_top (y := (nI 100)) (hl) ?_
  refine ro_tableIn (tgt := 134) (off := 130) hX dX3_does_4 (by decide) (by decide) (by decide +kernel) (by decide) ?_
  refine ro_aload_n (i := 0) (q := 135) hX dX3_does_134 rfl rfl rfl ?_
  refine ro_aload_n (i := 0) (q := 136) hX dX3_does_135 rfl rfl rfl ?_
  refine ro_Ngi (j := 8) (q9 := 139) (by decide) hX kf_X3_171 dX3_does_136 rfl ?_
  refine vv_top (y := (nI p)) (hf) ?_
  refine ro_callVi (q9 := 142) hX (m_removes hp) mw_X3_removes kl_X3_124 (by decide) (fun cy => cell3 (by decide +kernel)) rfl rfl rfl (Nat.le_of_ble_eq_true rfl) ⟨Nat.le_of_ble_eq_true rfl, Nat.le_of_ble_eq_true rfl⟩ dX3_does_139 ⟨Nat.le_of_ble_eq_true rfl, Nat.le_of_ble_eq_true rfl⟩ rfl ?_
  exact fin_i hF (Nat.le_of_ble_eq_true rfl) (Nat.le_of_ble_eq_true rfl) dX3_does_142 (by rfl) (by rfl)
set_option maxRecDepth 20000 in
set_option maxHeartbeats 2000000 in
theorem m_does_108 (hl : F 0 7 = nI 108) {h : Nat} (hh : h < 6) (hf : F 0 8 = nI h) : Does sz I_X3_does [.ref (sz + 75)] (patch G 75 4 (mS F s), T) 0 0 (.inl (some (leL (le1 s h (F 0 9)) 6))) (patch G 75 4 (mS F (seM (le1 s h (F 0 9)) 0)), T) := by
  refine Does.of (L := [(0, .ref (sz + 75))]) (by decide +kernel) (Nat.le_of_ble_eq_true rfl) rfl ⟨rfl, (by simp), trivial⟩ (fun VV hF => ?_)
  have hX := hF.c
  refine ro_aload_n (i := 0) (q := 1) hX dX3_does_0 rfl rfl rfl ?_
  refine ro_Ngi (j := 7) (q9 := 4) (by decide) hX kf_X3_180 dX3_does_1 rfl ?_
  refine vv_top (y := (nI 108)) (hl) ?_
  refine ro_tableIn (tgt := 143) (off := 139) hX dX3_does_4 (by decide) (by decide) (by decide +kernel) (by decide) ?_
  refine ro_aload_n (i := 0) (q := 144) hX dX3_does_143 rfl rfl rfl ?_
  refine ro_aload_n (i := 0) (q := 145) hX dX3_does_144 rfl rfl rfl ?_
  refine ro_Ngi (j := 8) (q9 := 148) (by decide) hX kf_X3_171 dX3_does_145 rfl ?_
  refine vv_top (y := (nI h)) (hf) ?_
  refine ro_aload_n (i := 0) (q := 149) hX dX3_does_148 rfl rfl rfl ?_
  refine ro_Ngi (j := 9) (q9 := 152) (by decide) hX kf_X3_177 dX3_does_149 rfl ?_
  refine ro_callVi (q9 := 155) hX (m_lends hh) mw_X3_lends kl_X3_133 (by decide) (fun cy => cell3 (by decide +kernel)) rfl rfl rfl (Nat.le_of_ble_eq_true rfl) ⟨Nat.le_of_ble_eq_true rfl, Nat.le_of_ble_eq_true rfl⟩ dX3_does_152 ⟨Nat.le_of_ble_eq_true rfl, Nat.le_of_ble_eq_true rfl⟩ rfl ?_
  exact fin_i hF (Nat.le_of_ble_eq_true rfl) (Nat.le_of_ble_eq_true rfl) dX3_does_155 (by rfl) (by rfl)
set_option maxRecDepth 20000 in
set_option maxHeartbeats 2000000 in
theorem m_does_114 (hl : F 0 7 = nI 114) {h : Nat} (hh : h < 6) (hf : F 0 8 = nI h) : Does sz I_X3_does [.ref (sz + 75)] (patch G 75 4 (mS F s), T) 0 0 (.inl (some (nI (hdM (re1 s h (F 0 9)) 0 h)))) (patch G 75 4 (mS F (seM (re1 s h (F 0 9)) 0)), T) := by
  refine Does.of (L := [(0, .ref (sz + 75))]) (by decide +kernel) (Nat.le_of_ble_eq_true rfl) rfl ⟨rfl, (by simp), trivial⟩ (fun VV hF => ?_)
  have hX := hF.c
  refine ro_aload_n (i := 0) (q := 1) hX dX3_does_0 rfl rfl rfl ?_
  refine ro_Ngi (j := 7) (q9 := 4) (by decide) hX kf_X3_180 dX3_does_1 rfl ?_
  refine vv_top (y := (nI 114)) (hl) ?_
  refine ro_tableIn (tgt := 156) (off := 152) hX dX3_does_4 (by decide) (by decide) (by decide +kernel) (by decide) ?_
  refine ro_aload_n (i := 0) (q := 157) hX dX3_does_156 rfl rfl rfl ?_
  refine ro_aload_n (i := 0) (q := 158) hX dX3_does_157 rfl rfl rfl ?_
  refine ro_Ngi (j := 8) (q9 := 161) (by decide) hX kf_X3_171 dX3_does_158 rfl ?_
  refine vv_top (y := (nI h)) (hf) ?_
  refine ro_aload_n (i := 0) (q := 162) hX dX3_does_161 rfl rfl rfl ?_
  refine ro_Ngi (j := 9) (q9 := 165) (by decide) hX kf_X3_177 dX3_does_162 rfl ?_
  refine ro_callVi (q9 := 168) hX (m_recalls hh) mw_X3_recalls kl_X3_139 (by decide) (fun cy => cell3 (by decide +kernel)) rfl rfl rfl (Nat.le_of_ble_eq_true rfl) ⟨Nat.le_of_ble_eq_true rfl, Nat.le_of_ble_eq_true rfl⟩ dX3_does_165 ⟨Nat.le_of_ble_eq_true rfl, Nat.le_of_ble_eq_true rfl⟩ rfl ?_
  exact fin_i hF (Nat.le_of_ble_eq_true rfl) (Nat.le_of_ble_eq_true rfl) dX3_does_168 (by rfl) (by rfl)
set_option maxRecDepth 20000 in
set_option maxHeartbeats 2000000 in
theorem m_does_111 (hl : F 0 7 = nI 111) {h : Nat} (hh : h < 6) (hf : F 0 8 = nI h) : Does sz I_X3_does [.ref (sz + 75)] (patch G 75 4 (mS F s), T) 0 0 (.inl (some (nI (hdM (di1 s h) 0 h)))) (patch G 75 4 (mS F (seM (di1 s h) 0)), T) := by
  refine Does.of (L := [(0, .ref (sz + 75))]) (by decide +kernel) (Nat.le_of_ble_eq_true rfl) rfl ⟨rfl, (by simp), trivial⟩ (fun VV hF => ?_)
  have hX := hF.c
  refine ro_aload_n (i := 0) (q := 1) hX dX3_does_0 rfl rfl rfl ?_
  refine ro_Ngi (j := 7) (q9 := 4) (by decide) hX kf_X3_180 dX3_does_1 rfl ?_
  refine vv_top (y := (nI 111)) (hl) ?_
  refine ro_tableIn (tgt := 169) (off := 165) hX dX3_does_4 (by decide) (by decide) (by decide +kernel) (by decide) ?_
  refine ro_aload_n (i := 0) (q := 170) hX dX3_does_169 rfl rfl rfl ?_
  refine ro_aload_n (i := 0) (q := 171) hX dX3_does_170 rfl rfl rfl ?_
  refine ro_Ngi (j := 8) (q9 := 174) (by decide) hX kf_X3_171 dX3_does_171 rfl ?_
  refine vv_top (y := (nI h)) (hf) ?_
  refine ro_callVi (q9 := 177) hX (m_disconnects hh) mw_X3_disconnects kl_X3_145 (by decide) (fun cy => cell3 (by decide +kernel)) rfl rfl rfl (Nat.le_of_ble_eq_true rfl) ⟨Nat.le_of_ble_eq_true rfl, Nat.le_of_ble_eq_true rfl⟩ dX3_does_174 ⟨Nat.le_of_ble_eq_true rfl, Nat.le_of_ble_eq_true rfl⟩ rfl ?_
  exact fin_i hF (Nat.le_of_ble_eq_true rfl) (Nat.le_of_ble_eq_true rfl) dX3_does_177 (by rfl) (by rfl)
set_option maxRecDepth 20000 in
set_option maxHeartbeats 2000000 in
theorem m_does_99 (hl : F 0 7 = nI 99) {h : Nat} (hh : h < 6) (hf : F 0 8 = nI h) : Does sz I_X3_does [.ref (sz + 75)] (patch G 75 4 (mS F s), T) 0 0 (.inl (some (nI (rcL (rc1 s h) h 30).2))) (patch G 75 4 (mS F (seM (rcL (rc1 s h) h 30).1 0)), T) := by
  refine Does.of (L := [(0, .ref (sz + 75))]) (by decide +kernel) (Nat.le_of_ble_eq_true rfl) rfl ⟨rfl, (by simp), trivial⟩ (fun VV hF => ?_)
  have hX := hF.c
  refine ro_aload_n (i := 0) (q := 1) hX dX3_does_0 rfl rfl rfl ?_
  refine ro_Ngi (j := 7) (q9 := 4) (by decide) hX kf_X3_180 dX3_does_1 rfl ?_
  refine vv_top (y := (nI 99)) (hl) ?_
  refine ro_tableIn (tgt := 178) (off := 174) hX dX3_does_4 (by decide) (by decide) (by decide +kernel) (by decide) ?_
  refine ro_aload_n (i := 0) (q := 179) hX dX3_does_178 rfl rfl rfl ?_
  refine ro_aload_n (i := 0) (q := 180) hX dX3_does_179 rfl rfl rfl ?_
  refine ro_Ngi (j := 8) (q9 := 183) (by decide) hX kf_X3_171 dX3_does_180 rfl ?_
  refine vv_top (y := (nI h)) (hf) ?_
  refine ro_callVi (q9 := 186) hX (m_reconnects hh) mw_X3_reconnects kl_X3_148 (by decide) (fun cy => cell3 (by decide +kernel)) rfl rfl rfl (Nat.le_of_ble_eq_true rfl) ⟨Nat.le_of_ble_eq_true rfl, Nat.le_of_ble_eq_true rfl⟩ dX3_does_183 ⟨Nat.le_of_ble_eq_true rfl, Nat.le_of_ble_eq_true rfl⟩ rfl ?_
  exact fin_i hF (Nat.le_of_ble_eq_true rfl) (Nat.le_of_ble_eq_true rfl) dX3_does_186 (by rfl) (by rfl)
set_option maxRecDepth 20000 in
set_option maxHeartbeats 2000000 in
theorem m_does_120 (hl : F 0 7 = nI 120) {h : Nat} (hh : h < 6) (hf : F 0 8 = nI h) : Does sz I_X3_does [.ref (sz + 75)] (patch G 75 4 (mS F s), T) 0 0 (.inl (some (nI (hdM s 0 h)))) (patch G 75 4 (mS F (seM (cr1 s h) 0)), T) := by
  refine Does.of (L := [(0, .ref (sz + 75))]) (by decide +kernel) (Nat.le_of_ble_eq_true rfl) rfl ⟨rfl, (by simp), trivial⟩ (fun VV hF => ?_)
  have hX := hF.c
  refine ro_aload_n (i := 0) (q := 1) hX dX3_does_0 rfl rfl rfl ?_
  refine ro_Ngi (j := 7) (q9 := 4) (by decide) hX kf_X3_180 dX3_does_1 rfl ?_
  refine vv_top (y := (nI 120)) (hl) ?_
  refine ro_tableIn (tgt := 187) (off := 183) hX dX3_does_4 (by decide) (by decide) (by decide +kernel) (by decide) ?_
  refine ro_aload_n (i := 0) (q := 188) hX dX3_does_187 rfl rfl rfl ?_
  refine ro_aload_n (i := 0) (q := 189) hX dX3_does_188 rfl rfl rfl ?_
  refine ro_Ngi (j := 8) (q9 := 192) (by decide) hX kf_X3_171 dX3_does_189 rfl ?_
  refine vv_top (y := (nI h)) (hf) ?_
  refine ro_callVi (q9 := 195) hX (m_crashes hh) mw_X3_crashes kl_X3_151 (by decide) (fun cy => cell3 (by decide +kernel)) rfl rfl rfl (Nat.le_of_ble_eq_true rfl) ⟨Nat.le_of_ble_eq_true rfl, Nat.le_of_ble_eq_true rfl⟩ dX3_does_192 ⟨Nat.le_of_ble_eq_true rfl, Nat.le_of_ble_eq_true rfl⟩ rfl ?_
  exact fin_i hF (Nat.le_of_ble_eq_true rfl) (Nat.le_of_ble_eq_true rfl) dX3_does_195 (by rfl) (by rfl)
set_option maxRecDepth 20000 in
set_option maxHeartbeats 2000000 in
theorem m_does_116 (hl : F 0 7 = nI 116) {n : Nat} (hn : n ≤ 600) (hf : F 0 8 = nI n) (hT : ∀ k, k < n → trOK (tkM (spL s 0 k) 0) 0) : Does sz I_X3_does [.ref (sz + 75)] (patch G 75 4 (mS F s), T) 0 0 (.inl (some (spL s 0 n 3 - s 3))) (patch G 75 4 (mS F (spL s 0 n)), T) := by
  refine Does.of (L := [(0, .ref (sz + 75))]) (by decide +kernel) (Nat.le_of_ble_eq_true rfl) rfl ⟨rfl, (by simp), trivial⟩ (fun VV hF => ?_)
  have hX := hF.c
  refine ro_aload_n (i := 0) (q := 1) hX dX3_does_0 rfl rfl rfl ?_
  refine ro_Ngi (j := 7) (q9 := 4) (by decide) hX kf_X3_180 dX3_does_1 rfl ?_
  refine vv_top (y := (nI 116)) (hl) ?_
  refine ro_tableIn (tgt := 196) (off := 192) hX dX3_does_4 (by decide) (by decide) (by decide +kernel) (by decide) ?_
  refine ro_aload_n (i := 0) (q := 197) hX dX3_does_196 rfl rfl rfl ?_
  refine ro_aload_n (i := 0) (q := 198) hX dX3_does_197 rfl rfl rfl ?_
  refine ro_Ngi (j := 8) (q9 := 201) (by decide) hX kf_X3_171 dX3_does_198 rfl ?_
  refine vv_top (y := (nI n)) (hf) ?_
  refine ro_callVi (q9 := 204) hX (m_passes (by omega) hT) mw_X3_passes kl_X3_155 (by decide) (fun cy => cell3 (by decide +kernel)) rfl rfl rfl (Nat.le_of_ble_eq_true rfl) ⟨Nat.le_of_ble_eq_true rfl, Nat.le_of_ble_eq_true rfl⟩ dX3_does_201 ⟨Nat.le_of_ble_eq_true rfl, Nat.le_of_ble_eq_true rfl⟩ rfl ?_
  exact fin_i hF (Nat.le_of_ble_eq_true rfl) (Nat.le_of_ble_eq_true rfl) dX3_does_204 (by rfl) (by rfl)
set_option maxRecDepth 20000 in
theorem m_can {c p : Nat} (hl : F 0 7 = nI c) (hf : F 0 8 = nI p) (ht : tOK c p) : Does sz I_X3_can [.ref (sz + 75)] (patch G 75 4 (mS F s), T) 0 0 (.inl (some (bi (canT s c p)))) (patch G 75 4 (mS F s), T) := by
  rcases ht with ⟨rfl | rfl | rfl, hp⟩ | ⟨rfl | rfl | rfl | rfl | rfl, hp⟩ | ⟨rfl, hp⟩
  · exact m_can_115 hl hp hf
  · exact m_can_119 hl hp hf
  · exact m_can_100 hl hp hf
  · exact m_can_108 hl hp hf
  · exact m_can_114 hl hp hf
  · exact m_can_99 hl hp hf
  · exact m_can_111 hl hp hf
  · exact m_can_120 hl hp hf
  · exact m_can_116 hl hp hf
theorem m_does {c p : Nat} (hl : F 0 7 = nI c) (hf : F 0 8 = nI p) (ht : tOK c p) (hT : c = 116 → ∀ k, k < p → trOK (tkM (spL s 0 k) 0) 0) : Does sz I_X3_does [.ref (sz + 75)] (patch G 75 4 (mS F s), T) 0 0 (.inl (some (dvT s c p (F 0 9)))) (patch G 75 4 (mS F (dsT s c p (F 0 9))), T) := by
  rcases ht with ⟨rfl | rfl | rfl, hp⟩ | ⟨rfl | rfl | rfl | rfl | rfl, hp⟩ | ⟨rfl, hp⟩
  · rw [dvT, if_pos rfl, dsT, if_pos rfl]; exact m_does_115 hl hp hf
  · rw [dvT, if_neg (by decide), if_pos rfl, dsT, if_neg (by decide), if_pos rfl]; exact m_does_119 hl hp hf
  · rw [dvT, if_neg (by decide), if_neg (by decide), if_pos rfl, dsT, if_neg (by decide), if_neg (by decide), if_pos rfl]; exact m_does_100 hl hp hf
  · rw [dvT, if_neg (by decide), if_neg (by decide), if_neg (by decide), if_pos rfl, dsT, if_neg (by decide), if_neg (by decide), if_neg (by decide), if_pos rfl]; exact m_does_108 hl hp hf
  · rw [dvT, if_neg (by decide), if_neg (by decide), if_neg (by decide), if_neg (by decide), if_pos rfl, dsT, if_neg (by decide), if_neg (by decide), if_neg (by decide), if_neg (by decide), if_pos rfl]; exact m_does_114 hl hp hf
  · rw [dvT, if_neg (by decide), if_neg (by decide), if_neg (by decide), if_neg (by decide), if_neg (by decide), if_neg (by decide), if_pos rfl, dsT, if_neg (by decide), if_neg (by decide), if_neg (by decide), if_neg (by decide), if_neg (by decide), if_neg (by decide), if_pos rfl]; exact m_does_99 hl hp hf
  · rw [dvT, if_neg (by decide), if_neg (by decide), if_neg (by decide), if_neg (by decide), if_neg (by decide), if_pos rfl, dsT, if_neg (by decide), if_neg (by decide), if_neg (by decide), if_neg (by decide), if_neg (by decide), if_pos rfl]; exact m_does_111 hl hp hf
  · rw [dvT, if_neg (by decide), if_neg (by decide), if_neg (by decide), if_neg (by decide), if_neg (by decide), if_neg (by decide), if_neg (by decide), if_pos rfl, dsT, if_neg (by decide), if_neg (by decide), if_neg (by decide), if_neg (by decide), if_neg (by decide), if_neg (by decide), if_neg (by decide), if_pos rfl]; exact m_does_120 hl hp hf
  · rw [dvT, if_neg (by decide), if_neg (by decide), if_neg (by decide), if_neg (by decide), if_neg (by decide), if_neg (by decide), if_neg (by decide), if_neg (by decide), dsT, if_neg (by decide), if_neg (by decide), if_neg (by decide), if_neg (by decide), if_neg (by decide), if_neg (by decide), if_neg (by decide), if_neg (by decide)]; exact m_does_116 hl hp hf (hT rfl)
end
