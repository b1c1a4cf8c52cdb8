/-! the law's deed: its ways -/
section
variable {VV : VT} {sz h p : Nat} {x y v : Int32} {G : Nat → Nat → Int32} {T : (Nat → Nat) × Int64} {f : SV} {M' : Mem}
set_option maxRecDepth 20000 in
set_option maxHeartbeats 2000000 in
theorem at_store (hF : CtxF VV sz RL cL_act (some .int) (roomOf I_L_act 0 0) 7 (.inl (some v)) M' 0 0) (hh : h < 6) (hp : p < 10) (hs : stS f p = -1) (hr : ¬ sumS f 6 ≤ 0) (hD : Does sz I_X2_store [.ref (sz + 0), .int (nI p), .int (nI (upN (y >>> (nI 7 &&& 31)) 10000))] (patch G 1 7 f, T) 0 0 (.inl (some v)) M') : VV 0 0 116 [(0, .ref (sz + 0)), (1, .int x), (2, .int y), (3, .int (nI h)), (4, .int (nI p)), (5, .int (sumS f 6))] [] (patch G 1 7 f, T) := by
  have hX := hF.c
  have hp : p < 30 := by omega
  refine ro_aload_n (i := 0) (q := 117) hX dL_act_116 rfl rfl rfl ?_
  refine ro_iload (i := 4) (q := 119) hX dL_act_117 rfl rfl ?_
  refine ro_callVi (q9 := 122) hX (x_status hp) mw_X2_status kl_L_36 (by decide) (fun cy => cell2 (by decide +kernel)) rfl rfl rfl (Nat.le_of_ble_eq_true rfl) ⟨Nat.le_of_ble_eq_true rfl, Nat.le_of_ble_eq_true rfl⟩ dL_act_119 ⟨Nat.le_of_ble_eq_true rfl, Nat.le_of_ble_eq_true rfl⟩ rfl ?_
  refine ro_iconst (v := (-1)) (q := 123) hX dL_act_122 rfl rfl ?_
  refine ro_icmp_ne (tgt := 156) (q := 126) hX dL_act_123 (by decide) rfl (fun q => absurd (hs) q) (fun _ => ?_)
  refine ro_iload (i := 5) (q := 128) hX dL_act_126 rfl rfl ?_
  refine ro_if_le (tgt := 150) (q := 131) hX dL_act_128 (by decide) rfl (fun q => absurd q (hr)) (fun _ => ?_)
  refine ro_aload_n (i := 0) (q := 132) hX dL_act_131 rfl rfl rfl ?_
  refine ro_iload (i := 4) (q := 134) hX dL_act_132 rfl rfl ?_
  refine ro_iload_n (i := 2) (q := 135) hX dL_act_134 rfl rfl rfl ?_
  refine ro_bipush (v := nI 7) (q := 137) hX dL_act_135 rfl rfl ?_
  refine ro_ishr (q := 138) hX dL_act_137 rfl ?_
  refine ro_sipush (v := nI 10000) (q := 141) hX dL_act_138 rfl rfl ?_
  refine ro_callSi (q9 := 144) hX (l_up (x := y >>> ((nI 7) &&& 31)) (n := 10000) (by decide) (by decide)) mw_L_up kl_L_57 rfl rfl (Nat.le_of_ble_eq_true rfl) ⟨Nat.le_of_ble_eq_true rfl, Nat.le_of_ble_eq_true rfl⟩ dL_act_141 ⟨Nat.le_of_ble_eq_true rfl, Nat.le_of_ble_eq_true rfl⟩ rfl ?_
  refine ro_callVi (q9 := 147) hX (hD) mw_X2_store kl_L_62 (by decide) (fun cy => cell2 (by decide +kernel)) rfl rfl rfl (Nat.le_of_ble_eq_true rfl) ⟨Nat.le_of_ble_eq_true rfl, Nat.le_of_ble_eq_true rfl⟩ dL_act_144 ⟨Nat.le_of_ble_eq_true rfl, Nat.le_of_ble_eq_true rfl⟩ rfl ?_
  refine ro_goto (tgt := 155) hX dL_act_147 (by decide) ?_
  exact fin_i hF (Nat.le_of_ble_eq_true rfl) (Nat.le_of_ble_eq_true rfl) dL_act_155 rfl rfl
set_option maxRecDepth 20000 in
set_option maxHeartbeats 2000000 in
theorem at_pass1 (hF : CtxF VV sz RL cL_act (some .int) (roomOf I_L_act 0 0) 7 (.inl (some v)) M' 0 0) (hh : h < 6) (hp : p < 10) (hs : stS f p = -1) (hr : sumS f 6 ≤ 0) (hD : Does sz I_X2_pass [.ref (sz + 0), .int (nI 1)] (patch G 1 7 f, T) 0 0 (.inl (some v)) M') : VV 0 0 116 [(0, .ref (sz + 0)), (1, .int x), (2, .int y), (3, .int (nI h)), (4, .int (nI p)), (5, .int (sumS f 6))] [] (patch G 1 7 f, T) := by
  have hX := hF.c
  have hp : p < 30 := by omega
  refine ro_aload_n (i := 0) (q := 117) hX dL_act_116 rfl rfl rfl ?_
  refine ro_iload (i := 4) (q := 119) hX dL_act_117 rfl rfl ?_
  refine ro_callVi (q9 := 122) hX (x_status hp) mw_X2_status kl_L_36 (by decide) (fun cy => cell2 (by decide +kernel)) rfl rfl rfl (Nat.le_of_ble_eq_true rfl) ⟨Nat.le_of_ble_eq_true rfl, Nat.le_of_ble_eq_true rfl⟩ dL_act_119 ⟨Nat.le_of_ble_eq_true rfl, Nat.le_of_ble_eq_true rfl⟩ rfl ?_
  refine ro_iconst (v := (-1)) (q := 123) hX dL_act_122 rfl rfl ?_
  refine ro_icmp_ne (tgt := 156) (q := 126) hX dL_act_123 (by decide) rfl (fun q => absurd (hs) q) (fun _ => ?_)
  refine ro_iload (i := 5) (q := 128) hX dL_act_126 rfl rfl ?_
  refine ro_if_le (tgt := 150) (q := 131) hX dL_act_128 (by decide) rfl (fun _ => ?_) (fun q => absurd (hr) q)
  refine ro_aload_n (i := 0) (q := 151) hX dL_act_150 rfl rfl rfl ?_
  refine ro_iconst (v := nI 1) (q := 152) hX dL_act_151 rfl rfl ?_
  refine ro_callVi (q9 := 155) hX (hD) mw_X2_pass kl_L_65 (by decide) (fun cy => cell2 (by decide +kernel)) rfl rfl rfl (Nat.le_of_ble_eq_true rfl) ⟨Nat.le_of_ble_eq_true rfl, Nat.le_of_ble_eq_true rfl⟩ dL_act_152 ⟨Nat.le_of_ble_eq_true rfl, Nat.le_of_ble_eq_true rfl⟩ rfl ?_
  exact fin_i hF (Nat.le_of_ble_eq_true rfl) (Nat.le_of_ble_eq_true rfl) dL_act_155 rfl rfl
set_option maxRecDepth 20000 in
set_option maxHeartbeats 2000000 in
theorem at_write (hF : CtxF VV sz RL cL_act (some .int) (roomOf I_L_act 0 0) 7 (.inl (some v)) M' 0 0) (hh : h < 6) (hp : p < 10) (hs : ¬ stS f p = -1) (hr : ¬ cpS f p = 0) (hD : Does sz I_X2_write [.ref (sz + 0), .int (nI p), .int (nI (upN (y >>> (nI 7 &&& 31)) 10000))] (patch G 1 7 f, T) 0 0 (.inl (some v)) M') : VV 0 0 116 [(0, .ref (sz + 0)), (1, .int x), (2, .int y), (3, .int (nI h)), (4, .int (nI p)), (5, .int (sumS f 6))] [] (patch G 1 7 f, T) := by
  have hX := hF.c
  have hp : p < 30 := by omega
  refine ro_aload_n (i := 0) (q := 117) hX dL_act_116 rfl rfl rfl ?_
  refine ro_iload (i := 4) (q := 119) hX dL_act_117 rfl rfl ?_
  refine ro_callVi (q9 := 122) hX (x_status hp) mw_X2_status kl_L_36 (by decide) (fun cy => cell2 (by decide +kernel)) rfl rfl rfl (Nat.le_of_ble_eq_true rfl) ⟨Nat.le_of_ble_eq_true rfl, Nat.le_of_ble_eq_true rfl⟩ dL_act_119 ⟨Nat.le_of_ble_eq_true rfl, Nat.le_of_ble_eq_true rfl⟩ rfl ?_
  refine ro_iconst (v := (-1)) (q := 123) hX dL_act_122 rfl rfl ?_
  refine ro_icmp_ne (tgt := 156) (q := 126) hX dL_act_123 (by decide) rfl (fun _ => ?_) (fun q => absurd q (hs))
  refine ro_aload_n (i := 0) (q := 157) hX dL_act_156 rfl rfl rfl ?_
  refine ro_iload (i := 4) (q := 159) hX dL_act_157 rfl rfl ?_
  refine ro_callVi (q9 := 162) hX (x_copies hp) mw_X2_copies kl_L_39 (by decide) (fun cy => cell2 (by decide +kernel)) rfl rfl rfl (Nat.le_of_ble_eq_true rfl) ⟨Nat.le_of_ble_eq_true rfl, Nat.le_of_ble_eq_true rfl⟩ dL_act_159 ⟨Nat.le_of_ble_eq_true rfl, Nat.le_of_ble_eq_true rfl⟩ rfl ?_
  refine ro_if_eq (tgt := 184) (q := 165) hX dL_act_162 (by decide) rfl (fun q => absurd q (hr)) (fun _ => ?_)
  refine ro_aload_n (i := 0) (q := 166) hX dL_act_165 rfl rfl rfl ?_
  refine ro_iload (i := 4) (q := 168) hX dL_act_166 rfl rfl ?_
  refine ro_iload_n (i := 2) (q := 169) hX dL_act_168 rfl rfl rfl ?_
  refine ro_bipush (v := nI 7) (q := 171) hX dL_act_169 rfl rfl ?_
  refine ro_ishr (q := 172) hX dL_act_171 rfl ?_
  refine ro_sipush (v := nI 10000) (q := 175) hX dL_act_172 rfl rfl ?_
  refine ro_callSi (q9 := 178) hX (l_up (x := y >>> ((nI 7) &&& 31)) (n := 10000) (by decide) (by decide)) mw_L_up kl_L_57 rfl rfl (Nat.le_of_ble_eq_true rfl) ⟨Nat.le_of_ble_eq_true rfl, Nat.le_of_ble_eq_true rfl⟩ dL_act_175 ⟨Nat.le_of_ble_eq_true rfl, Nat.le_of_ble_eq_true rfl⟩ rfl ?_
  refine ro_callVi (q9 := 181) hX (hD) mw_X2_write kl_L_68 (by decide) (fun cy => cell2 (by decide +kernel)) rfl rfl rfl (Nat.le_of_ble_eq_true rfl) ⟨Nat.le_of_ble_eq_true rfl, Nat.le_of_ble_eq_true rfl⟩ dL_act_178 ⟨Nat.le_of_ble_eq_true rfl, Nat.le_of_ble_eq_true rfl⟩ rfl ?_
  refine ro_goto (tgt := 190) hX dL_act_181 (by decide) ?_
  exact fin_i hF (Nat.le_of_ble_eq_true rfl) (Nat.le_of_ble_eq_true rfl) dL_act_190 rfl rfl
set_option maxRecDepth 20000 in
set_option maxHeartbeats 2000000 in
theorem at_remove (hF : CtxF VV sz RL cL_act (some .int) (roomOf I_L_act 0 0) 7 (.inl (some v)) M' 0 0) (hh : h < 6) (hp : p < 10) (hs : ¬ stS f p = -1) (hr : cpS f p = 0) (hD : Does sz I_X2_remove [.ref (sz + 0), .int (nI p)] (patch G 1 7 f, T) 0 0 (.inl (some v)) M') : VV 0 0 116 [(0, .ref (sz + 0)), (1, .int x), (2, .int y), (3, .int (nI h)), (4, .int (nI p)), (5, .int (sumS f 6))] [] (patch G 1 7 f, T) := by
  have hX := hF.c
  have hp : p < 30 := by omega
  refine ro_aload_n (i := 0) (q := 117) hX dL_act_116 rfl rfl rfl ?_
  refine ro_iload (i := 4) (q := 119) hX dL_act_117 rfl rfl ?_
  refine ro_callVi (q9 := 122) hX (x_status hp) mw_X2_status kl_L_36 (by decide) (fun cy => cell2 (by decide +kernel)) rfl rfl rfl (Nat.le_of_ble_eq_true rfl) ⟨Nat.le_of_ble_eq_true rfl, Nat.le_of_ble_eq_true rfl⟩ dL_act_119 ⟨Nat.le_of_ble_eq_true rfl, Nat.le_of_ble_eq_true rfl⟩ rfl ?_
  refine ro_iconst (v := (-1)) (q := 123) hX dL_act_122 rfl rfl ?_
  refine ro_icmp_ne (tgt := 156) (q := 126) hX dL_act_123 (by decide) rfl (fun _ => ?_) (fun q => absurd q (hs))
  refine ro_aload_n (i := 0) (q := 157) hX dL_act_156 rfl rfl rfl ?_
  refine ro_iload (i := 4) (q := 159) hX dL_act_157 rfl rfl ?_
  refine ro_callVi (q9 := 162) hX (x_copies hp) mw_X2_copies kl_L_39 (by decide) (fun cy => cell2 (by decide +kernel)) rfl rfl rfl (Nat.le_of_ble_eq_true rfl) ⟨Nat.le_of_ble_eq_true rfl, Nat.le_of_ble_eq_true rfl⟩ dL_act_159 ⟨Nat.le_of_ble_eq_true rfl, Nat.le_of_ble_eq_true rfl⟩ rfl ?_
  refine ro_if_eq (tgt := 184) (q := 165) hX dL_act_162 (by decide) rfl (fun _ => ?_) (fun q => absurd (hr) q)
  refine ro_aload_n (i := 0) (q := 185) hX dL_act_184 rfl rfl rfl ?_
  refine ro_iload (i := 4) (q := 187) hX dL_act_185 rfl rfl ?_
  refine ro_callVi (q9 := 190) hX (hD) mw_X2_remove kl_L_71 (by decide) (fun cy => cell2 (by decide +kernel)) rfl rfl rfl (Nat.le_of_ble_eq_true rfl) ⟨Nat.le_of_ble_eq_true rfl, Nat.le_of_ble_eq_true rfl⟩ dL_act_187 ⟨Nat.le_of_ble_eq_true rfl, Nat.le_of_ble_eq_true rfl⟩ rfl ?_
  exact fin_i hF (Nat.le_of_ble_eq_true rfl) (Nat.le_of_ble_eq_true rfl) dL_act_190 rfl rfl
set_option maxRecDepth 20000 in
set_option maxHeartbeats 2000000 in
theorem at_pass2 (hF : CtxF VV sz RL cL_act (some .int) (roomOf I_L_act 0 0) 7 (.inl (some v)) M' 0 0) (hh : h < 6) (hp : p < 10) (hs : stS f p = -1) (hD : Does sz I_X2_pass [.ref (sz + 0), .int (nI 2)] (patch G 1 7 f, T) 0 0 (.inl (some v)) M') : VV 0 0 191 [(0, .ref (sz + 0)), (1, .int x), (2, .int y), (3, .int (nI h)), (4, .int (nI p)), (5, .int (sumS f 6))] [] (patch G 1 7 f, T) := by
  have hX := hF.c
  have hp : p < 30 := by omega
  refine ro_aload_n (i := 0) (q := 192) hX dL_act_191 rfl rfl rfl ?_
  refine ro_iload (i := 4) (q := 194) hX dL_act_192 rfl rfl ?_
  refine ro_callVi (q9 := 197) hX (x_status hp) mw_X2_status kl_L_36 (by decide) (fun cy => cell2 (by decide +kernel)) rfl rfl rfl (Nat.le_of_ble_eq_true rfl) ⟨Nat.le_of_ble_eq_true rfl, Nat.le_of_ble_eq_true rfl⟩ dL_act_194 ⟨Nat.le_of_ble_eq_true rfl, Nat.le_of_ble_eq_true rfl⟩ rfl ?_
  refine ro_iconst (v := (-1)) (q := 198) hX dL_act_197 rfl rfl ?_
  refine ro_icmp_ne (tgt := 209) (q := 201) hX dL_act_198 (by decide) rfl (fun q => absurd (hs) q) (fun _ => ?_)
  refine ro_aload_n (i := 0) (q := 202) hX dL_act_201 rfl rfl rfl ?_
  refine ro_iconst (v := nI 2) (q := 203) hX dL_act_202 rfl rfl ?_
  refine ro_callVi (q9 := 206) hX (hD) mw_X2_pass kl_L_65 (by decide) (fun cy => cell2 (by decide +kernel)) rfl rfl rfl (Nat.le_of_ble_eq_true rfl) ⟨Nat.le_of_ble_eq_true rfl, Nat.le_of_ble_eq_true rfl⟩ dL_act_203 ⟨Nat.le_of_ble_eq_true rfl, Nat.le_of_ble_eq_true rfl⟩ rfl ?_
  refine ro_goto (tgt := 215) hX dL_act_206 (by decide) ?_
  exact fin_i hF (Nat.le_of_ble_eq_true rfl) (Nat.le_of_ble_eq_true rfl) dL_act_215 rfl rfl
set_option maxRecDepth 20000 in
set_option maxHeartbeats 2000000 in
theorem at_remove2 (hF : CtxF VV sz RL cL_act (some .int) (roomOf I_L_act 0 0) 7 (.inl (some v)) M' 0 0) (hh : h < 6) (hp : p < 10) (hs : ¬ stS f p = -1) (hD : Does sz I_X2_remove [.ref (sz + 0), .int (nI p)] (patch G 1 7 f, T) 0 0 (.inl (some v)) M') : VV 0 0 191 [(0, .ref (sz + 0)), (1, .int x), (2, .int y), (3, .int (nI h)), (4, .int (nI p)), (5, .int (sumS f 6))] [] (patch G 1 7 f, T) := by
  have hX := hF.c
  have hp : p < 30 := by omega
  refine ro_aload_n (i := 0) (q := 192) hX dL_act_191 rfl rfl rfl ?_
  refine ro_iload (i := 4) (q := 194) hX dL_act_192 rfl rfl ?_
  refine ro_callVi (q9 := 197) hX (x_status hp) mw_X2_status kl_L_36 (by decide) (fun cy => cell2 (by decide +kernel)) rfl rfl rfl (Nat.le_of_ble_eq_true rfl) ⟨Nat.le_of_ble_eq_true rfl, Nat.le_of_ble_eq_true rfl⟩ dL_act_194 ⟨Nat.le_of_ble_eq_true rfl, Nat.le_of_ble_eq_true rfl⟩ rfl ?_
  refine ro_iconst (v := (-1)) (q := 198) hX dL_act_197 rfl rfl ?_
  refine ro_icmp_ne (tgt := 209) (q := 201) hX dL_act_198 (by decide) rfl (fun _ => ?_) (fun q => absurd q (hs))
  refine ro_aload_n (i := 0) (q := 210) hX dL_act_209 rfl rfl rfl ?_
  refine ro_iload (i := 4) (q := 212) hX dL_act_210 rfl rfl ?_
  refine ro_callVi (q9 := 215) hX (hD) mw_X2_remove kl_L_71 (by decide) (fun cy => cell2 (by decide +kernel)) rfl rfl rfl (Nat.le_of_ble_eq_true rfl) ⟨Nat.le_of_ble_eq_true rfl, Nat.le_of_ble_eq_true rfl⟩ dL_act_212 ⟨Nat.le_of_ble_eq_true rfl, Nat.le_of_ble_eq_true rfl⟩ rfl ?_
  exact fin_i hF (Nat.le_of_ble_eq_true rfl) (Nat.le_of_ble_eq_true rfl) dL_act_215 rfl rfl
set_option maxRecDepth 20000 in
set_option maxHeartbeats 2000000 in
theorem at_stt (hF : CtxF VV sz RL cL_act (some .int) (roomOf I_L_act 0 0) 7 (.inl (some v)) M' 0 0) (hh : h < 6) (hp : p < 10)  (hD : Does sz I_X2_setTransferTime [.ref (sz + 0), .int (nI (1 + upN y 12))] (patch G 1 7 f, T) 0 0 (.inl (some v)) M') : VV 0 0 216 [(0, .ref (sz + 0)), (1, .int x), (2, .int y), (3, .int (nI h)), (4, .int (nI p)), (5, .int (sumS f 6))] [] (patch G 1 7 f, T) := by
  have hX := hF.c
  have hp : p < 30 := by omega
  refine ro_aload_n (i := 0) (q := 217) hX dL_act_216 rfl rfl rfl ?_
  refine ro_iconst (v := nI 1) (q := 218) hX dL_act_217 rfl rfl ?_
  refine ro_iload_n (i := 2) (q := 219) hX dL_act_218 rfl rfl rfl ?_
  refine ro_bipush (v := nI 12) (q := 221) hX dL_act_219 rfl rfl ?_
  refine ro_callSi (q9 := 224) hX (l_up (x := y) (n := 12) (by decide) (by decide)) mw_L_up kl_L_57 rfl rfl (Nat.le_of_ble_eq_true rfl) ⟨Nat.le_of_ble_eq_true rfl, Nat.le_of_ble_eq_true rfl⟩ dL_act_221 ⟨Nat.le_of_ble_eq_true rfl, Nat.le_of_ble_eq_true rfl⟩ rfl ?_
  refine ro_iadd (q := 225) hX dL_act_224 rfl ?_
  refine vv_top (y := (nI (1 + upN y 12))) (nI_add' rfl rfl) ?_
  refine ro_callVi (q9 := 228) hX (hD) mw_X2_setTransferTime kl_L_74 (by decide) (fun cy => cell2 (by decide +kernel)) rfl rfl rfl (Nat.le_of_ble_eq_true rfl) ⟨Nat.le_of_ble_eq_true rfl, Nat.le_of_ble_eq_true rfl⟩ dL_act_225 ⟨Nat.le_of_ble_eq_true rfl, Nat.le_of_ble_eq_true rfl⟩ rfl ?_
  exact fin_i hF (Nat.le_of_ble_eq_true rfl) (Nat.le_of_ble_eq_true rfl) dL_act_228 rfl rfl
set_option maxRecDepth 20000 in
set_option maxHeartbeats 2000000 in
theorem at_pass5 (hF : CtxF VV sz RL cL_act (some .int) (roomOf I_L_act 0 0) 7 (.inl (some v)) M' 0 0) (hh : h < 6) (hp : p < 10) (hs : (y >>> (nI 9 &&& 31)) &&& nI 1 = 0) (hD : Does sz I_X2_pass [.ref (sz + 0), .int (nI (1 + upN y 5))] (patch G 1 7 f, T) 0 0 (.inl (some v)) M') : VV 0 0 229 [(0, .ref (sz + 0)), (1, .int x), (2, .int y), (3, .int (nI h)), (4, .int (nI p)), (5, .int (sumS f 6))] [] (patch G 1 7 f, T) := by
  have hX := hF.c
  have hp : p < 30 := by omega
  refine ro_aload_n (i := 0) (q := 230) hX dL_act_229 rfl rfl rfl ?_
  refine ro_iconst (v := nI 1) (q := 231) hX dL_act_230 rfl rfl ?_
  refine ro_iload_n (i := 2) (q := 232) hX dL_act_231 rfl rfl rfl ?_
  refine ro_iload_n (i := 2) (q := 233) hX dL_act_232 rfl rfl rfl ?_
  refine ro_bipush (v := nI 9) (q := 235) hX dL_act_233 rfl rfl ?_
  refine ro_ishr (q := 236) hX dL_act_235 rfl ?_
  refine ro_iconst (v := nI 1) (q := 237) hX dL_act_236 rfl rfl ?_
  refine ro_iand (q := 238) hX dL_act_237 rfl ?_
  refine ro_if_ne (tgt := 245) (q := 241) hX dL_act_238 (by decide) rfl (fun q => absurd (hs) q) (fun _ => ?_)
  refine ro_iconst (v := nI 5) (q := 242) hX dL_act_241 rfl rfl ?_
  refine ro_goto (tgt := 247) hX dL_act_242 (by decide) ?_
  refine ro_callSi (q9 := 250) hX (l_up (x := y) (n := 5) (by decide) (by decide)) mw_L_up kl_L_57 rfl rfl (Nat.le_of_ble_eq_true rfl) ⟨Nat.le_of_ble_eq_true rfl, Nat.le_of_ble_eq_true rfl⟩ dL_act_247 ⟨Nat.le_of_ble_eq_true rfl, Nat.le_of_ble_eq_true rfl⟩ rfl ?_
  refine ro_iadd (q := 251) hX dL_act_250 rfl ?_
  refine vv_top (y := (nI (1 + upN y 5))) (nI_add' rfl rfl) ?_
  refine ro_callVi (q9 := 254) hX (hD) mw_X2_pass kl_L_65 (by decide) (fun cy => cell2 (by decide +kernel)) rfl rfl rfl (Nat.le_of_ble_eq_true rfl) ⟨Nat.le_of_ble_eq_true rfl, Nat.le_of_ble_eq_true rfl⟩ dL_act_251 ⟨Nat.le_of_ble_eq_true rfl, Nat.le_of_ble_eq_true rfl⟩ rfl ?_
  exact fin_i hF (Nat.le_of_ble_eq_true rfl) (Nat.le_of_ble_eq_true rfl) dL_act_254 rfl rfl
set_option maxRecDepth 20000 in
set_option maxHeartbeats 2000000 in
theorem at_pass40 (hF : CtxF VV sz RL cL_act (some .int) (roomOf I_L_act 0 0) 7 (.inl (some v)) M' 0 0) (hh : h < 6) (hp : p < 10) (hs : ¬ (y >>> (nI 9 &&& 31)) &&& nI 1 = 0) (hD : Does sz I_X2_pass [.ref (sz + 0), .int (nI (1 + upN y 40))] (patch G 1 7 f, T) 0 0 (.inl (some v)) M') : VV 0 0 229 [(0, .ref (sz + 0)), (1, .int x), (2, .int y), (3, .int (nI h)), (4, .int (nI p)), (5, .int (sumS f 6))] [] (patch G 1 7 f, T) := by
  have hX := hF.c
  have hp : p < 30 := by omega
  refine ro_aload_n (i := 0) (q := 230) hX dL_act_229 rfl rfl rfl ?_
  refine ro_iconst (v := nI 1) (q := 231) hX dL_act_230 rfl rfl ?_
  refine ro_iload_n (i := 2) (q := 232) hX dL_act_231 rfl rfl rfl ?_
  refine ro_iload_n (i := 2) (q := 233) hX dL_act_232 rfl rfl rfl ?_
  refine ro_bipush (v := nI 9) (q := 235) hX dL_act_233 rfl rfl ?_
  refine ro_ishr (q := 236) hX dL_act_235 rfl ?_
  refine ro_iconst (v := nI 1) (q := 237) hX dL_act_236 rfl rfl ?_
  refine ro_iand (q := 238) hX dL_act_237 rfl ?_
  refine ro_if_ne (tgt := 245) (q := 241) hX dL_act_238 (by decide) rfl (fun _ => ?_) (fun q => absurd q (hs))
  refine ro_bipush (v := nI 40) (q := 247) hX dL_act_245 rfl rfl ?_
  refine ro_callSi (q9 := 250) hX (l_up (x := y) (n := 40) (by decide) (by decide)) mw_L_up kl_L_57 rfl rfl (Nat.le_of_ble_eq_true rfl) ⟨Nat.le_of_ble_eq_true rfl, Nat.le_of_ble_eq_true rfl⟩ dL_act_247 ⟨Nat.le_of_ble_eq_true rfl, Nat.le_of_ble_eq_true rfl⟩ rfl ?_
  refine ro_iadd (q := 251) hX dL_act_250 rfl ?_
  refine vv_top (y := (nI (1 + upN y 40))) (nI_add' rfl rfl) ?_
  refine ro_callVi (q9 := 254) hX (hD) mw_X2_pass kl_L_65 (by decide) (fun cy => cell2 (by decide +kernel)) rfl rfl rfl (Nat.le_of_ble_eq_true rfl) ⟨Nat.le_of_ble_eq_true rfl, Nat.le_of_ble_eq_true rfl⟩ dL_act_251 ⟨Nat.le_of_ble_eq_true rfl, Nat.le_of_ble_eq_true rfl⟩ rfl ?_
  exact fin_i hF (Nat.le_of_ble_eq_true rfl) (Nat.le_of_ble_eq_true rfl) dL_act_254 rfl rfl
set_option maxRecDepth 20000 in
set_option maxHeartbeats 2000000 in
theorem at_pass3 (hF : CtxF VV sz RL cL_act (some .int) (roomOf I_L_act 0 0) 7 (.inl (some v)) M' 0 0) (hh : h < 6) (hp : p < 10) (hs : f 1 h = 0) (hD : Does sz I_X2_pass [.ref (sz + 0), .int (nI 3)] (patch G 1 7 f, T) 0 0 (.inl (some v)) M') : VV 0 0 255 [(0, .ref (sz + 0)), (1, .int x), (2, .int y), (3, .int (nI h)), (4, .int (nI p)), (5, .int (sumS f 6))] [] (patch G 1 7 f, T) := by
  have hX := hF.c
  have hp : p < 30 := by omega
  refine ro_aload_n (i := 0) (q := 256) hX dL_act_255 rfl rfl rfl ?_
  refine ro_iload_n (i := 3) (q := 257) hX dL_act_256 rfl rfl rfl ?_
  refine ro_callVi (q9 := 260) hX (x_mode hh) mw_X2_mode kl_L_19 (by decide) (fun cy => cell2 (by decide +kernel)) rfl rfl rfl (Nat.le_of_ble_eq_true rfl) ⟨Nat.le_of_ble_eq_true rfl, Nat.le_of_ble_eq_true rfl⟩ dL_act_257 ⟨Nat.le_of_ble_eq_true rfl, Nat.le_of_ble_eq_true rfl⟩ rfl ?_
  refine ro_if_ne (tgt := 271) (q := 263) hX dL_act_260 (by decide) rfl (fun q => absurd (hs) q) (fun _ => ?_)
  refine ro_aload_n (i := 0) (q := 264) hX dL_act_263 rfl rfl rfl ?_
  refine ro_iconst (v := nI 3) (q := 265) hX dL_act_264 rfl rfl ?_
  refine ro_callVi (q9 := 268) hX (hD) mw_X2_pass kl_L_65 (by decide) (fun cy => cell2 (by decide +kernel)) rfl rfl rfl (Nat.le_of_ble_eq_true rfl) ⟨Nat.le_of_ble_eq_true rfl, Nat.le_of_ble_eq_true rfl⟩ dL_act_265 ⟨Nat.le_of_ble_eq_true rfl, Nat.le_of_ble_eq_true rfl⟩ rfl ?_
  refine ro_goto (tgt := 276) hX dL_act_268 (by decide) ?_
  exact fin_i hF (Nat.le_of_ble_eq_true rfl) (Nat.le_of_ble_eq_true rfl) dL_act_276 rfl rfl
set_option maxRecDepth 20000 in
set_option maxHeartbeats 2000000 in
theorem at_crash (hF : CtxF VV sz RL cL_act (some .int) (roomOf I_L_act 0 0) 7 (.inl (some v)) M' 0 0) (hh : h < 6) (hp : p < 10) (hs : ¬ f 1 h = 0) (hD : Does sz I_X2_crash [.ref (sz + 0), .int (nI h)] (patch G 1 7 f, T) 0 0 (.inl (some v)) M') : VV 0 0 255 [(0, .ref (sz + 0)), (1, .int x), (2, .int y), (3, .int (nI h)), (4, .int (nI p)), (5, .int (sumS f 6))] [] (patch G 1 7 f, T) := by
  have hX := hF.c
  have hp : p < 30 := by omega
  refine ro_aload_n (i := 0) (q := 256) hX dL_act_255 rfl rfl rfl ?_
  refine ro_iload_n (i := 3) (q := 257) hX dL_act_256 rfl rfl rfl ?_
  refine ro_callVi (q9 := 260) hX (x_mode hh) mw_X2_mode kl_L_19 (by decide) (fun cy => cell2 (by decide +kernel)) rfl rfl rfl (Nat.le_of_ble_eq_true rfl) ⟨Nat.le_of_ble_eq_true rfl, Nat.le_of_ble_eq_true rfl⟩ dL_act_257 ⟨Nat.le_of_ble_eq_true rfl, Nat.le_of_ble_eq_true rfl⟩ rfl ?_
  refine ro_if_ne (tgt := 271) (q := 263) hX dL_act_260 (by decide) rfl (fun _ => ?_) (fun q => absurd q (hs))
  refine ro_aload_n (i := 0) (q := 272) hX dL_act_271 rfl rfl rfl ?_
  refine ro_iload_n (i := 3) (q := 273) hX dL_act_272 rfl rfl rfl ?_
  refine ro_callVi (q9 := 276) hX (hD) mw_X2_crash kl_L_77 (by decide) (fun cy => cell2 (by decide +kernel)) rfl rfl rfl (Nat.le_of_ble_eq_true rfl) ⟨Nat.le_of_ble_eq_true rfl, Nat.le_of_ble_eq_true rfl⟩ dL_act_273 ⟨Nat.le_of_ble_eq_true rfl, Nat.le_of_ble_eq_true rfl⟩ rfl ?_
  exact fin_i hF (Nat.le_of_ble_eq_true rfl) (Nat.le_of_ble_eq_true rfl) dL_act_276 rfl rfl
set_option maxRecDepth 20000 in
set_option maxHeartbeats 2000000 in
theorem at_recon (hF : CtxF VV sz RL cL_act (some .int) (roomOf I_L_act 0 0) 7 (.inl (some v)) M' 0 0) (hh : h < 6) (hp : p < 10) (hs : tb (f 0 7) (nI h) = false) (hD : Does sz I_X2_reconnect [.ref (sz + 0), .int (nI h)] (patch G 1 7 f, T) 0 0 (.inl (some v)) M') : VV 0 0 277 [(0, .ref (sz + 0)), (1, .int x), (2, .int y), (3, .int (nI h)), (4, .int (nI p)), (5, .int (sumS f 6))] [] (patch G 1 7 f, T) := by
  have hX := hF.c
  have hp : p < 30 := by omega
  refine ro_aload_n (i := 0) (q := 278) hX dL_act_277 rfl rfl rfl ?_
  refine ro_iload_n (i := 3) (q := 279) hX dL_act_278 rfl rfl rfl ?_
  refine ro_callVi (q9 := 282) hX (x_isConnected hh) mw_X2_isConnected kl_L_32 (by decide) (fun cy => cell2 (by decide +kernel)) rfl rfl rfl (Nat.le_of_ble_eq_true rfl) ⟨Nat.le_of_ble_eq_true rfl, Nat.le_of_ble_eq_true rfl⟩ dL_act_279 ⟨Nat.le_of_ble_eq_true rfl, Nat.le_of_ble_eq_true rfl⟩ rfl ?_
  refine ro_ifb_ne (tgt := 293) (q := 285) hX dL_act_282 (by decide) rfl (fun q => absurd ((hs).symm.trans q) (by decide)) (fun _ => ?_)
  refine ro_aload_n (i := 0) (q := 286) hX dL_act_285 rfl rfl rfl ?_
  refine ro_iload_n (i := 3) (q := 287) hX dL_act_286 rfl rfl rfl ?_
  refine ro_callVi (q9 := 290) hX (hD) mw_X2_reconnect kl_L_80 (by decide) (fun cy => cell2 (by decide +kernel)) rfl rfl rfl (Nat.le_of_ble_eq_true rfl) ⟨Nat.le_of_ble_eq_true rfl, Nat.le_of_ble_eq_true rfl⟩ dL_act_287 ⟨Nat.le_of_ble_eq_true rfl, Nat.le_of_ble_eq_true rfl⟩ rfl ?_
  refine ro_goto (tgt := 324) hX dL_act_290 (by decide) ?_
  exact fin_i hF (Nat.le_of_ble_eq_true rfl) (Nat.le_of_ble_eq_true rfl) dL_act_324 rfl rfl
set_option maxRecDepth 20000 in
set_option maxHeartbeats 2000000 in
theorem at_lend (hF : CtxF VV sz RL cL_act (some .int) (roomOf I_L_act 0 0) 7 (.inl (some v)) M' 0 0) (hh : h < 6) (hp : p < 10) (hs : tb (f 0 7) (nI h) = true) (hr : f 1 h = 0) (hD : Does sz I_X2_lend [.ref (sz + 0), .int (nI h), .int (nI (1 + upN (y >>> (nI 3 &&& 31)) 6))] (patch G 1 7 f, T) 0 0 (.inl (some v)) M') : VV 0 0 277 [(0, .ref (sz + 0)), (1, .int x), (2, .int y), (3, .int (nI h)), (4, .int (nI p)), (5, .int (sumS f 6))] [] (patch G 1 7 f, T) := by
  have hX := hF.c
  have hp : p < 30 := by omega
  refine ro_aload_n (i := 0) (q := 278) hX dL_act_277 rfl rfl rfl ?_
  refine ro_iload_n (i := 3) (q := 279) hX dL_act_278 rfl rfl rfl ?_
  refine ro_callVi (q9 := 282) hX (x_isConnected hh) mw_X2_isConnected kl_L_32 (by decide) (fun cy => cell2 (by decide +kernel)) rfl rfl rfl (Nat.le_of_ble_eq_true rfl) ⟨Nat.le_of_ble_eq_true rfl, Nat.le_of_ble_eq_true rfl⟩ dL_act_279 ⟨Nat.le_of_ble_eq_true rfl, Nat.le_of_ble_eq_true rfl⟩ rfl ?_
  refine ro_ifb_ne (tgt := 293) (q := 285) hX dL_act_282 (by decide) rfl (fun _ => ?_) (fun q => absurd ((hs).symm.trans q) (by decide))
  refine ro_aload_n (i := 0) (q := 294) hX dL_act_293 rfl rfl rfl ?_
  refine ro_iload_n (i := 3) (q := 295) hX dL_act_294 rfl rfl rfl ?_
  refine ro_callVi (q9 := 298) hX (x_mode hh) mw_X2_mode kl_L_19 (by decide) (fun cy => cell2 (by decide +kernel)) rfl rfl rfl (Nat.le_of_ble_eq_true rfl) ⟨Nat.le_of_ble_eq_true rfl, Nat.le_of_ble_eq_true rfl⟩ dL_act_295 ⟨Nat.le_of_ble_eq_true rfl, Nat.le_of_ble_eq_true rfl⟩ rfl ?_
  refine ro_if_ne (tgt := 319) (q := 301) hX dL_act_298 (by decide) rfl (fun q => absurd (hr) q) (fun _ => ?_)
  refine ro_aload_n (i := 0) (q := 302) hX dL_act_301 rfl rfl rfl ?_
  refine ro_iload_n (i := 3) (q := 303) hX dL_act_302 rfl rfl rfl ?_
  refine ro_iconst (v := nI 1) (q := 304) hX dL_act_303 rfl rfl ?_
  refine ro_iload_n (i := 2) (q := 305) hX dL_act_304 rfl rfl rfl ?_
  refine ro_iconst (v := nI 3) (q := 306) hX dL_act_305 rfl rfl ?_
  refine ro_ishr (q := 307) hX dL_act_306 rfl ?_
  refine ro_bipush (v := nI 6) (q := 309) hX dL_act_307 rfl rfl ?_
  refine ro_callSi (q9 := 312) hX (l_up (x := y >>> ((nI 3) &&& 31)) (n := 6) (by decide) (by decide)) mw_L_up kl_L_57 rfl rfl (Nat.le_of_ble_eq_true rfl) ⟨Nat.le_of_ble_eq_true rfl, Nat.le_of_ble_eq_true rfl⟩ dL_act_309 ⟨Nat.le_of_ble_eq_true rfl, Nat.le_of_ble_eq_true rfl⟩ rfl ?_
  refine ro_iadd (q := 313) hX dL_act_312 rfl ?_
  refine vv_top (y := (nI (1 + upN (y >>> (nI 3 &&& 31)) 6))) (nI_add' rfl rfl) ?_
  refine ro_callVi (q9 := 316) hX (hD) mw_X2_lend kl_L_83 (by decide) (fun cy => cell2 (by decide +kernel)) rfl rfl rfl (Nat.le_of_ble_eq_true rfl) ⟨Nat.le_of_ble_eq_true rfl, Nat.le_of_ble_eq_true rfl⟩ dL_act_313 ⟨Nat.le_of_ble_eq_true rfl, Nat.le_of_ble_eq_true rfl⟩ rfl ?_
  refine ro_goto (tgt := 324) hX dL_act_316 (by decide) ?_
  exact fin_i hF (Nat.le_of_ble_eq_true rfl) (Nat.le_of_ble_eq_true rfl) dL_act_324 rfl rfl
set_option maxRecDepth 20000 in
set_option maxHeartbeats 2000000 in
theorem at_disc (hF : CtxF VV sz RL cL_act (some .int) (roomOf I_L_act 0 0) 7 (.inl (some v)) M' 0 0) (hh : h < 6) (hp : p < 10) (hs : tb (f 0 7) (nI h) = true) (hr : ¬ f 1 h = 0) (hD : Does sz I_X2_disconnect [.ref (sz + 0), .int (nI h)] (patch G 1 7 f, T) 0 0 (.inl (some v)) M') : VV 0 0 277 [(0, .ref (sz + 0)), (1, .int x), (2, .int y), (3, .int (nI h)), (4, .int (nI p)), (5, .int (sumS f 6))] [] (patch G 1 7 f, T) := by
  have hX := hF.c
  have hp : p < 30 := by omega
  refine ro_aload_n (i := 0) (q := 278) hX dL_act_277 rfl rfl rfl ?_
  refine ro_iload_n (i := 3) (q := 279) hX dL_act_278 rfl rfl rfl ?_
  refine ro_callVi (q9 := 282) hX (x_isConnected hh) mw_X2_isConnected kl_L_32 (by decide) (fun cy => cell2 (by decide +kernel)) rfl rfl rfl (Nat.le_of_ble_eq_true rfl) ⟨Nat.le_of_ble_eq_true rfl, Nat.le_of_ble_eq_true rfl⟩ dL_act_279 ⟨Nat.le_of_ble_eq_true rfl, Nat.le_of_ble_eq_true rfl⟩ rfl ?_
  refine ro_ifb_ne (tgt := 293) (q := 285) hX dL_act_282 (by decide) rfl (fun _ => ?_) (fun q => absurd ((hs).symm.trans q) (by decide))
  refine ro_aload_n (i := 0) (q := 294) hX dL_act_293 rfl rfl rfl ?_
  refine ro_iload_n (i := 3) (q := 295) hX dL_act_294 rfl rfl rfl ?_
  refine ro_callVi (q9 := 298) hX (x_mode hh) mw_X2_mode kl_L_19 (by decide) (fun cy => cell2 (by decide +kernel)) rfl rfl rfl (Nat.le_of_ble_eq_true rfl) ⟨Nat.le_of_ble_eq_true rfl, Nat.le_of_ble_eq_true rfl⟩ dL_act_295 ⟨Nat.le_of_ble_eq_true rfl, Nat.le_of_ble_eq_true rfl⟩ rfl ?_
  refine ro_if_ne (tgt := 319) (q := 301) hX dL_act_298 (by decide) rfl (fun _ => ?_) (fun q => absurd q (hr))
  refine ro_aload_n (i := 0) (q := 320) hX dL_act_319 rfl rfl rfl ?_
  refine ro_iload_n (i := 3) (q := 321) hX dL_act_320 rfl rfl rfl ?_
  refine ro_callVi (q9 := 324) hX (hD) mw_X2_disconnect kl_L_86 (by decide) (fun cy => cell2 (by decide +kernel)) rfl rfl rfl (Nat.le_of_ble_eq_true rfl) ⟨Nat.le_of_ble_eq_true rfl, Nat.le_of_ble_eq_true rfl⟩ dL_act_321 ⟨Nat.le_of_ble_eq_true rfl, Nat.le_of_ble_eq_true rfl⟩ rfl ?_
  exact fin_i hF (Nat.le_of_ble_eq_true rfl) (Nat.le_of_ble_eq_true rfl) dL_act_324 rfl rfl
set_option maxRecDepth 20000 in
set_option maxHeartbeats 2000000 in
theorem at_recall (hF : CtxF VV sz RL cL_act (some .int) (roomOf I_L_act 0 0) 7 (.inl (some v)) M' 0 0) (hh : h < 6) (hp : p < 10) (hs : tb (f 0 7) (nI h) = true) (hr : f 1 h = nI 1) (hD : Does sz I_X2_recall [.ref (sz + 0), .int (nI h), .int (nI (1 + upN (y >>> (nI 3 &&& 31)) 50))] (patch G 1 7 f, T) 0 0 (.inl (some v)) M') : VV 0 0 325 [(0, .ref (sz + 0)), (1, .int x), (2, .int y), (3, .int (nI h)), (4, .int (nI p)), (5, .int (sumS f 6))] [] (patch G 1 7 f, T) := by
  have hX := hF.c
  have hp : p < 30 := by omega
  refine ro_aload_n (i := 0) (q := 326) hX dL_act_325 rfl rfl rfl ?_
  refine ro_iload_n (i := 3) (q := 327) hX dL_act_326 rfl rfl rfl ?_
  refine ro_callVi (q9 := 330) hX (x_isConnected hh) mw_X2_isConnected kl_L_32 (by decide) (fun cy => cell2 (by decide +kernel)) rfl rfl rfl (Nat.le_of_ble_eq_true rfl) ⟨Nat.le_of_ble_eq_true rfl, Nat.le_of_ble_eq_true rfl⟩ dL_act_327 ⟨Nat.le_of_ble_eq_true rfl, Nat.le_of_ble_eq_true rfl⟩ rfl ?_
  refine ro_ifb_eq (tgt := 360) (q := 333) hX dL_act_330 (by decide) rfl (fun q => absurd ((hs).symm.trans q) (by decide)) (fun _ => ?_)
  refine ro_aload_n (i := 0) (q := 334) hX dL_act_333 rfl rfl rfl ?_
  refine ro_iload_n (i := 3) (q := 335) hX dL_act_334 rfl rfl rfl ?_
  refine ro_callVi (q9 := 338) hX (x_mode hh) mw_X2_mode kl_L_19 (by decide) (fun cy => cell2 (by decide +kernel)) rfl rfl rfl (Nat.le_of_ble_eq_true rfl) ⟨Nat.le_of_ble_eq_true rfl, Nat.le_of_ble_eq_true rfl⟩ dL_act_335 ⟨Nat.le_of_ble_eq_true rfl, Nat.le_of_ble_eq_true rfl⟩ rfl ?_
  refine ro_iconst (v := nI 1) (q := 339) hX dL_act_338 rfl rfl ?_
  refine ro_icmp_ne (tgt := 360) (q := 342) hX dL_act_339 (by decide) rfl (fun q => absurd (hr) q) (fun _ => ?_)
  refine ro_aload_n (i := 0) (q := 343) hX dL_act_342 rfl rfl rfl ?_
  refine ro_iload_n (i := 3) (q := 344) hX dL_act_343 rfl rfl rfl ?_
  refine ro_iconst (v := nI 1) (q := 345) hX dL_act_344 rfl rfl ?_
  refine ro_iload_n (i := 2) (q := 346) hX dL_act_345 rfl rfl rfl ?_
  refine ro_iconst (v := nI 3) (q := 347) hX dL_act_346 rfl rfl ?_
  refine ro_ishr (q := 348) hX dL_act_347 rfl ?_
  refine ro_bipush (v := nI 50) (q := 350) hX dL_act_348 rfl rfl ?_
  refine ro_callSi (q9 := 353) hX (l_up (x := y >>> ((nI 3) &&& 31)) (n := 50) (by decide) (by decide)) mw_L_up kl_L_57 rfl rfl (Nat.le_of_ble_eq_true rfl) ⟨Nat.le_of_ble_eq_true rfl, Nat.le_of_ble_eq_true rfl⟩ dL_act_350 ⟨Nat.le_of_ble_eq_true rfl, Nat.le_of_ble_eq_true rfl⟩ rfl ?_
  refine ro_iadd (q := 354) hX dL_act_353 rfl ?_
  refine vv_top (y := (nI (1 + upN (y >>> (nI 3 &&& 31)) 50))) (nI_add' rfl rfl) ?_
  refine ro_callVi (q9 := 357) hX (hD) mw_X2_recall kl_L_89 (by decide) (fun cy => cell2 (by decide +kernel)) rfl rfl rfl (Nat.le_of_ble_eq_true rfl) ⟨Nat.le_of_ble_eq_true rfl, Nat.le_of_ble_eq_true rfl⟩ dL_act_354 ⟨Nat.le_of_ble_eq_true rfl, Nat.le_of_ble_eq_true rfl⟩ rfl ?_
  refine ro_goto (tgt := 365) hX dL_act_357 (by decide) ?_
  exact fin_i hF (Nat.le_of_ble_eq_true rfl) (Nat.le_of_ble_eq_true rfl) dL_act_365 rfl rfl
set_option maxRecDepth 20000 in
set_option maxHeartbeats 2000000 in
theorem at_pass1c (hF : CtxF VV sz RL cL_act (some .int) (roomOf I_L_act 0 0) 7 (.inl (some v)) M' 0 0) (hh : h < 6) (hp : p < 10) (hs : tb (f 0 7) (nI h) = false) (hD : Does sz I_X2_pass [.ref (sz + 0), .int (nI 1)] (patch G 1 7 f, T) 0 0 (.inl (some v)) M') : VV 0 0 325 [(0, .ref (sz + 0)), (1, .int x), (2, .int y), (3, .int (nI h)), (4, .int (nI p)), (5, .int (sumS f 6))] [] (patch G 1 7 f, T) := by
  have hX := hF.c
  have hp : p < 30 := by omega
  refine ro_aload_n (i := 0) (q := 326) hX dL_act_325 rfl rfl rfl ?_
  refine ro_iload_n (i := 3) (q := 327) hX dL_act_326 rfl rfl rfl ?_
  refine ro_callVi (q9 := 330) hX (x_isConnected hh) mw_X2_isConnected kl_L_32 (by decide) (fun cy => cell2 (by decide +kernel)) rfl rfl rfl (Nat.le_of_ble_eq_true rfl) ⟨Nat.le_of_ble_eq_true rfl, Nat.le_of_ble_eq_true rfl⟩ dL_act_327 ⟨Nat.le_of_ble_eq_true rfl, Nat.le_of_ble_eq_true rfl⟩ rfl ?_
  refine ro_ifb_eq (tgt := 360) (q := 333) hX dL_act_330 (by decide) rfl (fun _ => ?_) (fun q => absurd ((hs).symm.trans q) (by decide))
  refine ro_aload_n (i := 0) (q := 361) hX dL_act_360 rfl rfl rfl ?_
  refine ro_iconst (v := nI 1) (q := 362) hX dL_act_361 rfl rfl ?_
  refine ro_callVi (q9 := 365) hX (hD) mw_X2_pass kl_L_65 (by decide) (fun cy => cell2 (by decide +kernel)) rfl rfl rfl (Nat.le_of_ble_eq_true rfl) ⟨Nat.le_of_ble_eq_true rfl, Nat.le_of_ble_eq_true rfl⟩ dL_act_362 ⟨Nat.le_of_ble_eq_true rfl, Nat.le_of_ble_eq_true rfl⟩ rfl ?_
  exact fin_i hF (Nat.le_of_ble_eq_true rfl) (Nat.le_of_ble_eq_true rfl) dL_act_365 rfl rfl
set_option maxRecDepth 20000 in
set_option maxHeartbeats 2000000 in
theorem at_pass1d (hF : CtxF VV sz RL cL_act (some .int) (roomOf I_L_act 0 0) 7 (.inl (some v)) M' 0 0) (hh : h < 6) (hp : p < 10) (hs : tb (f 0 7) (nI h) = true) (hr : ¬ f 1 h = nI 1) (hD : Does sz I_X2_pass [.ref (sz + 0), .int (nI 1)] (patch G 1 7 f, T) 0 0 (.inl (some v)) M') : VV 0 0 325 [(0, .ref (sz + 0)), (1, .int x), (2, .int y), (3, .int (nI h)), (4, .int (nI p)), (5, .int (sumS f 6))] [] (patch G 1 7 f, T) := by
  have hX := hF.c
  have hp : p < 30 := by omega
  refine ro_aload_n (i := 0) (q := 326) hX dL_act_325 rfl rfl rfl ?_
  refine ro_iload_n (i := 3) (q := 327) hX dL_act_326 rfl rfl rfl ?_
  refine ro_callVi (q9 := 330) hX (x_isConnected hh) mw_X2_isConnected kl_L_32 (by decide) (fun cy => cell2 (by decide +kernel)) rfl rfl rfl (Nat.le_of_ble_eq_true rfl) ⟨Nat.le_of_ble_eq_true rfl, Nat.le_of_ble_eq_true rfl⟩ dL_act_327 ⟨Nat.le_of_ble_eq_true rfl, Nat.le_of_ble_eq_true rfl⟩ rfl ?_
  refine ro_ifb_eq (tgt := 360) (q := 333) hX dL_act_330 (by decide) rfl (fun q => absurd ((hs).symm.trans q) (by decide)) (fun _ => ?_)
  refine ro_aload_n (i := 0) (q := 334) hX dL_act_333 rfl rfl rfl ?_
  refine ro_iload_n (i := 3) (q := 335) hX dL_act_334 rfl rfl rfl ?_
  refine ro_callVi (q9 := 338) hX (x_mode hh) mw_X2_mode kl_L_19 (by decide) (fun cy => cell2 (by decide +kernel)) rfl rfl rfl (Nat.le_of_ble_eq_true rfl) ⟨Nat.le_of_ble_eq_true rfl, Nat.le_of_ble_eq_true rfl⟩ dL_act_335 ⟨Nat.le_of_ble_eq_true rfl, Nat.le_of_ble_eq_true rfl⟩ rfl ?_
  refine ro_iconst (v := nI 1) (q := 339) hX dL_act_338 rfl rfl ?_
  refine ro_icmp_ne (tgt := 360) (q := 342) hX dL_act_339 (by decide) rfl (fun _ => ?_) (fun q => absurd q (hr))
  refine ro_aload_n (i := 0) (q := 361) hX dL_act_360 rfl rfl rfl ?_
  refine ro_iconst (v := nI 1) (q := 362) hX dL_act_361 rfl rfl ?_
  refine ro_callVi (q9 := 365) hX (hD) mw_X2_pass kl_L_65 (by decide) (fun cy => cell2 (by decide +kernel)) rfl rfl rfl (Nat.le_of_ble_eq_true rfl) ⟨Nat.le_of_ble_eq_true rfl, Nat.le_of_ble_eq_true rfl⟩ dL_act_362 ⟨Nat.le_of_ble_eq_true rfl, Nat.le_of_ble_eq_true rfl⟩ rfl ?_
  exact fin_i hF (Nat.le_of_ble_eq_true rfl) (Nat.le_of_ble_eq_true rfl) dL_act_365 rfl rfl
set_option maxRecDepth 20000 in
set_option maxHeartbeats 2000000 in
theorem at_restore (hF : CtxF VV sz RL cL_act (some .int) (roomOf I_L_act 0 0) 7 (.inl (some v)) M' 0 0) (hh : h < 6) (hp : p < 10) (hs : y &&& nI 7 = 0) (hD : Does sz I_X2_restore [.ref (sz + 0), .int (nI 0)] (patch G 1 7 f, T) 0 0 (.inl (some v)) M') : VV 0 0 366 [(0, .ref (sz + 0)), (1, .int x), (2, .int y), (3, .int (nI h)), (4, .int (nI p)), (5, .int (sumS f 6))] [] (patch G 1 7 f, T) := by
  have hX := hF.c
  have hp : p < 30 := by omega
  refine ro_iload_n (i := 2) (q := 367) hX dL_act_366 rfl rfl rfl ?_
  refine ro_bipush (v := nI 7) (q := 369) hX dL_act_367 rfl rfl ?_
  refine ro_iand (q := 370) hX dL_act_369 rfl ?_
  refine ro_if_ne (tgt := 381) (q := 373) hX dL_act_370 (by decide) rfl (fun q => absurd (hs) q) (fun _ => ?_)
  refine ro_aload_n (i := 0) (q := 374) hX dL_act_373 rfl rfl rfl ?_
  refine ro_iconst (v := nI 0) (q := 375) hX dL_act_374 rfl rfl ?_
  refine ro_callVi (q9 := 378) hX (hD) mw_X2_restore kl_L_92 (by decide) (fun cy => cell2 (by decide +kernel)) rfl rfl rfl (Nat.le_of_ble_eq_true rfl) ⟨Nat.le_of_ble_eq_true rfl, Nat.le_of_ble_eq_true rfl⟩ dL_act_375 ⟨Nat.le_of_ble_eq_true rfl, Nat.le_of_ble_eq_true rfl⟩ rfl ?_
  refine ro_goto (tgt := 386) hX dL_act_378 (by decide) ?_
  exact fin_i hF (Nat.le_of_ble_eq_true rfl) (Nat.le_of_ble_eq_true rfl) dL_act_386 rfl rfl
set_option maxRecDepth 20000 in
set_option maxHeartbeats 2000000 in
theorem at_pass1e (hF : CtxF VV sz RL cL_act (some .int) (roomOf I_L_act 0 0) 7 (.inl (some v)) M' 0 0) (hh : h < 6) (hp : p < 10) (hs : ¬ y &&& nI 7 = 0) (hD : Does sz I_X2_pass [.ref (sz + 0), .int (nI 1)] (patch G 1 7 f, T) 0 0 (.inl (some v)) M') : VV 0 0 366 [(0, .ref (sz + 0)), (1, .int x), (2, .int y), (3, .int (nI h)), (4, .int (nI p)), (5, .int (sumS f 6))] [] (patch G 1 7 f, T) := by
  have hX := hF.c
  have hp : p < 30 := by omega
  refine ro_iload_n (i := 2) (q := 367) hX dL_act_366 rfl rfl rfl ?_
  refine ro_bipush (v := nI 7) (q := 369) hX dL_act_367 rfl rfl ?_
  refine ro_iand (q := 370) hX dL_act_369 rfl ?_
  refine ro_if_ne (tgt := 381) (q := 373) hX dL_act_370 (by decide) rfl (fun _ => ?_) (fun q => absurd q (hs))
  refine ro_aload_n (i := 0) (q := 382) hX dL_act_381 rfl rfl rfl ?_
  refine ro_iconst (v := nI 1) (q := 383) hX dL_act_382 rfl rfl ?_
  refine ro_callVi (q9 := 386) hX (hD) mw_X2_pass kl_L_65 (by decide) (fun cy => cell2 (by decide +kernel)) rfl rfl rfl (Nat.le_of_ble_eq_true rfl) ⟨Nat.le_of_ble_eq_true rfl, Nat.le_of_ble_eq_true rfl⟩ dL_act_383 ⟨Nat.le_of_ble_eq_true rfl, Nat.le_of_ble_eq_true rfl⟩ rfl ?_
  exact fin_i hF (Nat.le_of_ble_eq_true rfl) (Nat.le_of_ble_eq_true rfl) dL_act_386 rfl rfl
set_option maxRecDepth 20000 in
set_option maxHeartbeats 2000000 in
theorem at_recon2 (hF : CtxF VV sz RL cL_act (some .int) (roomOf I_L_act 0 0) 7 (.inl (some v)) M' 0 0) (hh : h < 6) (hp : p < 10) (hs : tb (f 0 7) (nI h) = false) (hD : Does sz I_X2_reconnect [.ref (sz + 0), .int (nI h)] (patch G 1 7 f, T) 0 0 (.inl (some v)) M') : VV 0 0 387 [(0, .ref (sz + 0)), (1, .int x), (2, .int y), (3, .int (nI h)), (4, .int (nI p)), (5, .int (sumS f 6))] [] (patch G 1 7 f, T) := by
  have hX := hF.c
  have hp : p < 30 := by omega
  refine ro_aload_n (i := 0) (q := 388) hX dL_act_387 rfl rfl rfl ?_
  refine ro_iload_n (i := 3) (q := 389) hX dL_act_388 rfl rfl rfl ?_
  refine ro_callVi (q9 := 392) hX (x_isConnected hh) mw_X2_isConnected kl_L_32 (by decide) (fun cy => cell2 (by decide +kernel)) rfl rfl rfl (Nat.le_of_ble_eq_true rfl) ⟨Nat.le_of_ble_eq_true rfl, Nat.le_of_ble_eq_true rfl⟩ dL_act_389 ⟨Nat.le_of_ble_eq_true rfl, Nat.le_of_ble_eq_true rfl⟩ rfl ?_
  refine ro_ifb_ne (tgt := 403) (q := 395) hX dL_act_392 (by decide) rfl (fun q => absurd ((hs).symm.trans q) (by decide)) (fun _ => ?_)
  refine ro_aload_n (i := 0) (q := 396) hX dL_act_395 rfl rfl rfl ?_
  refine ro_iload_n (i := 3) (q := 397) hX dL_act_396 rfl rfl rfl ?_
  refine ro_callVi (q9 := 400) hX (hD) mw_X2_reconnect kl_L_80 (by decide) (fun cy => cell2 (by decide +kernel)) rfl rfl rfl (Nat.le_of_ble_eq_true rfl) ⟨Nat.le_of_ble_eq_true rfl, Nat.le_of_ble_eq_true rfl⟩ dL_act_397 ⟨Nat.le_of_ble_eq_true rfl, Nat.le_of_ble_eq_true rfl⟩ rfl ?_
  refine ro_goto (tgt := 440) hX dL_act_400 (by decide) ?_
  exact fin_i hF (Nat.le_of_ble_eq_true rfl) (Nat.le_of_ble_eq_true rfl) dL_act_440 rfl rfl
set_option maxRecDepth 20000 in
set_option maxHeartbeats 2000000 in
theorem at_lend2 (hF : CtxF VV sz RL cL_act (some .int) (roomOf I_L_act 0 0) 7 (.inl (some v)) M' 0 0) (hh : h < 6) (hp : p < 10) (hs : tb (f 0 7) (nI h) = true) (hr : f 1 h = 0) (hD : Does sz I_X2_lend [.ref (sz + 0), .int (nI h), .int (nI (1 + upN (y >>> (nI 3 &&& 31)) 6))] (patch G 1 7 f, T) 0 0 (.inl (some v)) M') : VV 0 0 387 [(0, .ref (sz + 0)), (1, .int x), (2, .int y), (3, .int (nI h)), (4, .int (nI p)), (5, .int (sumS f 6))] [] (patch G 1 7 f, T) := by
  have hX := hF.c
  have hp : p < 30 := by omega
  refine ro_aload_n (i := 0) (q := 388) hX dL_act_387 rfl rfl rfl ?_
  refine ro_iload_n (i := 3) (q := 389) hX dL_act_388 rfl rfl rfl ?_
  refine ro_callVi (q9 := 392) hX (x_isConnected hh) mw_X2_isConnected kl_L_32 (by decide) (fun cy => cell2 (by decide +kernel)) rfl rfl rfl (Nat.le_of_ble_eq_true rfl) ⟨Nat.le_of_ble_eq_true rfl, Nat.le_of_ble_eq_true rfl⟩ dL_act_389 ⟨Nat.le_of_ble_eq_true rfl, Nat.le_of_ble_eq_true rfl⟩ rfl ?_
  refine ro_ifb_ne (tgt := 403) (q := 395) hX dL_act_392 (by decide) rfl (fun _ => ?_) (fun q => absurd ((hs).symm.trans q) (by decide))
  refine ro_aload_n (i := 0) (q := 404) hX dL_act_403 rfl rfl rfl ?_
  refine ro_iload_n (i := 3) (q := 405) hX dL_act_404 rfl rfl rfl ?_
  refine ro_callVi (q9 := 408) hX (x_mode hh) mw_X2_mode kl_L_19 (by decide) (fun cy => cell2 (by decide +kernel)) rfl rfl rfl (Nat.le_of_ble_eq_true rfl) ⟨Nat.le_of_ble_eq_true rfl, Nat.le_of_ble_eq_true rfl⟩ dL_act_405 ⟨Nat.le_of_ble_eq_true rfl, Nat.le_of_ble_eq_true rfl⟩ rfl ?_
  refine ro_if_ne (tgt := 429) (q := 411) hX dL_act_408 (by decide) rfl (fun q => absurd (hr) q) (fun _ => ?_)
  refine ro_aload_n (i := 0) (q := 412) hX dL_act_411 rfl rfl rfl ?_
  refine ro_iload_n (i := 3) (q := 413) hX dL_act_412 rfl rfl rfl ?_
  refine ro_iconst (v := nI 1) (q := 414) hX dL_act_413 rfl rfl ?_
  refine ro_iload_n (i := 2) (q := 415) hX dL_act_414 rfl rfl rfl ?_
  refine ro_iconst (v := nI 3) (q := 416) hX dL_act_415 rfl rfl ?_
  refine ro_ishr (q := 417) hX dL_act_416 rfl ?_
  refine ro_bipush (v := nI 6) (q := 419) hX dL_act_417 rfl rfl ?_
  refine ro_callSi (q9 := 422) hX (l_up (x := y >>> ((nI 3) &&& 31)) (n := 6) (by decide) (by decide)) mw_L_up kl_L_57 rfl rfl (Nat.le_of_ble_eq_true rfl) ⟨Nat.le_of_ble_eq_true rfl, Nat.le_of_ble_eq_true rfl⟩ dL_act_419 ⟨Nat.le_of_ble_eq_true rfl, Nat.le_of_ble_eq_true rfl⟩ rfl ?_
  refine ro_iadd (q := 423) hX dL_act_422 rfl ?_
  refine vv_top (y := (nI (1 + upN (y >>> (nI 3 &&& 31)) 6))) (nI_add' rfl rfl) ?_
  refine ro_callVi (q9 := 426) hX (hD) mw_X2_lend kl_L_83 (by decide) (fun cy => cell2 (by decide +kernel)) rfl rfl rfl (Nat.le_of_ble_eq_true rfl) ⟨Nat.le_of_ble_eq_true rfl, Nat.le_of_ble_eq_true rfl⟩ dL_act_423 ⟨Nat.le_of_ble_eq_true rfl, Nat.le_of_ble_eq_true rfl⟩ rfl ?_
  refine ro_goto (tgt := 440) hX dL_act_426 (by decide) ?_
  exact fin_i hF (Nat.le_of_ble_eq_true rfl) (Nat.le_of_ble_eq_true rfl) dL_act_440 rfl rfl
set_option maxRecDepth 20000 in
set_option maxHeartbeats 2000000 in
theorem at_pass4 (hF : CtxF VV sz RL cL_act (some .int) (roomOf I_L_act 0 0) 7 (.inl (some v)) M' 0 0) (hh : h < 6) (hp : p < 10) (hs : tb (f 0 7) (nI h) = true) (hr : ¬ f 1 h = 0) (hD : Does sz I_X2_pass [.ref (sz + 0), .int (nI (1 + upN y 4))] (patch G 1 7 f, T) 0 0 (.inl (some v)) M') : VV 0 0 387 [(0, .ref (sz + 0)), (1, .int x), (2, .int y), (3, .int (nI h)), (4, .int (nI p)), (5, .int (sumS f 6))] [] (patch G 1 7 f, T) := by
  have hX := hF.c
  have hp : p < 30 := by omega
  refine ro_aload_n (i := 0) (q := 388) hX dL_act_387 rfl rfl rfl ?_
  refine ro_iload_n (i := 3) (q := 389) hX dL_act_388 rfl rfl rfl ?_
  refine ro_callVi (q9 := 392) hX (x_isConnected hh) mw_X2_isConnected kl_L_32 (by decide) (fun cy => cell2 (by decide +kernel)) rfl rfl rfl (Nat.le_of_ble_eq_true rfl) ⟨Nat.le_of_ble_eq_true rfl, Nat.le_of_ble_eq_true rfl⟩ dL_act_389 ⟨Nat.le_of_ble_eq_true rfl, Nat.le_of_ble_eq_true rfl⟩ rfl ?_
  refine ro_ifb_ne (tgt := 403) (q := 395) hX dL_act_392 (by decide) rfl (fun _ => ?_) (fun q => absurd ((hs).symm.trans q) (by decide))
  refine ro_aload_n (i := 0) (q := 404) hX dL_act_403 rfl rfl rfl ?_
  refine ro_iload_n (i := 3) (q := 405) hX dL_act_404 rfl rfl rfl ?_
  refine ro_callVi (q9 := 408) hX (x_mode hh) mw_X2_mode kl_L_19 (by decide) (fun cy => cell2 (by decide +kernel)) rfl rfl rfl (Nat.le_of_ble_eq_true rfl) ⟨Nat.le_of_ble_eq_true rfl, Nat.le_of_ble_eq_true rfl⟩ dL_act_405 ⟨Nat.le_of_ble_eq_true rfl, Nat.le_of_ble_eq_true rfl⟩ rfl ?_
  refine ro_if_ne (tgt := 429) (q := 411) hX dL_act_408 (by decide) rfl (fun _ => ?_) (fun q => absurd q (hr))
  refine ro_aload_n (i := 0) (q := 430) hX dL_act_429 rfl rfl rfl ?_
  refine ro_iconst (v := nI 1) (q := 431) hX dL_act_430 rfl rfl ?_
  refine ro_iload_n (i := 2) (q := 432) hX dL_act_431 rfl rfl rfl ?_
  refine ro_iconst (v := nI 4) (q := 433) hX dL_act_432 rfl rfl ?_
  refine ro_callSi (q9 := 436) hX (l_up (x := y) (n := 4) (by decide) (by decide)) mw_L_up kl_L_57 rfl rfl (Nat.le_of_ble_eq_true rfl) ⟨Nat.le_of_ble_eq_true rfl, Nat.le_of_ble_eq_true rfl⟩ dL_act_433 ⟨Nat.le_of_ble_eq_true rfl, Nat.le_of_ble_eq_true rfl⟩ rfl ?_
  refine ro_iadd (q := 437) hX dL_act_436 rfl ?_
  refine vv_top (y := (nI (1 + upN y 4))) (nI_add' rfl rfl) ?_
  refine ro_callVi (q9 := 440) hX (hD) mw_X2_pass kl_L_65 (by decide) (fun cy => cell2 (by decide +kernel)) rfl rfl rfl (Nat.le_of_ble_eq_true rfl) ⟨Nat.le_of_ble_eq_true rfl, Nat.le_of_ble_eq_true rfl⟩ dL_act_437 ⟨Nat.le_of_ble_eq_true rfl, Nat.le_of_ble_eq_true rfl⟩ rfl ?_
  exact fin_i hF (Nat.le_of_ble_eq_true rfl) (Nat.le_of_ble_eq_true rfl) dL_act_440 rfl rfl
end
