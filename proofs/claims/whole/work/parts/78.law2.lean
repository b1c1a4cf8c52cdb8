/-! the law's loop, from what the two sides answer at each command -/
def OpX (sz : Nat) (Inv : Nat → Mem → Prop) (IH : MI) (hh : List (Nat × Nat × Nat × Nat)) (IM : MI) (As : List Value) : Prop := ∀ k M, k < 512 → Inv k M → ∃ (cd v : Int32) (M1 M2 M3 : Mem), DoesH sz IH hh (.ref (sz + 0) :: (As ++ [.ref (sz + 79)])) M 1 6 (.inl (some cd)) M1 ∧ Does sz IM (.ref (sz + 75) :: As) M1 0 0 (.inl (some v)) M2 ∧ Does sz I_X3_thrown [.ref (sz + 75)] M2 0 0 (.inl (some cd)) M3 ∧ (cd = 0 → M3.2.2 = v.toInt64) ∧ Inv (k + 1) M3
def OpZ (sz : Nat) (Inv : Nat → Mem → Prop) (IH : MI) (hh : List (Nat × Nat × Nat × Nat)) (IM : MI) (As : List Value) : Prop := ∀ k M, k < 512 → Inv k M → ∃ (cd v : Int32) (M1 M2 M3 : Mem), DoesH sz IH hh (.ref (sz + 0) :: (As ++ [.ref (sz + 79)])) M 1 6 (.inl (some cd)) M1 ∧ Does sz IM (.ref (sz + 75) :: As) M1 0 0 (.inl (some v)) M2 ∧ Does sz I_X3_thrown [.ref (sz + 75)] M2 0 0 (.inl (some cd)) M3 ∧ (cd = 0 → M3.2.2 = if v = 0 then 0 else 1) ∧ Inv (k + 1) M3
def OpD (sz : Nat) (Inv : Nat → Mem → Prop) (IP IM : MI) : Prop := ∀ k M, k < 512 → Inv k M → ∃ (v : Int32) (M1 M2 : Mem), Does sz IP [.ref (sz + 0)] M 0 0 (.inl (some v)) M1 ∧ Does sz IM [.ref (sz + 75)] M1 0 0 (.inl (some v)) M2 ∧ Inv (k + 1) M2
theorem lg_cmp_0 (x : Int64) : lg_cmp x x = 0 := by
  unfold lg_cmp
  rw [if_neg (by simp), if_pos rfl]
theorem ni_inc3 (k : Nat) : nI (3 * k) + Int32.ofInt 3 = nI (3 * (k + 1)) := by
  have h : Int32.ofInt 3 = nI 3 := rfl
  rw [h, nI_add]
  congr 1
theorem inL : Cond.initialized "RemoteMemoryPoolLaw" ∈ TW := tw_in (List.mem_of_getElem? (i := 68) (by decide +kernel)) (by decide +kernel)
theorem mh_L_store : MWh I_L_store hh_L_store 4 := ⟨cw_L_store, inL, ⟨by decide +kernel, by decide +kernel⟩, by decide +kernel, ms_L_store⟩
theorem mh_L_write : MWh I_L_write hh_L_write 4 := ⟨cw_L_write, inL, ⟨by decide +kernel, by decide +kernel⟩, by decide +kernel, ms_L_write⟩
theorem mh_L_read : MWh I_L_read hh_L_read 3 := ⟨cw_L_read, inL, ⟨by decide +kernel, by decide +kernel⟩, by decide +kernel, ms_L_read⟩
theorem mh_L_remove : MWh I_L_remove hh_L_remove 3 := ⟨cw_L_remove, inL, ⟨by decide +kernel, by decide +kernel⟩, by decide +kernel, ms_L_remove⟩
theorem mh_L_lend : MWh I_L_lend hh_L_lend 4 := ⟨cw_L_lend, inL, ⟨by decide +kernel, by decide +kernel⟩, by decide +kernel, ms_L_lend⟩
theorem mh_L_recall : MWh I_L_recall hh_L_recall 4 := ⟨cw_L_recall, inL, ⟨by decide +kernel, by decide +kernel⟩, by decide +kernel, ms_L_recall⟩
theorem mh_L_disconnect : MWh I_L_disconnect hh_L_disconnect 3 := ⟨cw_L_disconnect, inL, ⟨by decide +kernel, by decide +kernel⟩, by decide +kernel, ms_L_disconnect⟩
theorem mh_L_reconnect : MWh I_L_reconnect hh_L_reconnect 3 := ⟨cw_L_reconnect, inL, ⟨by decide +kernel, by decide +kernel⟩, by decide +kernel, ms_L_reconnect⟩
theorem mh_L_crash : MWh I_L_crash hh_L_crash 3 := ⟨cw_L_crash, inL, ⟨by decide +kernel, by decide +kernel⟩, by decide +kernel, ms_L_crash⟩
theorem mh_L_pass : MWh I_L_pass hh_L_pass 3 := ⟨cw_L_pass, inL, ⟨by decide +kernel, by decide +kernel⟩, by decide +kernel, ms_L_pass⟩
theorem mh_L_setTransferTime : MWh I_L_setTransferTime hh_L_setTransferTime 3 := ⟨cw_L_setTransferTime, inL, ⟨by decide +kernel, by decide +kernel⟩, by decide +kernel, ms_L_setTransferTime⟩
theorem mh_L_appendText : MWh I_L_appendText hh_L_appendText 3 := ⟨cw_L_appendText, inL, ⟨by decide +kernel, by decide +kernel⟩, by decide +kernel, ms_L_appendText⟩
theorem mh_L_runText : MWh I_L_runText hh_L_runText 2 := ⟨cw_L_runText, inL, ⟨by decide +kernel, by decide +kernel⟩, by decide +kernel, ms_L_runText⟩
theorem mh_L_undo : MWh I_L_undo hh_L_undo 2 := ⟨cw_L_undo, inL, ⟨by decide +kernel, by decide +kernel⟩, by decide +kernel, ms_L_undo⟩
theorem mh_L_save : MWh I_L_save hh_L_save 3 := ⟨cw_L_save, inL, ⟨by decide +kernel, by decide +kernel⟩, by decide +kernel, ms_L_save⟩
theorem mh_L_restore : MWh I_L_restore hh_L_restore 3 := ⟨cw_L_restore, inL, ⟨by decide +kernel, by decide +kernel⟩, by decide +kernel, ms_L_restore⟩
theorem mh_L_status : MWh I_L_status hh_L_status 3 := ⟨cw_L_status, inL, ⟨by decide +kernel, by decide +kernel⟩, by decide +kernel, ms_L_status⟩
theorem mh_L_copies : MWh I_L_copies hh_L_copies 3 := ⟨cw_L_copies, inL, ⟨by decide +kernel, by decide +kernel⟩, by decide +kernel, ms_L_copies⟩
theorem mh_L_countStatus : MWh I_L_countStatus hh_L_countStatus 3 := ⟨cw_L_countStatus, inL, ⟨by decide +kernel, by decide +kernel⟩, by decide +kernel, ms_L_countStatus⟩
theorem mh_L_mode : MWh I_L_mode hh_L_mode 3 := ⟨cw_L_mode, inL, ⟨by decide +kernel, by decide +kernel⟩, by decide +kernel, ms_L_mode⟩
theorem mh_L_isConnected : MWh I_L_isConnected hh_L_isConnected 3 := ⟨cw_L_isConnected, inL, ⟨by decide +kernel, by decide +kernel⟩, by decide +kernel, ms_L_isConnected⟩
theorem mh_L_usedRoom : MWh I_L_usedRoom hh_L_usedRoom 3 := ⟨cw_L_usedRoom, inL, ⟨by decide +kernel, by decide +kernel⟩, by decide +kernel, ms_L_usedRoom⟩
theorem mh_L_freeRoom : MWh I_L_freeRoom hh_L_freeRoom 3 := ⟨cw_L_freeRoom, inL, ⟨by decide +kernel, by decide +kernel⟩, by decide +kernel, ms_L_freeRoom⟩
theorem mh_L_deadlineIn : MWh I_L_deadlineIn hh_L_deadlineIn 3 := ⟨cw_L_deadlineIn, inL, ⟨by decide +kernel, by decide +kernel⟩, by decide +kernel, ms_L_deadlineIn⟩
theorem mh_L_replica : MWh I_L_replica hh_L_replica 4 := ⟨cw_L_replica, inL, ⟨by decide +kernel, by decide +kernel⟩, by decide +kernel, ms_L_replica⟩
theorem mh_L_transfer : MWh I_L_transfer hh_L_transfer 3 := ⟨cw_L_transfer, inL, ⟨by decide +kernel, by decide +kernel⟩, by decide +kernel, ms_L_transfer⟩
theorem mh_L_lostWithout : MWh I_L_lostWithout hh_L_lostWithout 3 := ⟨cw_L_lostWithout, inL, ⟨by decide +kernel, by decide +kernel⟩, by decide +kernel, ms_L_lostWithout⟩
theorem mh_L_lostIn : MWh I_L_lostIn hh_L_lostIn 3 := ⟨cw_L_lostIn, inL, ⟨by decide +kernel, by decide +kernel⟩, by decide +kernel, ms_L_lostIn⟩
section
variable {VV : VT} {sz b LL : Nat} {xs : Nat → Int32} {M : Mem} {Inv : Nat → Mem → Prop}
theorem law_next (h : CtxL VV sz b LL xs) {k : Nat} {c9 s9 : Nat} (kk : VV c9 s9 23 [(0, .ref b), (1, .ref (sz + 0)), (2, .ref (sz + 75)), (3, .ref (sz + 79)), (4, .int (nI (3 * (k + 1))))] [] M) : VV c9 s9 1911 [(0, .ref b), (1, .ref (sz + 0)), (2, .ref (sz + 75)), (3, .ref (sz + 79)), (4, .int (nI (3 * k)))] [] M := by
  refine ro_iinc (i := 4) (v := nI (3 * (k + 1))) (q := 1914) h.c dL_law_1911 rfl (ni_inc3 k) (Nat.le_of_ble_eq_true rfl) rfl ?_
  refine ro_goto (tgt := 23) h.c dL_law_1914 (by decide) ?_
  exact kk
set_option maxRecDepth 20000 in
theorem law_op_0 (h : CtxL VV sz b LL xs) (hL : LL ≤ 1536) {k : Nat} (hk : 3 * k + 3 ≤ LL) {c9 s9 : Nat} (hc9 : c9 ≤ 90 + k) (hs9 : s9 ≤ 4000 + 6 * k) (hI : Inv k M) (ho : ∀ x y : Int32, OpX sz Inv I_L_store hh_L_store I_X3_store [.int x, .int y]) (hP : ∀ M' c' s', Inv (k + 1) M' → c' ≤ 90 + (k + 1) → s' ≤ 4000 + 6 * (k + 1) → VV c' s' 23 [(0, .ref b), (1, .ref (sz + 0)), (2, .ref (sz + 75)), (3, .ref (sz + 79)), (4, .int (nI (3 * (k + 1))))] [] M') : VV c9 s9 196 [(0, .ref b), (1, .ref (sz + 0)), (2, .ref (sz + 75)), (3, .ref (sz + 79)), (4, .int (nI (3 * k)))] [] M := by
  obtain ⟨cd, v, M1, M2, M3, e1, e2, e3, e4, e5⟩ := ho (xs (3 * k + 1)) (xs (3 * k + 2)) k M (by omega) hI
  have hX := h.c
  refine ro_aload_n (i := 1) (q := 197) hX dL_law_196 rfl rfl rfl ?_
  refine ro_aload_n (i := 0) (q := 198) hX dL_law_197 rfl rfl rfl ?_
  refine ro_iload (i := 4) (q := 200) hX dL_law_198 rfl rfl ?_
  refine ro_iconst (v := nI 1) (q := 201) hX dL_law_200 rfl rfl ?_
  refine ro_iadd (q := 202) hX dL_law_201 rfl ?_
  refine vv_top (y := nI (3 * k + 1)) (nI_add' rfl rfl) ?_
  refine ro_sld (n := 3 * k + 1) (q9 := 203) h rfl (by omega) hL dL_law_202 rfl ?_
  refine ro_aload_n (i := 0) (q := 204) hX dL_law_203 rfl rfl rfl ?_
  refine ro_iload (i := 4) (q := 206) hX dL_law_204 rfl rfl ?_
  refine ro_iconst (v := nI 2) (q := 207) hX dL_law_206 rfl rfl ?_
  refine ro_iadd (q := 208) hX dL_law_207 rfl ?_
  refine vv_top (y := nI (3 * k + 2)) (nI_add' rfl rfl) ?_
  refine ro_sld (n := 3 * k + 2) (q9 := 209) h rfl (by omega) hL dL_law_208 rfl ?_
  refine ro_aload_n (i := 3) (q := 210) hX dL_law_209 rfl rfl rfl ?_
  refine ro_callSH (q9 := 213) hX e1 mh_L_store kl_L_107 rfl rfl (Nat.le_of_ble_eq_true rfl) ⟨Nat.le_of_ble_eq_true rfl, Nat.le_of_ble_eq_true rfl⟩ dL_law_210 ⟨(by show c9 + 1 ≤ 601024; omega), (by show s9 + 6 ≤ 7293034; omega)⟩ rfl ?_
  refine ro_istore (i := 5) (q := 215) hX dL_law_213 (Nat.le_of_ble_eq_true rfl) rfl ?_
  refine ro_aload_n (i := 2) (q := 216) hX dL_law_215 rfl rfl rfl ?_
  refine ro_aload_n (i := 0) (q := 217) hX dL_law_216 rfl rfl rfl ?_
  refine ro_iload (i := 4) (q := 219) hX dL_law_217 rfl rfl ?_
  refine ro_iconst (v := nI 1) (q := 220) hX dL_law_219 rfl rfl ?_
  refine ro_iadd (q := 221) hX dL_law_220 rfl ?_
  refine vv_top (y := nI (3 * k + 1)) (nI_add' rfl rfl) ?_
  refine ro_sld (n := 3 * k + 1) (q9 := 222) h rfl (by omega) hL dL_law_221 rfl ?_
  refine ro_aload_n (i := 0) (q := 223) hX dL_law_222 rfl rfl rfl ?_
  refine ro_iload (i := 4) (q := 225) hX dL_law_223 rfl rfl ?_
  refine ro_iconst (v := nI 2) (q := 226) hX dL_law_225 rfl rfl ?_
  refine ro_iadd (q := 227) hX dL_law_226 rfl ?_
  refine vv_top (y := nI (3 * k + 2)) (nI_add' rfl rfl) ?_
  refine ro_sld (n := 3 * k + 2) (q9 := 228) h rfl (by omega) hL dL_law_227 rfl ?_
  refine ro_callVi (q9 := 231) hX e2 mw_X3_store kl_L_112 (by decide) (fun cy => cell3 (by decide +kernel)) rfl rfl rfl (Nat.le_of_ble_eq_true rfl) ⟨Nat.le_of_ble_eq_true rfl, Nat.le_of_ble_eq_true rfl⟩ dL_law_228 ⟨(by show _ ≤ 601024; omega), (by show _ ≤ 7293034; omega)⟩ rfl ?_
  refine ro_istore (i := 6) (q := 233) hX dL_law_231 (Nat.le_of_ble_eq_true rfl) rfl ?_
  refine ro_aload_n (i := 2) (q := 234) hX dL_law_233 rfl rfl rfl ?_
  refine ro_callVi (q9 := 237) hX e3 mw_X3_thrown kl_L_113 (by decide) (fun cy => cell3 (by decide +kernel)) rfl rfl rfl (Nat.le_of_ble_eq_true rfl) ⟨Nat.le_of_ble_eq_true rfl, Nat.le_of_ble_eq_true rfl⟩ dL_law_234 ⟨(by show _ ≤ 601024; omega), (by show _ ≤ 7293034; omega)⟩ rfl ?_
  refine ro_iload (i := 5) (q := 239) hX dL_law_237 rfl rfl ?_
  refine ro_icmp_eq (tgt := 244) (q := 242) hX dL_law_239 (by decide) rfl (fun _ => ?_) (fun q => absurd rfl q)
  refine ro_iload (i := 5) (q := 246) hX dL_law_244 rfl rfl ?_
  refine ro_if_ne (tgt := 261) (q := 249) hX dL_law_246 (by decide) rfl (fun _ => ?_) (fun hz => ?_)
  · skip
    refine ro_goto (tgt := 1911) hX dL_law_261 (by decide) ?_
    refine ro_drop (L' := [(0, .ref b), (1, .ref (sz + 0)), (2, .ref (sz + 75)), (3, .ref (sz + 79)), (4, .int (nI (3 * k)))]) [5, 6] hX rfl ?_
    exact law_next h (hP _ _ _ e5 (by omega) (by omega))
  · skip
    refine ro_aload_n (i := 3) (q := 250) hX dL_law_249 rfl rfl rfl ?_
    refine ro_iconst (v := nI 0) (q := 251) hX dL_law_250 rfl rfl ?_
    refine ro_lald (q9 := 252) hX dL_law_251 rfl ?_
    refine ro_iload (i := 6) (q := 254) hX dL_law_252 rfl rfl ?_
    rw [e4 hz]
    refine ro_i2l (v := v.toInt64) (q := 255) hX dL_law_254 rfl rfl ?_
    refine ro_lcmp (q := 256) hX dL_law_255 rfl ?_
    refine ro_if_eq (tgt := 261) (q := 259) hX dL_law_256 (by decide) rfl (fun _ => ?_) (fun q => absurd (lg_cmp_0 _) q)
    refine ro_goto (tgt := 1911) hX dL_law_261 (by decide) ?_
    refine ro_drop (L' := [(0, .ref b), (1, .ref (sz + 0)), (2, .ref (sz + 75)), (3, .ref (sz + 79)), (4, .int (nI (3 * k)))]) [5, 6] hX rfl ?_
    exact law_next h (hP _ _ _ e5 (by omega) (by omega))
set_option maxRecDepth 20000 in
theorem law_op_1 (h : CtxL VV sz b LL xs) (hL : LL ≤ 1536) {k : Nat} (hk : 3 * k + 3 ≤ LL) {c9 s9 : Nat} (hc9 : c9 ≤ 90 + k) (hs9 : s9 ≤ 4000 + 6 * k) (hI : Inv k M) (ho : ∀ x y : Int32, OpX sz Inv I_L_write hh_L_write I_X3_write [.int x, .int y]) (hP : ∀ M' c' s', Inv (k + 1) M' → c' ≤ 90 + (k + 1) → s' ≤ 4000 + 6 * (k + 1) → VV c' s' 23 [(0, .ref b), (1, .ref (sz + 0)), (2, .ref (sz + 75)), (3, .ref (sz + 79)), (4, .int (nI (3 * (k + 1))))] [] M') : VV c9 s9 264 [(0, .ref b), (1, .ref (sz + 0)), (2, .ref (sz + 75)), (3, .ref (sz + 79)), (4, .int (nI (3 * k)))] [] M := by
  obtain ⟨cd, v, M1, M2, M3, e1, e2, e3, e4, e5⟩ := ho (xs (3 * k + 1)) (xs (3 * k + 2)) k M (by omega) hI
  have hX := h.c
  refine ro_aload_n (i := 1) (q := 265) hX dL_law_264 rfl rfl rfl ?_
  refine ro_aload_n (i := 0) (q := 266) hX dL_law_265 rfl rfl rfl ?_
  refine ro_iload (i := 4) (q := 268) hX dL_law_266 rfl rfl ?_
  refine ro_iconst (v := nI 1) (q := 269) hX dL_law_268 rfl rfl ?_
  refine ro_iadd (q := 270) hX dL_law_269 rfl ?_
  refine vv_top (y := nI (3 * k + 1)) (nI_add' rfl rfl) ?_
  refine ro_sld (n := 3 * k + 1) (q9 := 271) h rfl (by omega) hL dL_law_270 rfl ?_
  refine ro_aload_n (i := 0) (q := 272) hX dL_law_271 rfl rfl rfl ?_
  refine ro_iload (i := 4) (q := 274) hX dL_law_272 rfl rfl ?_
  refine ro_iconst (v := nI 2) (q := 275) hX dL_law_274 rfl rfl ?_
  refine ro_iadd (q := 276) hX dL_law_275 rfl ?_
  refine vv_top (y := nI (3 * k + 2)) (nI_add' rfl rfl) ?_
  refine ro_sld (n := 3 * k + 2) (q9 := 277) h rfl (by omega) hL dL_law_276 rfl ?_
  refine ro_aload_n (i := 3) (q := 278) hX dL_law_277 rfl rfl rfl ?_
  refine ro_callSH (q9 := 281) hX e1 mh_L_write kl_L_116 rfl rfl (Nat.le_of_ble_eq_true rfl) ⟨Nat.le_of_ble_eq_true rfl, Nat.le_of_ble_eq_true rfl⟩ dL_law_278 ⟨(by show c9 + 1 ≤ 601024; omega), (by show s9 + 6 ≤ 7293034; omega)⟩ rfl ?_
  refine ro_istore (i := 5) (q := 283) hX dL_law_281 (Nat.le_of_ble_eq_true rfl) rfl ?_
  refine ro_aload_n (i := 2) (q := 284) hX dL_law_283 rfl rfl rfl ?_
  refine ro_aload_n (i := 0) (q := 285) hX dL_law_284 rfl rfl rfl ?_
  refine ro_iload (i := 4) (q := 287) hX dL_law_285 rfl rfl ?_
  refine ro_iconst (v := nI 1) (q := 288) hX dL_law_287 rfl rfl ?_
  refine ro_iadd (q := 289) hX dL_law_288 rfl ?_
  refine vv_top (y := nI (3 * k + 1)) (nI_add' rfl rfl) ?_
  refine ro_sld (n := 3 * k + 1) (q9 := 290) h rfl (by omega) hL dL_law_289 rfl ?_
  refine ro_aload_n (i := 0) (q := 291) hX dL_law_290 rfl rfl rfl ?_
  refine ro_iload (i := 4) (q := 293) hX dL_law_291 rfl rfl ?_
  refine ro_iconst (v := nI 2) (q := 294) hX dL_law_293 rfl rfl ?_
  refine ro_iadd (q := 295) hX dL_law_294 rfl ?_
  refine vv_top (y := nI (3 * k + 2)) (nI_add' rfl rfl) ?_
  refine ro_sld (n := 3 * k + 2) (q9 := 296) h rfl (by omega) hL dL_law_295 rfl ?_
  refine ro_callVi (q9 := 299) hX e2 mw_X3_write kl_L_118 (by decide) (fun cy => cell3 (by decide +kernel)) rfl rfl rfl (Nat.le_of_ble_eq_true rfl) ⟨Nat.le_of_ble_eq_true rfl, Nat.le_of_ble_eq_true rfl⟩ dL_law_296 ⟨(by show _ ≤ 601024; omega), (by show _ ≤ 7293034; omega)⟩ rfl ?_
  refine ro_istore (i := 6) (q := 301) hX dL_law_299 (Nat.le_of_ble_eq_true rfl) rfl ?_
  refine ro_aload_n (i := 2) (q := 302) hX dL_law_301 rfl rfl rfl ?_
  refine ro_callVi (q9 := 305) hX e3 mw_X3_thrown kl_L_113 (by decide) (fun cy => cell3 (by decide +kernel)) rfl rfl rfl (Nat.le_of_ble_eq_true rfl) ⟨Nat.le_of_ble_eq_true rfl, Nat.le_of_ble_eq_true rfl⟩ dL_law_302 ⟨(by show _ ≤ 601024; omega), (by show _ ≤ 7293034; omega)⟩ rfl ?_
  refine ro_iload (i := 5) (q := 307) hX dL_law_305 rfl rfl ?_
  refine ro_icmp_eq (tgt := 312) (q := 310) hX dL_law_307 (by decide) rfl (fun _ => ?_) (fun q => absurd rfl q)
  refine ro_iload (i := 5) (q := 314) hX dL_law_312 rfl rfl ?_
  refine ro_if_ne (tgt := 329) (q := 317) hX dL_law_314 (by decide) rfl (fun _ => ?_) (fun hz => ?_)
  · skip
    refine ro_goto (tgt := 1911) hX dL_law_329 (by decide) ?_
    refine ro_drop (L' := [(0, .ref b), (1, .ref (sz + 0)), (2, .ref (sz + 75)), (3, .ref (sz + 79)), (4, .int (nI (3 * k)))]) [5, 6] hX rfl ?_
    exact law_next h (hP _ _ _ e5 (by omega) (by omega))
  · skip
    refine ro_aload_n (i := 3) (q := 318) hX dL_law_317 rfl rfl rfl ?_
    refine ro_iconst (v := nI 0) (q := 319) hX dL_law_318 rfl rfl ?_
    refine ro_lald (q9 := 320) hX dL_law_319 rfl ?_
    refine ro_iload (i := 6) (q := 322) hX dL_law_320 rfl rfl ?_
    rw [e4 hz]
    refine ro_i2l (v := v.toInt64) (q := 323) hX dL_law_322 rfl rfl ?_
    refine ro_lcmp (q := 324) hX dL_law_323 rfl ?_
    refine ro_if_eq (tgt := 329) (q := 327) hX dL_law_324 (by decide) rfl (fun _ => ?_) (fun q => absurd (lg_cmp_0 _) q)
    refine ro_goto (tgt := 1911) hX dL_law_329 (by decide) ?_
    refine ro_drop (L' := [(0, .ref b), (1, .ref (sz + 0)), (2, .ref (sz + 75)), (3, .ref (sz + 79)), (4, .int (nI (3 * k)))]) [5, 6] hX rfl ?_
    exact law_next h (hP _ _ _ e5 (by omega) (by omega))
set_option maxRecDepth 20000 in
theorem law_op_2 (h : CtxL VV sz b LL xs) (hL : LL ≤ 1536) {k : Nat} (hk : 3 * k + 3 ≤ LL) {c9 s9 : Nat} (hc9 : c9 ≤ 90 + k) (hs9 : s9 ≤ 4000 + 6 * k) (hI : Inv k M) (ho : ∀ x : Int32, OpX sz Inv I_L_read hh_L_read I_X3_read [.int x]) (hP : ∀ M' c' s', Inv (k + 1) M' → c' ≤ 90 + (k + 1) → s' ≤ 4000 + 6 * (k + 1) → VV c' s' 23 [(0, .ref b), (1, .ref (sz + 0)), (2, .ref (sz + 75)), (3, .ref (sz + 79)), (4, .int (nI (3 * (k + 1))))] [] M') : VV c9 s9 332 [(0, .ref b), (1, .ref (sz + 0)), (2, .ref (sz + 75)), (3, .ref (sz + 79)), (4, .int (nI (3 * k)))] [] M := by
  obtain ⟨cd, v, M1, M2, M3, e1, e2, e3, e4, e5⟩ := ho (xs (3 * k + 1)) k M (by omega) hI
  have hX := h.c
  refine ro_aload_n (i := 1) (q := 333) hX dL_law_332 rfl rfl rfl ?_
  refine ro_aload_n (i := 0) (q := 334) hX dL_law_333 rfl rfl rfl ?_
  refine ro_iload (i := 4) (q := 336) hX dL_law_334 rfl rfl ?_
  refine ro_iconst (v := nI 1) (q := 337) hX dL_law_336 rfl rfl ?_
  refine ro_iadd (q := 338) hX dL_law_337 rfl ?_
  refine vv_top (y := nI (3 * k + 1)) (nI_add' rfl rfl) ?_
  refine ro_sld (n := 3 * k + 1) (q9 := 339) h rfl (by omega) hL dL_law_338 rfl ?_
  refine ro_aload_n (i := 3) (q := 340) hX dL_law_339 rfl rfl rfl ?_
  refine ro_callSH (q9 := 343) hX e1 mh_L_read kl_L_119 rfl rfl (Nat.le_of_ble_eq_true rfl) ⟨Nat.le_of_ble_eq_true rfl, Nat.le_of_ble_eq_true rfl⟩ dL_law_340 ⟨(by show c9 + 1 ≤ 601024; omega), (by show s9 + 6 ≤ 7293034; omega)⟩ rfl ?_
  refine ro_istore (i := 5) (q := 345) hX dL_law_343 (Nat.le_of_ble_eq_true rfl) rfl ?_
  refine ro_aload_n (i := 2) (q := 346) hX dL_law_345 rfl rfl rfl ?_
  refine ro_aload_n (i := 0) (q := 347) hX dL_law_346 rfl rfl rfl ?_
  refine ro_iload (i := 4) (q := 349) hX dL_law_347 rfl rfl ?_
  refine ro_iconst (v := nI 1) (q := 350) hX dL_law_349 rfl rfl ?_
  refine ro_iadd (q := 351) hX dL_law_350 rfl ?_
  refine vv_top (y := nI (3 * k + 1)) (nI_add' rfl rfl) ?_
  refine ro_sld (n := 3 * k + 1) (q9 := 352) h rfl (by omega) hL dL_law_351 rfl ?_
  refine ro_callVi (q9 := 355) hX e2 mw_X3_read kl_L_122 (by decide) (fun cy => cell3 (by decide +kernel)) rfl rfl rfl (Nat.le_of_ble_eq_true rfl) ⟨Nat.le_of_ble_eq_true rfl, Nat.le_of_ble_eq_true rfl⟩ dL_law_352 ⟨(by show _ ≤ 601024; omega), (by show _ ≤ 7293034; omega)⟩ rfl ?_
  refine ro_istore (i := 6) (q := 357) hX dL_law_355 (Nat.le_of_ble_eq_true rfl) rfl ?_
  refine ro_aload_n (i := 2) (q := 358) hX dL_law_357 rfl rfl rfl ?_
  refine ro_callVi (q9 := 361) hX e3 mw_X3_thrown kl_L_113 (by decide) (fun cy => cell3 (by decide +kernel)) rfl rfl rfl (Nat.le_of_ble_eq_true rfl) ⟨Nat.le_of_ble_eq_true rfl, Nat.le_of_ble_eq_true rfl⟩ dL_law_358 ⟨(by show _ ≤ 601024; omega), (by show _ ≤ 7293034; omega)⟩ rfl ?_
  refine ro_iload (i := 5) (q := 363) hX dL_law_361 rfl rfl ?_
  refine ro_icmp_eq (tgt := 368) (q := 366) hX dL_law_363 (by decide) rfl (fun _ => ?_) (fun q => absurd rfl q)
  refine ro_iload (i := 5) (q := 370) hX dL_law_368 rfl rfl ?_
  refine ro_if_ne (tgt := 385) (q := 373) hX dL_law_370 (by decide) rfl (fun _ => ?_) (fun hz => ?_)
  · skip
    refine ro_goto (tgt := 1911) hX dL_law_385 (by decide) ?_
    refine ro_drop (L' := [(0, .ref b), (1, .ref (sz + 0)), (2, .ref (sz + 75)), (3, .ref (sz + 79)), (4, .int (nI (3 * k)))]) [5, 6] hX rfl ?_
    exact law_next h (hP _ _ _ e5 (by omega) (by omega))
  · skip
    refine ro_aload_n (i := 3) (q := 374) hX dL_law_373 rfl rfl rfl ?_
    refine ro_iconst (v := nI 0) (q := 375) hX dL_law_374 rfl rfl ?_
    refine ro_lald (q9 := 376) hX dL_law_375 rfl ?_
    refine ro_iload (i := 6) (q := 378) hX dL_law_376 rfl rfl ?_
    rw [e4 hz]
    refine ro_i2l (v := v.toInt64) (q := 379) hX dL_law_378 rfl rfl ?_
    refine ro_lcmp (q := 380) hX dL_law_379 rfl ?_
    refine ro_if_eq (tgt := 385) (q := 383) hX dL_law_380 (by decide) rfl (fun _ => ?_) (fun q => absurd (lg_cmp_0 _) q)
    refine ro_goto (tgt := 1911) hX dL_law_385 (by decide) ?_
    refine ro_drop (L' := [(0, .ref b), (1, .ref (sz + 0)), (2, .ref (sz + 75)), (3, .ref (sz + 79)), (4, .int (nI (3 * k)))]) [5, 6] hX rfl ?_
    exact law_next h (hP _ _ _ e5 (by omega) (by omega))
set_option maxRecDepth 20000 in
theorem law_op_3 (h : CtxL VV sz b LL xs) (hL : LL ≤ 1536) {k : Nat} (hk : 3 * k + 3 ≤ LL) {c9 s9 : Nat} (hc9 : c9 ≤ 90 + k) (hs9 : s9 ≤ 4000 + 6 * k) (hI : Inv k M) (ho : ∀ x : Int32, OpX sz Inv I_L_remove hh_L_remove I_X3_remove [.int x]) (hP : ∀ M' c' s', Inv (k + 1) M' → c' ≤ 90 + (k + 1) → s' ≤ 4000 + 6 * (k + 1) → VV c' s' 23 [(0, .ref b), (1, .ref (sz + 0)), (2, .ref (sz + 75)), (3, .ref (sz + 79)), (4, .int (nI (3 * (k + 1))))] [] M') : VV c9 s9 388 [(0, .ref b), (1, .ref (sz + 0)), (2, .ref (sz + 75)), (3, .ref (sz + 79)), (4, .int (nI (3 * k)))] [] M := by
  obtain ⟨cd, v, M1, M2, M3, e1, e2, e3, e4, e5⟩ := ho (xs (3 * k + 1)) k M (by omega) hI
  have hX := h.c
  refine ro_aload_n (i := 1) (q := 389) hX dL_law_388 rfl rfl rfl ?_
  refine ro_aload_n (i := 0) (q := 390) hX dL_law_389 rfl rfl rfl ?_
  refine ro_iload (i := 4) (q := 392) hX dL_law_390 rfl rfl ?_
  refine ro_iconst (v := nI 1) (q := 393) hX dL_law_392 rfl rfl ?_
  refine ro_iadd (q := 394) hX dL_law_393 rfl ?_
  refine vv_top (y := nI (3 * k + 1)) (nI_add' rfl rfl) ?_
  refine ro_sld (n := 3 * k + 1) (q9 := 395) h rfl (by omega) hL dL_law_394 rfl ?_
  refine ro_aload_n (i := 3) (q := 396) hX dL_law_395 rfl rfl rfl ?_
  refine ro_callSH (q9 := 399) hX e1 mh_L_remove kl_L_123 rfl rfl (Nat.le_of_ble_eq_true rfl) ⟨Nat.le_of_ble_eq_true rfl, Nat.le_of_ble_eq_true rfl⟩ dL_law_396 ⟨(by show c9 + 1 ≤ 601024; omega), (by show s9 + 6 ≤ 7293034; omega)⟩ rfl ?_
  refine ro_istore (i := 5) (q := 401) hX dL_law_399 (Nat.le_of_ble_eq_true rfl) rfl ?_
  refine ro_aload_n (i := 2) (q := 402) hX dL_law_401 rfl rfl rfl ?_
  refine ro_aload_n (i := 0) (q := 403) hX dL_law_402 rfl rfl rfl ?_
  refine ro_iload (i := 4) (q := 405) hX dL_law_403 rfl rfl ?_
  refine ro_iconst (v := nI 1) (q := 406) hX dL_law_405 rfl rfl ?_
  refine ro_iadd (q := 407) hX dL_law_406 rfl ?_
  refine vv_top (y := nI (3 * k + 1)) (nI_add' rfl rfl) ?_
  refine ro_sld (n := 3 * k + 1) (q9 := 408) h rfl (by omega) hL dL_law_407 rfl ?_
  refine ro_callVi (q9 := 411) hX e2 mw_X3_remove kl_L_125 (by decide) (fun cy => cell3 (by decide +kernel)) rfl rfl rfl (Nat.le_of_ble_eq_true rfl) ⟨Nat.le_of_ble_eq_true rfl, Nat.le_of_ble_eq_true rfl⟩ dL_law_408 ⟨(by show _ ≤ 601024; omega), (by show _ ≤ 7293034; omega)⟩ rfl ?_
  refine ro_istore (i := 6) (q := 413) hX dL_law_411 (Nat.le_of_ble_eq_true rfl) rfl ?_
  refine ro_aload_n (i := 2) (q := 414) hX dL_law_413 rfl rfl rfl ?_
  refine ro_callVi (q9 := 417) hX e3 mw_X3_thrown kl_L_113 (by decide) (fun cy => cell3 (by decide +kernel)) rfl rfl rfl (Nat.le_of_ble_eq_true rfl) ⟨Nat.le_of_ble_eq_true rfl, Nat.le_of_ble_eq_true rfl⟩ dL_law_414 ⟨(by show _ ≤ 601024; omega), (by show _ ≤ 7293034; omega)⟩ rfl ?_
  refine ro_iload (i := 5) (q := 419) hX dL_law_417 rfl rfl ?_
  refine ro_icmp_eq (tgt := 424) (q := 422) hX dL_law_419 (by decide) rfl (fun _ => ?_) (fun q => absurd rfl q)
  refine ro_iload (i := 5) (q := 426) hX dL_law_424 rfl rfl ?_
  refine ro_if_ne (tgt := 441) (q := 429) hX dL_law_426 (by decide) rfl (fun _ => ?_) (fun hz => ?_)
  · skip
    refine ro_goto (tgt := 1911) hX dL_law_441 (by decide) ?_
    refine ro_drop (L' := [(0, .ref b), (1, .ref (sz + 0)), (2, .ref (sz + 75)), (3, .ref (sz + 79)), (4, .int (nI (3 * k)))]) [5, 6] hX rfl ?_
    exact law_next h (hP _ _ _ e5 (by omega) (by omega))
  · skip
    refine ro_aload_n (i := 3) (q := 430) hX dL_law_429 rfl rfl rfl ?_
    refine ro_iconst (v := nI 0) (q := 431) hX dL_law_430 rfl rfl ?_
    refine ro_lald (q9 := 432) hX dL_law_431 rfl ?_
    refine ro_iload (i := 6) (q := 434) hX dL_law_432 rfl rfl ?_
    rw [e4 hz]
    refine ro_i2l (v := v.toInt64) (q := 435) hX dL_law_434 rfl rfl ?_
    refine ro_lcmp (q := 436) hX dL_law_435 rfl ?_
    refine ro_if_eq (tgt := 441) (q := 439) hX dL_law_436 (by decide) rfl (fun _ => ?_) (fun q => absurd (lg_cmp_0 _) q)
    refine ro_goto (tgt := 1911) hX dL_law_441 (by decide) ?_
    refine ro_drop (L' := [(0, .ref b), (1, .ref (sz + 0)), (2, .ref (sz + 75)), (3, .ref (sz + 79)), (4, .int (nI (3 * k)))]) [5, 6] hX rfl ?_
    exact law_next h (hP _ _ _ e5 (by omega) (by omega))
set_option maxRecDepth 20000 in
theorem law_op_4 (h : CtxL VV sz b LL xs) (hL : LL ≤ 1536) {k : Nat} (hk : 3 * k + 3 ≤ LL) {c9 s9 : Nat} (hc9 : c9 ≤ 90 + k) (hs9 : s9 ≤ 4000 + 6 * k) (hI : Inv k M) (ho : ∀ x y : Int32, OpX sz Inv I_L_lend hh_L_lend I_X3_lend [.int x, .int y]) (hP : ∀ M' c' s', Inv (k + 1) M' → c' ≤ 90 + (k + 1) → s' ≤ 4000 + 6 * (k + 1) → VV c' s' 23 [(0, .ref b), (1, .ref (sz + 0)), (2, .ref (sz + 75)), (3, .ref (sz + 79)), (4, .int (nI (3 * (k + 1))))] [] M') : VV c9 s9 444 [(0, .ref b), (1, .ref (sz + 0)), (2, .ref (sz + 75)), (3, .ref (sz + 79)), (4, .int (nI (3 * k)))] [] M := by
  obtain ⟨cd, v, M1, M2, M3, e1, e2, e3, e4, e5⟩ := ho (xs (3 * k + 1)) (xs (3 * k + 2)) k M (by omega) hI
  have hX := h.c
  refine ro_aload_n (i := 1) (q := 445) hX dL_law_444 rfl rfl rfl ?_
  refine ro_aload_n (i := 0) (q := 446) hX dL_law_445 rfl rfl rfl ?_
  refine ro_iload (i := 4) (q := 448) hX dL_law_446 rfl rfl ?_
  refine ro_iconst (v := nI 1) (q := 449) hX dL_law_448 rfl rfl ?_
  refine ro_iadd (q := 450) hX dL_law_449 rfl ?_
  refine vv_top (y := nI (3 * k + 1)) (nI_add' rfl rfl) ?_
  refine ro_sld (n := 3 * k + 1) (q9 := 451) h rfl (by omega) hL dL_law_450 rfl ?_
  refine ro_aload_n (i := 0) (q := 452) hX dL_law_451 rfl rfl rfl ?_
  refine ro_iload (i := 4) (q := 454) hX dL_law_452 rfl rfl ?_
  refine ro_iconst (v := nI 2) (q := 455) hX dL_law_454 rfl rfl ?_
  refine ro_iadd (q := 456) hX dL_law_455 rfl ?_
  refine vv_top (y := nI (3 * k + 2)) (nI_add' rfl rfl) ?_
  refine ro_sld (n := 3 * k + 2) (q9 := 457) h rfl (by omega) hL dL_law_456 rfl ?_
  refine ro_aload_n (i := 3) (q := 458) hX dL_law_457 rfl rfl rfl ?_
  refine ro_callSH (q9 := 461) hX e1 mh_L_lend kl_L_126 rfl rfl (Nat.le_of_ble_eq_true rfl) ⟨Nat.le_of_ble_eq_true rfl, Nat.le_of_ble_eq_true rfl⟩ dL_law_458 ⟨(by show c9 + 1 ≤ 601024; omega), (by show s9 + 6 ≤ 7293034; omega)⟩ rfl ?_
  refine ro_istore (i := 5) (q := 463) hX dL_law_461 (Nat.le_of_ble_eq_true rfl) rfl ?_
  refine ro_aload_n (i := 2) (q := 464) hX dL_law_463 rfl rfl rfl ?_
  refine ro_aload_n (i := 0) (q := 465) hX dL_law_464 rfl rfl rfl ?_
  refine ro_iload (i := 4) (q := 467) hX dL_law_465 rfl rfl ?_
  refine ro_iconst (v := nI 1) (q := 468) hX dL_law_467 rfl rfl ?_
  refine ro_iadd (q := 469) hX dL_law_468 rfl ?_
  refine vv_top (y := nI (3 * k + 1)) (nI_add' rfl rfl) ?_
  refine ro_sld (n := 3 * k + 1) (q9 := 470) h rfl (by omega) hL dL_law_469 rfl ?_
  refine ro_aload_n (i := 0) (q := 471) hX dL_law_470 rfl rfl rfl ?_
  refine ro_iload (i := 4) (q := 473) hX dL_law_471 rfl rfl ?_
  refine ro_iconst (v := nI 2) (q := 474) hX dL_law_473 rfl rfl ?_
  refine ro_iadd (q := 475) hX dL_law_474 rfl ?_
  refine vv_top (y := nI (3 * k + 2)) (nI_add' rfl rfl) ?_
  refine ro_sld (n := 3 * k + 2) (q9 := 476) h rfl (by omega) hL dL_law_475 rfl ?_
  refine ro_callVi (q9 := 479) hX e2 mw_X3_lend kl_L_128 (by decide) (fun cy => cell3 (by decide +kernel)) rfl rfl rfl (Nat.le_of_ble_eq_true rfl) ⟨Nat.le_of_ble_eq_true rfl, Nat.le_of_ble_eq_true rfl⟩ dL_law_476 ⟨(by show _ ≤ 601024; omega), (by show _ ≤ 7293034; omega)⟩ rfl ?_
  refine ro_istore (i := 6) (q := 481) hX dL_law_479 (Nat.le_of_ble_eq_true rfl) rfl ?_
  refine ro_aload_n (i := 2) (q := 482) hX dL_law_481 rfl rfl rfl ?_
  refine ro_callVi (q9 := 485) hX e3 mw_X3_thrown kl_L_113 (by decide) (fun cy => cell3 (by decide +kernel)) rfl rfl rfl (Nat.le_of_ble_eq_true rfl) ⟨Nat.le_of_ble_eq_true rfl, Nat.le_of_ble_eq_true rfl⟩ dL_law_482 ⟨(by show _ ≤ 601024; omega), (by show _ ≤ 7293034; omega)⟩ rfl ?_
  refine ro_iload (i := 5) (q := 487) hX dL_law_485 rfl rfl ?_
  refine ro_icmp_eq (tgt := 492) (q := 490) hX dL_law_487 (by decide) rfl (fun _ => ?_) (fun q => absurd rfl q)
  refine ro_iload (i := 5) (q := 494) hX dL_law_492 rfl rfl ?_
  refine ro_if_ne (tgt := 509) (q := 497) hX dL_law_494 (by decide) rfl (fun _ => ?_) (fun hz => ?_)
  · skip
    refine ro_goto (tgt := 1911) hX dL_law_509 (by decide) ?_
    refine ro_drop (L' := [(0, .ref b), (1, .ref (sz + 0)), (2, .ref (sz + 75)), (3, .ref (sz + 79)), (4, .int (nI (3 * k)))]) [5, 6] hX rfl ?_
    exact law_next h (hP _ _ _ e5 (by omega) (by omega))
  · skip
    refine ro_aload_n (i := 3) (q := 498) hX dL_law_497 rfl rfl rfl ?_
    refine ro_iconst (v := nI 0) (q := 499) hX dL_law_498 rfl rfl ?_
    refine ro_lald (q9 := 500) hX dL_law_499 rfl ?_
    refine ro_iload (i := 6) (q := 502) hX dL_law_500 rfl rfl ?_
    rw [e4 hz]
    refine ro_i2l (v := v.toInt64) (q := 503) hX dL_law_502 rfl rfl ?_
    refine ro_lcmp (q := 504) hX dL_law_503 rfl ?_
    refine ro_if_eq (tgt := 509) (q := 507) hX dL_law_504 (by decide) rfl (fun _ => ?_) (fun q => absurd (lg_cmp_0 _) q)
    refine ro_goto (tgt := 1911) hX dL_law_509 (by decide) ?_
    refine ro_drop (L' := [(0, .ref b), (1, .ref (sz + 0)), (2, .ref (sz + 75)), (3, .ref (sz + 79)), (4, .int (nI (3 * k)))]) [5, 6] hX rfl ?_
    exact law_next h (hP _ _ _ e5 (by omega) (by omega))
set_option maxRecDepth 20000 in
theorem law_op_5 (h : CtxL VV sz b LL xs) (hL : LL ≤ 1536) {k : Nat} (hk : 3 * k + 3 ≤ LL) {c9 s9 : Nat} (hc9 : c9 ≤ 90 + k) (hs9 : s9 ≤ 4000 + 6 * k) (hI : Inv k M) (ho : ∀ x y : Int32, OpX sz Inv I_L_recall hh_L_recall I_X3_recall [.int x, .int y]) (hP : ∀ M' c' s', Inv (k + 1) M' → c' ≤ 90 + (k + 1) → s' ≤ 4000 + 6 * (k + 1) → VV c' s' 23 [(0, .ref b), (1, .ref (sz + 0)), (2, .ref (sz + 75)), (3, .ref (sz + 79)), (4, .int (nI (3 * (k + 1))))] [] M') : VV c9 s9 512 [(0, .ref b), (1, .ref (sz + 0)), (2, .ref (sz + 75)), (3, .ref (sz + 79)), (4, .int (nI (3 * k)))] [] M := by
  obtain ⟨cd, v, M1, M2, M3, e1, e2, e3, e4, e5⟩ := ho (xs (3 * k + 1)) (xs (3 * k + 2)) k M (by omega) hI
  have hX := h.c
  refine ro_aload_n (i := 1) (q := 513) hX dL_law_512 rfl rfl rfl ?_
  refine ro_aload_n (i := 0) (q := 514) hX dL_law_513 rfl rfl rfl ?_
  refine ro_iload (i := 4) (q := 516) hX dL_law_514 rfl rfl ?_
  refine ro_iconst (v := nI 1) (q := 517) hX dL_law_516 rfl rfl ?_
  refine ro_iadd (q := 518) hX dL_law_517 rfl ?_
  refine vv_top (y := nI (3 * k + 1)) (nI_add' rfl rfl) ?_
  refine ro_sld (n := 3 * k + 1) (q9 := 519) h rfl (by omega) hL dL_law_518 rfl ?_
  refine ro_aload_n (i := 0) (q := 520) hX dL_law_519 rfl rfl rfl ?_
  refine ro_iload (i := 4) (q := 522) hX dL_law_520 rfl rfl ?_
  refine ro_iconst (v := nI 2) (q := 523) hX dL_law_522 rfl rfl ?_
  refine ro_iadd (q := 524) hX dL_law_523 rfl ?_
  refine vv_top (y := nI (3 * k + 2)) (nI_add' rfl rfl) ?_
  refine ro_sld (n := 3 * k + 2) (q9 := 525) h rfl (by omega) hL dL_law_524 rfl ?_
  refine ro_aload_n (i := 3) (q := 526) hX dL_law_525 rfl rfl rfl ?_
  refine ro_callSH (q9 := 529) hX e1 mh_L_recall kl_L_129 rfl rfl (Nat.le_of_ble_eq_true rfl) ⟨Nat.le_of_ble_eq_true rfl, Nat.le_of_ble_eq_true rfl⟩ dL_law_526 ⟨(by show c9 + 1 ≤ 601024; omega), (by show s9 + 6 ≤ 7293034; omega)⟩ rfl ?_
  refine ro_istore (i := 5) (q := 531) hX dL_law_529 (Nat.le_of_ble_eq_true rfl) rfl ?_
  refine ro_aload_n (i := 2) (q := 532) hX dL_law_531 rfl rfl rfl ?_
  refine ro_aload_n (i := 0) (q := 533) hX dL_law_532 rfl rfl rfl ?_
  refine ro_iload (i := 4) (q := 535) hX dL_law_533 rfl rfl ?_
  refine ro_iconst (v := nI 1) (q := 536) hX dL_law_535 rfl rfl ?_
  refine ro_iadd (q := 537) hX dL_law_536 rfl ?_
  refine vv_top (y := nI (3 * k + 1)) (nI_add' rfl rfl) ?_
  refine ro_sld (n := 3 * k + 1) (q9 := 538) h rfl (by omega) hL dL_law_537 rfl ?_
  refine ro_aload_n (i := 0) (q := 539) hX dL_law_538 rfl rfl rfl ?_
  refine ro_iload (i := 4) (q := 541) hX dL_law_539 rfl rfl ?_
  refine ro_iconst (v := nI 2) (q := 542) hX dL_law_541 rfl rfl ?_
  refine ro_iadd (q := 543) hX dL_law_542 rfl ?_
  refine vv_top (y := nI (3 * k + 2)) (nI_add' rfl rfl) ?_
  refine ro_sld (n := 3 * k + 2) (q9 := 544) h rfl (by omega) hL dL_law_543 rfl ?_
  refine ro_callVi (q9 := 547) hX e2 mw_X3_recall kl_L_131 (by decide) (fun cy => cell3 (by decide +kernel)) rfl rfl rfl (Nat.le_of_ble_eq_true rfl) ⟨Nat.le_of_ble_eq_true rfl, Nat.le_of_ble_eq_true rfl⟩ dL_law_544 ⟨(by show _ ≤ 601024; omega), (by show _ ≤ 7293034; omega)⟩ rfl ?_
  refine ro_istore (i := 6) (q := 549) hX dL_law_547 (Nat.le_of_ble_eq_true rfl) rfl ?_
  refine ro_aload_n (i := 2) (q := 550) hX dL_law_549 rfl rfl rfl ?_
  refine ro_callVi (q9 := 553) hX e3 mw_X3_thrown kl_L_113 (by decide) (fun cy => cell3 (by decide +kernel)) rfl rfl rfl (Nat.le_of_ble_eq_true rfl) ⟨Nat.le_of_ble_eq_true rfl, Nat.le_of_ble_eq_true rfl⟩ dL_law_550 ⟨(by show _ ≤ 601024; omega), (by show _ ≤ 7293034; omega)⟩ rfl ?_
  refine ro_iload (i := 5) (q := 555) hX dL_law_553 rfl rfl ?_
  refine ro_icmp_eq (tgt := 560) (q := 558) hX dL_law_555 (by decide) rfl (fun _ => ?_) (fun q => absurd rfl q)
  refine ro_iload (i := 5) (q := 562) hX dL_law_560 rfl rfl ?_
  refine ro_if_ne (tgt := 577) (q := 565) hX dL_law_562 (by decide) rfl (fun _ => ?_) (fun hz => ?_)
  · skip
    refine ro_goto (tgt := 1911) hX dL_law_577 (by decide) ?_
    refine ro_drop (L' := [(0, .ref b), (1, .ref (sz + 0)), (2, .ref (sz + 75)), (3, .ref (sz + 79)), (4, .int (nI (3 * k)))]) [5, 6] hX rfl ?_
    exact law_next h (hP _ _ _ e5 (by omega) (by omega))
  · skip
    refine ro_aload_n (i := 3) (q := 566) hX dL_law_565 rfl rfl rfl ?_
    refine ro_iconst (v := nI 0) (q := 567) hX dL_law_566 rfl rfl ?_
    refine ro_lald (q9 := 568) hX dL_law_567 rfl ?_
    refine ro_iload (i := 6) (q := 570) hX dL_law_568 rfl rfl ?_
    rw [e4 hz]
    refine ro_i2l (v := v.toInt64) (q := 571) hX dL_law_570 rfl rfl ?_
    refine ro_lcmp (q := 572) hX dL_law_571 rfl ?_
    refine ro_if_eq (tgt := 577) (q := 575) hX dL_law_572 (by decide) rfl (fun _ => ?_) (fun q => absurd (lg_cmp_0 _) q)
    refine ro_goto (tgt := 1911) hX dL_law_577 (by decide) ?_
    refine ro_drop (L' := [(0, .ref b), (1, .ref (sz + 0)), (2, .ref (sz + 75)), (3, .ref (sz + 79)), (4, .int (nI (3 * k)))]) [5, 6] hX rfl ?_
    exact law_next h (hP _ _ _ e5 (by omega) (by omega))
set_option maxRecDepth 20000 in
theorem law_op_6 (h : CtxL VV sz b LL xs) (hL : LL ≤ 1536) {k : Nat} (hk : 3 * k + 3 ≤ LL) {c9 s9 : Nat} (hc9 : c9 ≤ 90 + k) (hs9 : s9 ≤ 4000 + 6 * k) (hI : Inv k M) (ho : ∀ x : Int32, OpX sz Inv I_L_disconnect hh_L_disconnect I_X3_disconnect [.int x]) (hP : ∀ M' c' s', Inv (k + 1) M' → c' ≤ 90 + (k + 1) → s' ≤ 4000 + 6 * (k + 1) → VV c' s' 23 [(0, .ref b), (1, .ref (sz + 0)), (2, .ref (sz + 75)), (3, .ref (sz + 79)), (4, .int (nI (3 * (k + 1))))] [] M') : VV c9 s9 580 [(0, .ref b), (1, .ref (sz + 0)), (2, .ref (sz + 75)), (3, .ref (sz + 79)), (4, .int (nI (3 * k)))] [] M := by
  obtain ⟨cd, v, M1, M2, M3, e1, e2, e3, e4, e5⟩ := ho (xs (3 * k + 1)) k M (by omega) hI
  have hX := h.c
  refine ro_aload_n (i := 1) (q := 581) hX dL_law_580 rfl rfl rfl ?_
  refine ro_aload_n (i := 0) (q := 582) hX dL_law_581 rfl rfl rfl ?_
  refine ro_iload (i := 4) (q := 584) hX dL_law_582 rfl rfl ?_
  refine ro_iconst (v := nI 1) (q := 585) hX dL_law_584 rfl rfl ?_
  refine ro_iadd (q := 586) hX dL_law_585 rfl ?_
  refine vv_top (y := nI (3 * k + 1)) (nI_add' rfl rfl) ?_
  refine ro_sld (n := 3 * k + 1) (q9 := 587) h rfl (by omega) hL dL_law_586 rfl ?_
  refine ro_aload_n (i := 3) (q := 588) hX dL_law_587 rfl rfl rfl ?_
  refine ro_callSH (q9 := 591) hX e1 mh_L_disconnect kl_L_132 rfl rfl (Nat.le_of_ble_eq_true rfl) ⟨Nat.le_of_ble_eq_true rfl, Nat.le_of_ble_eq_true rfl⟩ dL_law_588 ⟨(by show c9 + 1 ≤ 601024; omega), (by show s9 + 6 ≤ 7293034; omega)⟩ rfl ?_
  refine ro_istore (i := 5) (q := 593) hX dL_law_591 (Nat.le_of_ble_eq_true rfl) rfl ?_
  refine ro_aload_n (i := 2) (q := 594) hX dL_law_593 rfl rfl rfl ?_
  refine ro_aload_n (i := 0) (q := 595) hX dL_law_594 rfl rfl rfl ?_
  refine ro_iload (i := 4) (q := 597) hX dL_law_595 rfl rfl ?_
  refine ro_iconst (v := nI 1) (q := 598) hX dL_law_597 rfl rfl ?_
  refine ro_iadd (q := 599) hX dL_law_598 rfl ?_
  refine vv_top (y := nI (3 * k + 1)) (nI_add' rfl rfl) ?_
  refine ro_sld (n := 3 * k + 1) (q9 := 600) h rfl (by omega) hL dL_law_599 rfl ?_
  refine ro_callVi (q9 := 603) hX e2 mw_X3_disconnect kl_L_134 (by decide) (fun cy => cell3 (by decide +kernel)) rfl rfl rfl (Nat.le_of_ble_eq_true rfl) ⟨Nat.le_of_ble_eq_true rfl, Nat.le_of_ble_eq_true rfl⟩ dL_law_600 ⟨(by show _ ≤ 601024; omega), (by show _ ≤ 7293034; omega)⟩ rfl ?_
  refine ro_istore (i := 6) (q := 605) hX dL_law_603 (Nat.le_of_ble_eq_true rfl) rfl ?_
  refine ro_aload_n (i := 2) (q := 606) hX dL_law_605 rfl rfl rfl ?_
  refine ro_callVi (q9 := 609) hX e3 mw_X3_thrown kl_L_113 (by decide) (fun cy => cell3 (by decide +kernel)) rfl rfl rfl (Nat.le_of_ble_eq_true rfl) ⟨Nat.le_of_ble_eq_true rfl, Nat.le_of_ble_eq_true rfl⟩ dL_law_606 ⟨(by show _ ≤ 601024; omega), (by show _ ≤ 7293034; omega)⟩ rfl ?_
  refine ro_iload (i := 5) (q := 611) hX dL_law_609 rfl rfl ?_
  refine ro_icmp_eq (tgt := 616) (q := 614) hX dL_law_611 (by decide) rfl (fun _ => ?_) (fun q => absurd rfl q)
  refine ro_iload (i := 5) (q := 618) hX dL_law_616 rfl rfl ?_
  refine ro_if_ne (tgt := 633) (q := 621) hX dL_law_618 (by decide) rfl (fun _ => ?_) (fun hz => ?_)
  · skip
    refine ro_goto (tgt := 1911) hX dL_law_633 (by decide) ?_
    refine ro_drop (L' := [(0, .ref b), (1, .ref (sz + 0)), (2, .ref (sz + 75)), (3, .ref (sz + 79)), (4, .int (nI (3 * k)))]) [5, 6] hX rfl ?_
    exact law_next h (hP _ _ _ e5 (by omega) (by omega))
  · skip
    refine ro_aload_n (i := 3) (q := 622) hX dL_law_621 rfl rfl rfl ?_
    refine ro_iconst (v := nI 0) (q := 623) hX dL_law_622 rfl rfl ?_
    refine ro_lald (q9 := 624) hX dL_law_623 rfl ?_
    refine ro_iload (i := 6) (q := 626) hX dL_law_624 rfl rfl ?_
    rw [e4 hz]
    refine ro_i2l (v := v.toInt64) (q := 627) hX dL_law_626 rfl rfl ?_
    refine ro_lcmp (q := 628) hX dL_law_627 rfl ?_
    refine ro_if_eq (tgt := 633) (q := 631) hX dL_law_628 (by decide) rfl (fun _ => ?_) (fun q => absurd (lg_cmp_0 _) q)
    refine ro_goto (tgt := 1911) hX dL_law_633 (by decide) ?_
    refine ro_drop (L' := [(0, .ref b), (1, .ref (sz + 0)), (2, .ref (sz + 75)), (3, .ref (sz + 79)), (4, .int (nI (3 * k)))]) [5, 6] hX rfl ?_
    exact law_next h (hP _ _ _ e5 (by omega) (by omega))
set_option maxRecDepth 20000 in
theorem law_op_7 (h : CtxL VV sz b LL xs) (hL : LL ≤ 1536) {k : Nat} (hk : 3 * k + 3 ≤ LL) {c9 s9 : Nat} (hc9 : c9 ≤ 90 + k) (hs9 : s9 ≤ 4000 + 6 * k) (hI : Inv k M) (ho : ∀ x : Int32, OpX sz Inv I_L_reconnect hh_L_reconnect I_X3_reconnect [.int x]) (hP : ∀ M' c' s', Inv (k + 1) M' → c' ≤ 90 + (k + 1) → s' ≤ 4000 + 6 * (k + 1) → VV c' s' 23 [(0, .ref b), (1, .ref (sz + 0)), (2, .ref (sz + 75)), (3, .ref (sz + 79)), (4, .int (nI (3 * (k + 1))))] [] M') : VV c9 s9 636 [(0, .ref b), (1, .ref (sz + 0)), (2, .ref (sz + 75)), (3, .ref (sz + 79)), (4, .int (nI (3 * k)))] [] M := by
  obtain ⟨cd, v, M1, M2, M3, e1, e2, e3, e4, e5⟩ := ho (xs (3 * k + 1)) k M (by omega) hI
  have hX := h.c
  refine ro_aload_n (i := 1) (q := 637) hX dL_law_636 rfl rfl rfl ?_
  refine ro_aload_n (i := 0) (q := 638) hX dL_law_637 rfl rfl rfl ?_
  refine ro_iload (i := 4) (q := 640) hX dL_law_638 rfl rfl ?_
  refine ro_iconst (v := nI 1) (q := 641) hX dL_law_640 rfl rfl ?_
  refine ro_iadd (q := 642) hX dL_law_641 rfl ?_
  refine vv_top (y := nI (3 * k + 1)) (nI_add' rfl rfl) ?_
  refine ro_sld (n := 3 * k + 1) (q9 := 643) h rfl (by omega) hL dL_law_642 rfl ?_
  refine ro_aload_n (i := 3) (q := 644) hX dL_law_643 rfl rfl rfl ?_
  refine ro_callSH (q9 := 647) hX e1 mh_L_reconnect kl_L_135 rfl rfl (Nat.le_of_ble_eq_true rfl) ⟨Nat.le_of_ble_eq_true rfl, Nat.le_of_ble_eq_true rfl⟩ dL_law_644 ⟨(by show c9 + 1 ≤ 601024; omega), (by show s9 + 6 ≤ 7293034; omega)⟩ rfl ?_
  refine ro_istore (i := 5) (q := 649) hX dL_law_647 (Nat.le_of_ble_eq_true rfl) rfl ?_
  refine ro_aload_n (i := 2) (q := 650) hX dL_law_649 rfl rfl rfl ?_
  refine ro_aload_n (i := 0) (q := 651) hX dL_law_650 rfl rfl rfl ?_
  refine ro_iload (i := 4) (q := 653) hX dL_law_651 rfl rfl ?_
  refine ro_iconst (v := nI 1) (q := 654) hX dL_law_653 rfl rfl ?_
  refine ro_iadd (q := 655) hX dL_law_654 rfl ?_
  refine vv_top (y := nI (3 * k + 1)) (nI_add' rfl rfl) ?_
  refine ro_sld (n := 3 * k + 1) (q9 := 656) h rfl (by omega) hL dL_law_655 rfl ?_
  refine ro_callVi (q9 := 659) hX e2 mw_X3_reconnect kl_L_137 (by decide) (fun cy => cell3 (by decide +kernel)) rfl rfl rfl (Nat.le_of_ble_eq_true rfl) ⟨Nat.le_of_ble_eq_true rfl, Nat.le_of_ble_eq_true rfl⟩ dL_law_656 ⟨(by show _ ≤ 601024; omega), (by show _ ≤ 7293034; omega)⟩ rfl ?_
  refine ro_istore (i := 6) (q := 661) hX dL_law_659 (Nat.le_of_ble_eq_true rfl) rfl ?_
  refine ro_aload_n (i := 2) (q := 662) hX dL_law_661 rfl rfl rfl ?_
  refine ro_callVi (q9 := 665) hX e3 mw_X3_thrown kl_L_113 (by decide) (fun cy => cell3 (by decide +kernel)) rfl rfl rfl (Nat.le_of_ble_eq_true rfl) ⟨Nat.le_of_ble_eq_true rfl, Nat.le_of_ble_eq_true rfl⟩ dL_law_662 ⟨(by show _ ≤ 601024; omega), (by show _ ≤ 7293034; omega)⟩ rfl ?_
  refine ro_iload (i := 5) (q := 667) hX dL_law_665 rfl rfl ?_
  refine ro_icmp_eq (tgt := 672) (q := 670) hX dL_law_667 (by decide) rfl (fun _ => ?_) (fun q => absurd rfl q)
  refine ro_iload (i := 5) (q := 674) hX dL_law_672 rfl rfl ?_
  refine ro_if_ne (tgt := 689) (q := 677) hX dL_law_674 (by decide) rfl (fun _ => ?_) (fun hz => ?_)
  · skip
    refine ro_goto (tgt := 1911) hX dL_law_689 (by decide) ?_
    refine ro_drop (L' := [(0, .ref b), (1, .ref (sz + 0)), (2, .ref (sz + 75)), (3, .ref (sz + 79)), (4, .int (nI (3 * k)))]) [5, 6] hX rfl ?_
    exact law_next h (hP _ _ _ e5 (by omega) (by omega))
  · skip
    refine ro_aload_n (i := 3) (q := 678) hX dL_law_677 rfl rfl rfl ?_
    refine ro_iconst (v := nI 0) (q := 679) hX dL_law_678 rfl rfl ?_
    refine ro_lald (q9 := 680) hX dL_law_679 rfl ?_
    refine ro_iload (i := 6) (q := 682) hX dL_law_680 rfl rfl ?_
    rw [e4 hz]
    refine ro_i2l (v := v.toInt64) (q := 683) hX dL_law_682 rfl rfl ?_
    refine ro_lcmp (q := 684) hX dL_law_683 rfl ?_
    refine ro_if_eq (tgt := 689) (q := 687) hX dL_law_684 (by decide) rfl (fun _ => ?_) (fun q => absurd (lg_cmp_0 _) q)
    refine ro_goto (tgt := 1911) hX dL_law_689 (by decide) ?_
    refine ro_drop (L' := [(0, .ref b), (1, .ref (sz + 0)), (2, .ref (sz + 75)), (3, .ref (sz + 79)), (4, .int (nI (3 * k)))]) [5, 6] hX rfl ?_
    exact law_next h (hP _ _ _ e5 (by omega) (by omega))
set_option maxRecDepth 20000 in
theorem law_op_8 (h : CtxL VV sz b LL xs) (hL : LL ≤ 1536) {k : Nat} (hk : 3 * k + 3 ≤ LL) {c9 s9 : Nat} (hc9 : c9 ≤ 90 + k) (hs9 : s9 ≤ 4000 + 6 * k) (hI : Inv k M) (ho : ∀ x : Int32, OpX sz Inv I_L_crash hh_L_crash I_X3_crash [.int x]) (hP : ∀ M' c' s', Inv (k + 1) M' → c' ≤ 90 + (k + 1) → s' ≤ 4000 + 6 * (k + 1) → VV c' s' 23 [(0, .ref b), (1, .ref (sz + 0)), (2, .ref (sz + 75)), (3, .ref (sz + 79)), (4, .int (nI (3 * (k + 1))))] [] M') : VV c9 s9 692 [(0, .ref b), (1, .ref (sz + 0)), (2, .ref (sz + 75)), (3, .ref (sz + 79)), (4, .int (nI (3 * k)))] [] M := by
  obtain ⟨cd, v, M1, M2, M3, e1, e2, e3, e4, e5⟩ := ho (xs (3 * k + 1)) k M (by omega) hI
  have hX := h.c
  refine ro_aload_n (i := 1) (q := 693) hX dL_law_692 rfl rfl rfl ?_
  refine ro_aload_n (i := 0) (q := 694) hX dL_law_693 rfl rfl rfl ?_
  refine ro_iload (i := 4) (q := 696) hX dL_law_694 rfl rfl ?_
  refine ro_iconst (v := nI 1) (q := 697) hX dL_law_696 rfl rfl ?_
  refine ro_iadd (q := 698) hX dL_law_697 rfl ?_
  refine vv_top (y := nI (3 * k + 1)) (nI_add' rfl rfl) ?_
  refine ro_sld (n := 3 * k + 1) (q9 := 699) h rfl (by omega) hL dL_law_698 rfl ?_
  refine ro_aload_n (i := 3) (q := 700) hX dL_law_699 rfl rfl rfl ?_
  refine ro_callSH (q9 := 703) hX e1 mh_L_crash kl_L_138 rfl rfl (Nat.le_of_ble_eq_true rfl) ⟨Nat.le_of_ble_eq_true rfl, Nat.le_of_ble_eq_true rfl⟩ dL_law_700 ⟨(by show c9 + 1 ≤ 601024; omega), (by show s9 + 6 ≤ 7293034; omega)⟩ rfl ?_
  refine ro_istore (i := 5) (q := 705) hX dL_law_703 (Nat.le_of_ble_eq_true rfl) rfl ?_
  refine ro_aload_n (i := 2) (q := 706) hX dL_law_705 rfl rfl rfl ?_
  refine ro_aload_n (i := 0) (q := 707) hX dL_law_706 rfl rfl rfl ?_
  refine ro_iload (i := 4) (q := 709) hX dL_law_707 rfl rfl ?_
  refine ro_iconst (v := nI 1) (q := 710) hX dL_law_709 rfl rfl ?_
  refine ro_iadd (q := 711) hX dL_law_710 rfl ?_
  refine vv_top (y := nI (3 * k + 1)) (nI_add' rfl rfl) ?_
  refine ro_sld (n := 3 * k + 1) (q9 := 712) h rfl (by omega) hL dL_law_711 rfl ?_
  refine ro_callVi (q9 := 715) hX e2 mw_X3_crash kl_L_140 (by decide) (fun cy => cell3 (by decide +kernel)) rfl rfl rfl (Nat.le_of_ble_eq_true rfl) ⟨Nat.le_of_ble_eq_true rfl, Nat.le_of_ble_eq_true rfl⟩ dL_law_712 ⟨(by show _ ≤ 601024; omega), (by show _ ≤ 7293034; omega)⟩ rfl ?_
  refine ro_istore (i := 6) (q := 717) hX dL_law_715 (Nat.le_of_ble_eq_true rfl) rfl ?_
  refine ro_aload_n (i := 2) (q := 718) hX dL_law_717 rfl rfl rfl ?_
  refine ro_callVi (q9 := 721) hX e3 mw_X3_thrown kl_L_113 (by decide) (fun cy => cell3 (by decide +kernel)) rfl rfl rfl (Nat.le_of_ble_eq_true rfl) ⟨Nat.le_of_ble_eq_true rfl, Nat.le_of_ble_eq_true rfl⟩ dL_law_718 ⟨(by show _ ≤ 601024; omega), (by show _ ≤ 7293034; omega)⟩ rfl ?_
  refine ro_iload (i := 5) (q := 723) hX dL_law_721 rfl rfl ?_
  refine ro_icmp_eq (tgt := 728) (q := 726) hX dL_law_723 (by decide) rfl (fun _ => ?_) (fun q => absurd rfl q)
  refine ro_iload (i := 5) (q := 730) hX dL_law_728 rfl rfl ?_
  refine ro_if_ne (tgt := 745) (q := 733) hX dL_law_730 (by decide) rfl (fun _ => ?_) (fun hz => ?_)
  · skip
    refine ro_goto (tgt := 1911) hX dL_law_745 (by decide) ?_
    refine ro_drop (L' := [(0, .ref b), (1, .ref (sz + 0)), (2, .ref (sz + 75)), (3, .ref (sz + 79)), (4, .int (nI (3 * k)))]) [5, 6] hX rfl ?_
    exact law_next h (hP _ _ _ e5 (by omega) (by omega))
  · skip
    refine ro_aload_n (i := 3) (q := 734) hX dL_law_733 rfl rfl rfl ?_
    refine ro_iconst (v := nI 0) (q := 735) hX dL_law_734 rfl rfl ?_
    refine ro_lald (q9 := 736) hX dL_law_735 rfl ?_
    refine ro_iload (i := 6) (q := 738) hX dL_law_736 rfl rfl ?_
    rw [e4 hz]
    refine ro_i2l (v := v.toInt64) (q := 739) hX dL_law_738 rfl rfl ?_
    refine ro_lcmp (q := 740) hX dL_law_739 rfl ?_
    refine ro_if_eq (tgt := 745) (q := 743) hX dL_law_740 (by decide) rfl (fun _ => ?_) (fun q => absurd (lg_cmp_0 _) q)
    refine ro_goto (tgt := 1911) hX dL_law_745 (by decide) ?_
    refine ro_drop (L' := [(0, .ref b), (1, .ref (sz + 0)), (2, .ref (sz + 75)), (3, .ref (sz + 79)), (4, .int (nI (3 * k)))]) [5, 6] hX rfl ?_
    exact law_next h (hP _ _ _ e5 (by omega) (by omega))
set_option maxRecDepth 20000 in
theorem law_op_9 (h : CtxL VV sz b LL xs) (hL : LL ≤ 1536) {k : Nat} (hk : 3 * k + 3 ≤ LL) {c9 s9 : Nat} (hc9 : c9 ≤ 90 + k) (hs9 : s9 ≤ 4000 + 6 * k) (hI : Inv k M) (ho : ∀ x : Int32, OpX sz Inv I_L_pass hh_L_pass I_X3_pass [.int x]) (hP : ∀ M' c' s', Inv (k + 1) M' → c' ≤ 90 + (k + 1) → s' ≤ 4000 + 6 * (k + 1) → VV c' s' 23 [(0, .ref b), (1, .ref (sz + 0)), (2, .ref (sz + 75)), (3, .ref (sz + 79)), (4, .int (nI (3 * (k + 1))))] [] M') : VV c9 s9 748 [(0, .ref b), (1, .ref (sz + 0)), (2, .ref (sz + 75)), (3, .ref (sz + 79)), (4, .int (nI (3 * k)))] [] M := by
  obtain ⟨cd, v, M1, M2, M3, e1, e2, e3, e4, e5⟩ := ho (xs (3 * k + 1)) k M (by omega) hI
  have hX := h.c
  refine ro_aload_n (i := 1) (q := 749) hX dL_law_748 rfl rfl rfl ?_
  refine ro_aload_n (i := 0) (q := 750) hX dL_law_749 rfl rfl rfl ?_
  refine ro_iload (i := 4) (q := 752) hX dL_law_750 rfl rfl ?_
  refine ro_iconst (v := nI 1) (q := 753) hX dL_law_752 rfl rfl ?_
  refine ro_iadd (q := 754) hX dL_law_753 rfl ?_
  refine vv_top (y := nI (3 * k + 1)) (nI_add' rfl rfl) ?_
  refine ro_sld (n := 3 * k + 1) (q9 := 755) h rfl (by omega) hL dL_law_754 rfl ?_
  refine ro_aload_n (i := 3) (q := 756) hX dL_law_755 rfl rfl rfl ?_
  refine ro_callSH (q9 := 759) hX e1 mh_L_pass kl_L_141 rfl rfl (Nat.le_of_ble_eq_true rfl) ⟨Nat.le_of_ble_eq_true rfl, Nat.le_of_ble_eq_true rfl⟩ dL_law_756 ⟨(by show c9 + 1 ≤ 601024; omega), (by show s9 + 6 ≤ 7293034; omega)⟩ rfl ?_
  refine ro_istore (i := 5) (q := 761) hX dL_law_759 (Nat.le_of_ble_eq_true rfl) rfl ?_
  refine ro_aload_n (i := 2) (q := 762) hX dL_law_761 rfl rfl rfl ?_
  refine ro_aload_n (i := 0) (q := 763) hX dL_law_762 rfl rfl rfl ?_
  refine ro_iload (i := 4) (q := 765) hX dL_law_763 rfl rfl ?_
  refine ro_iconst (v := nI 1) (q := 766) hX dL_law_765 rfl rfl ?_
  refine ro_iadd (q := 767) hX dL_law_766 rfl ?_
  refine vv_top (y := nI (3 * k + 1)) (nI_add' rfl rfl) ?_
  refine ro_sld (n := 3 * k + 1) (q9 := 768) h rfl (by omega) hL dL_law_767 rfl ?_
  refine ro_callVi (q9 := 771) hX e2 mw_X3_pass kl_L_143 (by decide) (fun cy => cell3 (by decide +kernel)) rfl rfl rfl (Nat.le_of_ble_eq_true rfl) ⟨Nat.le_of_ble_eq_true rfl, Nat.le_of_ble_eq_true rfl⟩ dL_law_768 ⟨(by show _ ≤ 601024; omega), (by show _ ≤ 7293034; omega)⟩ rfl ?_
  refine ro_istore (i := 6) (q := 773) hX dL_law_771 (Nat.le_of_ble_eq_true rfl) rfl ?_
  refine ro_aload_n (i := 2) (q := 774) hX dL_law_773 rfl rfl rfl ?_
  refine ro_callVi (q9 := 777) hX e3 mw_X3_thrown kl_L_113 (by decide) (fun cy => cell3 (by decide +kernel)) rfl rfl rfl (Nat.le_of_ble_eq_true rfl) ⟨Nat.le_of_ble_eq_true rfl, Nat.le_of_ble_eq_true rfl⟩ dL_law_774 ⟨(by show _ ≤ 601024; omega), (by show _ ≤ 7293034; omega)⟩ rfl ?_
  refine ro_iload (i := 5) (q := 779) hX dL_law_777 rfl rfl ?_
  refine ro_icmp_eq (tgt := 784) (q := 782) hX dL_law_779 (by decide) rfl (fun _ => ?_) (fun q => absurd rfl q)
  refine ro_iload (i := 5) (q := 786) hX dL_law_784 rfl rfl ?_
  refine ro_if_ne (tgt := 801) (q := 789) hX dL_law_786 (by decide) rfl (fun _ => ?_) (fun hz => ?_)
  · skip
    refine ro_goto (tgt := 1911) hX dL_law_801 (by decide) ?_
    refine ro_drop (L' := [(0, .ref b), (1, .ref (sz + 0)), (2, .ref (sz + 75)), (3, .ref (sz + 79)), (4, .int (nI (3 * k)))]) [5, 6] hX rfl ?_
    exact law_next h (hP _ _ _ e5 (by omega) (by omega))
  · skip
    refine ro_aload_n (i := 3) (q := 790) hX dL_law_789 rfl rfl rfl ?_
    refine ro_iconst (v := nI 0) (q := 791) hX dL_law_790 rfl rfl ?_
    refine ro_lald (q9 := 792) hX dL_law_791 rfl ?_
    refine ro_iload (i := 6) (q := 794) hX dL_law_792 rfl rfl ?_
    rw [e4 hz]
    refine ro_i2l (v := v.toInt64) (q := 795) hX dL_law_794 rfl rfl ?_
    refine ro_lcmp (q := 796) hX dL_law_795 rfl ?_
    refine ro_if_eq (tgt := 801) (q := 799) hX dL_law_796 (by decide) rfl (fun _ => ?_) (fun q => absurd (lg_cmp_0 _) q)
    refine ro_goto (tgt := 1911) hX dL_law_801 (by decide) ?_
    refine ro_drop (L' := [(0, .ref b), (1, .ref (sz + 0)), (2, .ref (sz + 75)), (3, .ref (sz + 79)), (4, .int (nI (3 * k)))]) [5, 6] hX rfl ?_
    exact law_next h (hP _ _ _ e5 (by omega) (by omega))
set_option maxRecDepth 20000 in
theorem law_op_10 (h : CtxL VV sz b LL xs) (hL : LL ≤ 1536) {k : Nat} (hk : 3 * k + 3 ≤ LL) {c9 s9 : Nat} (hc9 : c9 ≤ 90 + k) (hs9 : s9 ≤ 4000 + 6 * k) (hI : Inv k M) (ho : ∀ x : Int32, OpX sz Inv I_L_setTransferTime hh_L_setTransferTime I_X3_setTransferTime [.int x]) (hP : ∀ M' c' s', Inv (k + 1) M' → c' ≤ 90 + (k + 1) → s' ≤ 4000 + 6 * (k + 1) → VV c' s' 23 [(0, .ref b), (1, .ref (sz + 0)), (2, .ref (sz + 75)), (3, .ref (sz + 79)), (4, .int (nI (3 * (k + 1))))] [] M') : VV c9 s9 804 [(0, .ref b), (1, .ref (sz + 0)), (2, .ref (sz + 75)), (3, .ref (sz + 79)), (4, .int (nI (3 * k)))] [] M := by
  obtain ⟨cd, v, M1, M2, M3, e1, e2, e3, e4, e5⟩ := ho (xs (3 * k + 1)) k M (by omega) hI
  have hX := h.c
  refine ro_aload_n (i := 1) (q := 805) hX dL_law_804 rfl rfl rfl ?_
  refine ro_aload_n (i := 0) (q := 806) hX dL_law_805 rfl rfl rfl ?_
  refine ro_iload (i := 4) (q := 808) hX dL_law_806 rfl rfl ?_
  refine ro_iconst (v := nI 1) (q := 809) hX dL_law_808 rfl rfl ?_
  refine ro_iadd (q := 810) hX dL_law_809 rfl ?_
  refine vv_top (y := nI (3 * k + 1)) (nI_add' rfl rfl) ?_
  refine ro_sld (n := 3 * k + 1) (q9 := 811) h rfl (by omega) hL dL_law_810 rfl ?_
  refine ro_aload_n (i := 3) (q := 812) hX dL_law_811 rfl rfl rfl ?_
  refine ro_callSH (q9 := 815) hX e1 mh_L_setTransferTime kl_L_144 rfl rfl (Nat.le_of_ble_eq_true rfl) ⟨Nat.le_of_ble_eq_true rfl, Nat.le_of_ble_eq_true rfl⟩ dL_law_812 ⟨(by show c9 + 1 ≤ 601024; omega), (by show s9 + 6 ≤ 7293034; omega)⟩ rfl ?_
  refine ro_istore (i := 5) (q := 817) hX dL_law_815 (Nat.le_of_ble_eq_true rfl) rfl ?_
  refine ro_aload_n (i := 2) (q := 818) hX dL_law_817 rfl rfl rfl ?_
  refine ro_aload_n (i := 0) (q := 819) hX dL_law_818 rfl rfl rfl ?_
  refine ro_iload (i := 4) (q := 821) hX dL_law_819 rfl rfl ?_
  refine ro_iconst (v := nI 1) (q := 822) hX dL_law_821 rfl rfl ?_
  refine ro_iadd (q := 823) hX dL_law_822 rfl ?_
  refine vv_top (y := nI (3 * k + 1)) (nI_add' rfl rfl) ?_
  refine ro_sld (n := 3 * k + 1) (q9 := 824) h rfl (by omega) hL dL_law_823 rfl ?_
  refine ro_callVi (q9 := 827) hX e2 mw_X3_setTransferTime kl_L_146 (by decide) (fun cy => cell3 (by decide +kernel)) rfl rfl rfl (Nat.le_of_ble_eq_true rfl) ⟨Nat.le_of_ble_eq_true rfl, Nat.le_of_ble_eq_true rfl⟩ dL_law_824 ⟨(by show _ ≤ 601024; omega), (by show _ ≤ 7293034; omega)⟩ rfl ?_
  refine ro_istore (i := 6) (q := 829) hX dL_law_827 (Nat.le_of_ble_eq_true rfl) rfl ?_
  refine ro_aload_n (i := 2) (q := 830) hX dL_law_829 rfl rfl rfl ?_
  refine ro_callVi (q9 := 833) hX e3 mw_X3_thrown kl_L_113 (by decide) (fun cy => cell3 (by decide +kernel)) rfl rfl rfl (Nat.le_of_ble_eq_true rfl) ⟨Nat.le_of_ble_eq_true rfl, Nat.le_of_ble_eq_true rfl⟩ dL_law_830 ⟨(by show _ ≤ 601024; omega), (by show _ ≤ 7293034; omega)⟩ rfl ?_
  refine ro_iload (i := 5) (q := 835) hX dL_law_833 rfl rfl ?_
  refine ro_icmp_eq (tgt := 840) (q := 838) hX dL_law_835 (by decide) rfl (fun _ => ?_) (fun q => absurd rfl q)
  refine ro_iload (i := 5) (q := 842) hX dL_law_840 rfl rfl ?_
  refine ro_if_ne (tgt := 857) (q := 845) hX dL_law_842 (by decide) rfl (fun _ => ?_) (fun hz => ?_)
  · skip
    refine ro_goto (tgt := 1911) hX dL_law_857 (by decide) ?_
    refine ro_drop (L' := [(0, .ref b), (1, .ref (sz + 0)), (2, .ref (sz + 75)), (3, .ref (sz + 79)), (4, .int (nI (3 * k)))]) [5, 6] hX rfl ?_
    exact law_next h (hP _ _ _ e5 (by omega) (by omega))
  · skip
    refine ro_aload_n (i := 3) (q := 846) hX dL_law_845 rfl rfl rfl ?_
    refine ro_iconst (v := nI 0) (q := 847) hX dL_law_846 rfl rfl ?_
    refine ro_lald (q9 := 848) hX dL_law_847 rfl ?_
    refine ro_iload (i := 6) (q := 850) hX dL_law_848 rfl rfl ?_
    rw [e4 hz]
    refine ro_i2l (v := v.toInt64) (q := 851) hX dL_law_850 rfl rfl ?_
    refine ro_lcmp (q := 852) hX dL_law_851 rfl ?_
    refine ro_if_eq (tgt := 857) (q := 855) hX dL_law_852 (by decide) rfl (fun _ => ?_) (fun q => absurd (lg_cmp_0 _) q)
    refine ro_goto (tgt := 1911) hX dL_law_857 (by decide) ?_
    refine ro_drop (L' := [(0, .ref b), (1, .ref (sz + 0)), (2, .ref (sz + 75)), (3, .ref (sz + 79)), (4, .int (nI (3 * k)))]) [5, 6] hX rfl ?_
    exact law_next h (hP _ _ _ e5 (by omega) (by omega))
set_option maxRecDepth 20000 in
theorem law_op_11 (h : CtxL VV sz b LL xs) (hL : LL ≤ 1536) {k : Nat} (hk : 3 * k + 3 ≤ LL) {c9 s9 : Nat} (hc9 : c9 ≤ 90 + k) (hs9 : s9 ≤ 4000 + 6 * k) (hI : Inv k M) (ho : ∀ x : Int32, OpX sz Inv I_L_appendText hh_L_appendText I_X3_appendText [.int x]) (hP : ∀ M' c' s', Inv (k + 1) M' → c' ≤ 90 + (k + 1) → s' ≤ 4000 + 6 * (k + 1) → VV c' s' 23 [(0, .ref b), (1, .ref (sz + 0)), (2, .ref (sz + 75)), (3, .ref (sz + 79)), (4, .int (nI (3 * (k + 1))))] [] M') : VV c9 s9 860 [(0, .ref b), (1, .ref (sz + 0)), (2, .ref (sz + 75)), (3, .ref (sz + 79)), (4, .int (nI (3 * k)))] [] M := by
  obtain ⟨cd, v, M1, M2, M3, e1, e2, e3, e4, e5⟩ := ho (xs (3 * k + 1)) k M (by omega) hI
  have hX := h.c
  refine ro_aload_n (i := 1) (q := 861) hX dL_law_860 rfl rfl rfl ?_
  refine ro_aload_n (i := 0) (q := 862) hX dL_law_861 rfl rfl rfl ?_
  refine ro_iload (i := 4) (q := 864) hX dL_law_862 rfl rfl ?_
  refine ro_iconst (v := nI 1) (q := 865) hX dL_law_864 rfl rfl ?_
  refine ro_iadd (q := 866) hX dL_law_865 rfl ?_
  refine vv_top (y := nI (3 * k + 1)) (nI_add' rfl rfl) ?_
  refine ro_sld (n := 3 * k + 1) (q9 := 867) h rfl (by omega) hL dL_law_866 rfl ?_
  refine ro_aload_n (i := 3) (q := 868) hX dL_law_867 rfl rfl rfl ?_
  refine ro_callSH (q9 := 871) hX e1 mh_L_appendText kl_L_147 rfl rfl (Nat.le_of_ble_eq_true rfl) ⟨Nat.le_of_ble_eq_true rfl, Nat.le_of_ble_eq_true rfl⟩ dL_law_868 ⟨(by show c9 + 1 ≤ 601024; omega), (by show s9 + 6 ≤ 7293034; omega)⟩ rfl ?_
  refine ro_istore (i := 5) (q := 873) hX dL_law_871 (Nat.le_of_ble_eq_true rfl) rfl ?_
  refine ro_aload_n (i := 2) (q := 874) hX dL_law_873 rfl rfl rfl ?_
  refine ro_aload_n (i := 0) (q := 875) hX dL_law_874 rfl rfl rfl ?_
  refine ro_iload (i := 4) (q := 877) hX dL_law_875 rfl rfl ?_
  refine ro_iconst (v := nI 1) (q := 878) hX dL_law_877 rfl rfl ?_
  refine ro_iadd (q := 879) hX dL_law_878 rfl ?_
  refine vv_top (y := nI (3 * k + 1)) (nI_add' rfl rfl) ?_
  refine ro_sld (n := 3 * k + 1) (q9 := 880) h rfl (by omega) hL dL_law_879 rfl ?_
  refine ro_callVi (q9 := 883) hX e2 mw_X3_appendText kl_L_149 (by decide) (fun cy => cell3 (by decide +kernel)) rfl rfl rfl (Nat.le_of_ble_eq_true rfl) ⟨Nat.le_of_ble_eq_true rfl, Nat.le_of_ble_eq_true rfl⟩ dL_law_880 ⟨(by show _ ≤ 601024; omega), (by show _ ≤ 7293034; omega)⟩ rfl ?_
  refine ro_istore (i := 6) (q := 885) hX dL_law_883 (Nat.le_of_ble_eq_true rfl) rfl ?_
  refine ro_aload_n (i := 2) (q := 886) hX dL_law_885 rfl rfl rfl ?_
  refine ro_callVi (q9 := 889) hX e3 mw_X3_thrown kl_L_113 (by decide) (fun cy => cell3 (by decide +kernel)) rfl rfl rfl (Nat.le_of_ble_eq_true rfl) ⟨Nat.le_of_ble_eq_true rfl, Nat.le_of_ble_eq_true rfl⟩ dL_law_886 ⟨(by show _ ≤ 601024; omega), (by show _ ≤ 7293034; omega)⟩ rfl ?_
  refine ro_iload (i := 5) (q := 891) hX dL_law_889 rfl rfl ?_
  refine ro_icmp_eq (tgt := 896) (q := 894) hX dL_law_891 (by decide) rfl (fun _ => ?_) (fun q => absurd rfl q)
  refine ro_iload (i := 5) (q := 898) hX dL_law_896 rfl rfl ?_
  refine ro_if_ne (tgt := 913) (q := 901) hX dL_law_898 (by decide) rfl (fun _ => ?_) (fun hz => ?_)
  · skip
    refine ro_goto (tgt := 1911) hX dL_law_913 (by decide) ?_
    refine ro_drop (L' := [(0, .ref b), (1, .ref (sz + 0)), (2, .ref (sz + 75)), (3, .ref (sz + 79)), (4, .int (nI (3 * k)))]) [5, 6] hX rfl ?_
    exact law_next h (hP _ _ _ e5 (by omega) (by omega))
  · skip
    refine ro_aload_n (i := 3) (q := 902) hX dL_law_901 rfl rfl rfl ?_
    refine ro_iconst (v := nI 0) (q := 903) hX dL_law_902 rfl rfl ?_
    refine ro_lald (q9 := 904) hX dL_law_903 rfl ?_
    refine ro_iload (i := 6) (q := 906) hX dL_law_904 rfl rfl ?_
    rw [e4 hz]
    refine ro_i2l (v := v.toInt64) (q := 907) hX dL_law_906 rfl rfl ?_
    refine ro_lcmp (q := 908) hX dL_law_907 rfl ?_
    refine ro_if_eq (tgt := 913) (q := 911) hX dL_law_908 (by decide) rfl (fun _ => ?_) (fun q => absurd (lg_cmp_0 _) q)
    refine ro_goto (tgt := 1911) hX dL_law_913 (by decide) ?_
    refine ro_drop (L' := [(0, .ref b), (1, .ref (sz + 0)), (2, .ref (sz + 75)), (3, .ref (sz + 79)), (4, .int (nI (3 * k)))]) [5, 6] hX rfl ?_
    exact law_next h (hP _ _ _ e5 (by omega) (by omega))
set_option maxRecDepth 20000 in
theorem law_op_12 (h : CtxL VV sz b LL xs) (hL : LL ≤ 1536) {k : Nat} (hk : 3 * k + 3 ≤ LL) {c9 s9 : Nat} (hc9 : c9 ≤ 90 + k) (hs9 : s9 ≤ 4000 + 6 * k) (hI : Inv k M) (ho : OpD sz Inv I_X2_clearText I_X3_clearText) (hP : ∀ M' c' s', Inv (k + 1) M' → c' ≤ 90 + (k + 1) → s' ≤ 4000 + 6 * (k + 1) → VV c' s' 23 [(0, .ref b), (1, .ref (sz + 0)), (2, .ref (sz + 75)), (3, .ref (sz + 79)), (4, .int (nI (3 * (k + 1))))] [] M') : VV c9 s9 916 [(0, .ref b), (1, .ref (sz + 0)), (2, .ref (sz + 75)), (3, .ref (sz + 79)), (4, .int (nI (3 * k)))] [] M := by
  obtain ⟨v, M1, M2, e1, e2, e3⟩ := ho k M (by omega) hI
  have hX := h.c
  refine ro_aload_n (i := 1) (q := 917) hX dL_law_916 rfl rfl rfl ?_
  refine ro_callVi (q9 := 920) hX e1 mw_X2_clearText kl_L_150 (by decide) (fun cy => cell2 (by decide +kernel)) rfl rfl rfl (Nat.le_of_ble_eq_true rfl) ⟨Nat.le_of_ble_eq_true rfl, Nat.le_of_ble_eq_true rfl⟩ dL_law_917 ⟨(by show _ ≤ 601024; omega), (by show _ ≤ 7293034; omega)⟩ rfl ?_
  refine ro_aload_n (i := 2) (q := 921) hX dL_law_920 rfl rfl rfl ?_
  refine ro_callVi (q9 := 924) hX e2 mw_X3_clearText kl_L_153 (by decide) (fun cy => cell3 (by decide +kernel)) rfl rfl rfl (Nat.le_of_ble_eq_true rfl) ⟨Nat.le_of_ble_eq_true rfl, Nat.le_of_ble_eq_true rfl⟩ dL_law_921 ⟨(by show _ ≤ 601024; omega), (by show _ ≤ 7293034; omega)⟩ rfl ?_
  refine ro_icmp_eq (tgt := 1911) (q := 927) hX dL_law_924 (by decide) rfl (fun _ => ?_) (fun q => absurd rfl q)
  exact law_next h (hP _ _ _ e3 (by omega) (by omega))
set_option maxRecDepth 20000 in
theorem law_op_13 (h : CtxL VV sz b LL xs) (hL : LL ≤ 1536) {k : Nat} (hk : 3 * k + 3 ≤ LL) {c9 s9 : Nat} (hc9 : c9 ≤ 90 + k) (hs9 : s9 ≤ 4000 + 6 * k) (hI : Inv k M) (ho : OpD sz Inv I_X2_errorPosition I_X3_errorPosition) (hP : ∀ M' c' s', Inv (k + 1) M' → c' ≤ 90 + (k + 1) → s' ≤ 4000 + 6 * (k + 1) → VV c' s' 23 [(0, .ref b), (1, .ref (sz + 0)), (2, .ref (sz + 75)), (3, .ref (sz + 79)), (4, .int (nI (3 * (k + 1))))] [] M') : VV c9 s9 929 [(0, .ref b), (1, .ref (sz + 0)), (2, .ref (sz + 75)), (3, .ref (sz + 79)), (4, .int (nI (3 * k)))] [] M := by
  obtain ⟨v, M1, M2, e1, e2, e3⟩ := ho k M (by omega) hI
  have hX := h.c
  refine ro_aload_n (i := 1) (q := 930) hX dL_law_929 rfl rfl rfl ?_
  refine ro_callVi (q9 := 933) hX e1 mw_X2_errorPosition kl_L_154 (by decide) (fun cy => cell2 (by decide +kernel)) rfl rfl rfl (Nat.le_of_ble_eq_true rfl) ⟨Nat.le_of_ble_eq_true rfl, Nat.le_of_ble_eq_true rfl⟩ dL_law_930 ⟨(by show _ ≤ 601024; omega), (by show _ ≤ 7293034; omega)⟩ rfl ?_
  refine ro_aload_n (i := 2) (q := 934) hX dL_law_933 rfl rfl rfl ?_
  refine ro_callVi (q9 := 937) hX e2 mw_X3_errorPosition kl_L_157 (by decide) (fun cy => cell3 (by decide +kernel)) rfl rfl rfl (Nat.le_of_ble_eq_true rfl) ⟨Nat.le_of_ble_eq_true rfl, Nat.le_of_ble_eq_true rfl⟩ dL_law_934 ⟨(by show _ ≤ 601024; omega), (by show _ ≤ 7293034; omega)⟩ rfl ?_
  refine ro_icmp_eq (tgt := 1911) (q := 940) hX dL_law_937 (by decide) rfl (fun _ => ?_) (fun q => absurd rfl q)
  exact law_next h (hP _ _ _ e3 (by omega) (by omega))
set_option maxRecDepth 20000 in
theorem law_op_14 (h : CtxL VV sz b LL xs) (hL : LL ≤ 1536) {k : Nat} (hk : 3 * k + 3 ≤ LL) {c9 s9 : Nat} (hc9 : c9 ≤ 90 + k) (hs9 : s9 ≤ 4000 + 6 * k) (hI : Inv k M) (ho : OpX sz Inv I_L_runText hh_L_runText I_X3_runText []) (hP : ∀ M' c' s', Inv (k + 1) M' → c' ≤ 90 + (k + 1) → s' ≤ 4000 + 6 * (k + 1) → VV c' s' 23 [(0, .ref b), (1, .ref (sz + 0)), (2, .ref (sz + 75)), (3, .ref (sz + 79)), (4, .int (nI (3 * (k + 1))))] [] M') : VV c9 s9 942 [(0, .ref b), (1, .ref (sz + 0)), (2, .ref (sz + 75)), (3, .ref (sz + 79)), (4, .int (nI (3 * k)))] [] M := by
  obtain ⟨cd, v, M1, M2, M3, e1, e2, e3, e4, e5⟩ := ho k M (by omega) hI
  have hX := h.c
  refine ro_aload_n (i := 1) (q := 943) hX dL_law_942 rfl rfl rfl ?_
  refine ro_aload_n (i := 3) (q := 944) hX dL_law_943 rfl rfl rfl ?_
  refine ro_callSH (q9 := 947) hX e1 mh_L_runText kl_L_158 rfl rfl (Nat.le_of_ble_eq_true rfl) ⟨Nat.le_of_ble_eq_true rfl, Nat.le_of_ble_eq_true rfl⟩ dL_law_944 ⟨(by show c9 + 1 ≤ 601024; omega), (by show s9 + 6 ≤ 7293034; omega)⟩ rfl ?_
  refine ro_istore (i := 5) (q := 949) hX dL_law_947 (Nat.le_of_ble_eq_true rfl) rfl ?_
  refine ro_aload_n (i := 2) (q := 950) hX dL_law_949 rfl rfl rfl ?_
  refine ro_callVi (q9 := 953) hX e2 mw_X3_runText kl_L_161 (by decide) (fun cy => cell3 (by decide +kernel)) rfl rfl rfl (Nat.le_of_ble_eq_true rfl) ⟨Nat.le_of_ble_eq_true rfl, Nat.le_of_ble_eq_true rfl⟩ dL_law_950 ⟨(by show _ ≤ 601024; omega), (by show _ ≤ 7293034; omega)⟩ rfl ?_
  refine ro_istore (i := 6) (q := 955) hX dL_law_953 (Nat.le_of_ble_eq_true rfl) rfl ?_
  refine ro_aload_n (i := 2) (q := 956) hX dL_law_955 rfl rfl rfl ?_
  refine ro_callVi (q9 := 959) hX e3 mw_X3_thrown kl_L_113 (by decide) (fun cy => cell3 (by decide +kernel)) rfl rfl rfl (Nat.le_of_ble_eq_true rfl) ⟨Nat.le_of_ble_eq_true rfl, Nat.le_of_ble_eq_true rfl⟩ dL_law_956 ⟨(by show _ ≤ 601024; omega), (by show _ ≤ 7293034; omega)⟩ rfl ?_
  refine ro_iload (i := 5) (q := 961) hX dL_law_959 rfl rfl ?_
  refine ro_icmp_eq (tgt := 966) (q := 964) hX dL_law_961 (by decide) rfl (fun _ => ?_) (fun q => absurd rfl q)
  refine ro_iload (i := 5) (q := 968) hX dL_law_966 rfl rfl ?_
  refine ro_if_ne (tgt := 983) (q := 971) hX dL_law_968 (by decide) rfl (fun _ => ?_) (fun hz => ?_)
  · skip
    refine ro_goto (tgt := 1911) hX dL_law_983 (by decide) ?_
    refine ro_drop (L' := [(0, .ref b), (1, .ref (sz + 0)), (2, .ref (sz + 75)), (3, .ref (sz + 79)), (4, .int (nI (3 * k)))]) [5, 6] hX rfl ?_
    exact law_next h (hP _ _ _ e5 (by omega) (by omega))
  · skip
    refine ro_aload_n (i := 3) (q := 972) hX dL_law_971 rfl rfl rfl ?_
    refine ro_iconst (v := nI 0) (q := 973) hX dL_law_972 rfl rfl ?_
    refine ro_lald (q9 := 974) hX dL_law_973 rfl ?_
    refine ro_iload (i := 6) (q := 976) hX dL_law_974 rfl rfl ?_
    rw [e4 hz]
    refine ro_i2l (v := v.toInt64) (q := 977) hX dL_law_976 rfl rfl ?_
    refine ro_lcmp (q := 978) hX dL_law_977 rfl ?_
    refine ro_if_eq (tgt := 983) (q := 981) hX dL_law_978 (by decide) rfl (fun _ => ?_) (fun q => absurd (lg_cmp_0 _) q)
    refine ro_goto (tgt := 1911) hX dL_law_983 (by decide) ?_
    refine ro_drop (L' := [(0, .ref b), (1, .ref (sz + 0)), (2, .ref (sz + 75)), (3, .ref (sz + 79)), (4, .int (nI (3 * k)))]) [5, 6] hX rfl ?_
    exact law_next h (hP _ _ _ e5 (by omega) (by omega))
set_option maxRecDepth 20000 in
theorem law_op_15 (h : CtxL VV sz b LL xs) (hL : LL ≤ 1536) {k : Nat} (hk : 3 * k + 3 ≤ LL) {c9 s9 : Nat} (hc9 : c9 ≤ 90 + k) (hs9 : s9 ≤ 4000 + 6 * k) (hI : Inv k M) (ho : OpX sz Inv I_L_undo hh_L_undo I_X3_undo []) (hP : ∀ M' c' s', Inv (k + 1) M' → c' ≤ 90 + (k + 1) → s' ≤ 4000 + 6 * (k + 1) → VV c' s' 23 [(0, .ref b), (1, .ref (sz + 0)), (2, .ref (sz + 75)), (3, .ref (sz + 79)), (4, .int (nI (3 * (k + 1))))] [] M') : VV c9 s9 986 [(0, .ref b), (1, .ref (sz + 0)), (2, .ref (sz + 75)), (3, .ref (sz + 79)), (4, .int (nI (3 * k)))] [] M := by
  obtain ⟨cd, v, M1, M2, M3, e1, e2, e3, e4, e5⟩ := ho k M (by omega) hI
  have hX := h.c
  refine ro_aload_n (i := 1) (q := 987) hX dL_law_986 rfl rfl rfl ?_
  refine ro_aload_n (i := 3) (q := 988) hX dL_law_987 rfl rfl rfl ?_
  refine ro_callSH (q9 := 991) hX e1 mh_L_undo kl_L_162 rfl rfl (Nat.le_of_ble_eq_true rfl) ⟨Nat.le_of_ble_eq_true rfl, Nat.le_of_ble_eq_true rfl⟩ dL_law_988 ⟨(by show c9 + 1 ≤ 601024; omega), (by show s9 + 6 ≤ 7293034; omega)⟩ rfl ?_
  refine ro_istore (i := 5) (q := 993) hX dL_law_991 (Nat.le_of_ble_eq_true rfl) rfl ?_
  refine ro_aload_n (i := 2) (q := 994) hX dL_law_993 rfl rfl rfl ?_
  refine ro_callVi (q9 := 997) hX e2 mw_X3_undo kl_L_164 (by decide) (fun cy => cell3 (by decide +kernel)) rfl rfl rfl (Nat.le_of_ble_eq_true rfl) ⟨Nat.le_of_ble_eq_true rfl, Nat.le_of_ble_eq_true rfl⟩ dL_law_994 ⟨(by show _ ≤ 601024; omega), (by show _ ≤ 7293034; omega)⟩ rfl ?_
  refine ro_istore (i := 6) (q := 999) hX dL_law_997 (Nat.le_of_ble_eq_true rfl) rfl ?_
  refine ro_aload_n (i := 2) (q := 1000) hX dL_law_999 rfl rfl rfl ?_
  refine ro_callVi (q9 := 1003) hX e3 mw_X3_thrown kl_L_113 (by decide) (fun cy => cell3 (by decide +kernel)) rfl rfl rfl (Nat.le_of_ble_eq_true rfl) ⟨Nat.le_of_ble_eq_true rfl, Nat.le_of_ble_eq_true rfl⟩ dL_law_1000 ⟨(by show _ ≤ 601024; omega), (by show _ ≤ 7293034; omega)⟩ rfl ?_
  refine ro_iload (i := 5) (q := 1005) hX dL_law_1003 rfl rfl ?_
  refine ro_icmp_eq (tgt := 1010) (q := 1008) hX dL_law_1005 (by decide) rfl (fun _ => ?_) (fun q => absurd rfl q)
  refine ro_iload (i := 5) (q := 1012) hX dL_law_1010 rfl rfl ?_
  refine ro_if_ne (tgt := 1027) (q := 1015) hX dL_law_1012 (by decide) rfl (fun _ => ?_) (fun hz => ?_)
  · skip
    refine ro_goto (tgt := 1911) hX dL_law_1027 (by decide) ?_
    refine ro_drop (L' := [(0, .ref b), (1, .ref (sz + 0)), (2, .ref (sz + 75)), (3, .ref (sz + 79)), (4, .int (nI (3 * k)))]) [5, 6] hX rfl ?_
    exact law_next h (hP _ _ _ e5 (by omega) (by omega))
  · skip
    refine ro_aload_n (i := 3) (q := 1016) hX dL_law_1015 rfl rfl rfl ?_
    refine ro_iconst (v := nI 0) (q := 1017) hX dL_law_1016 rfl rfl ?_
    refine ro_lald (q9 := 1018) hX dL_law_1017 rfl ?_
    refine ro_iload (i := 6) (q := 1020) hX dL_law_1018 rfl rfl ?_
    rw [e4 hz]
    refine ro_i2l (v := v.toInt64) (q := 1021) hX dL_law_1020 rfl rfl ?_
    refine ro_lcmp (q := 1022) hX dL_law_1021 rfl ?_
    refine ro_if_eq (tgt := 1027) (q := 1025) hX dL_law_1022 (by decide) rfl (fun _ => ?_) (fun q => absurd (lg_cmp_0 _) q)
    refine ro_goto (tgt := 1911) hX dL_law_1027 (by decide) ?_
    refine ro_drop (L' := [(0, .ref b), (1, .ref (sz + 0)), (2, .ref (sz + 75)), (3, .ref (sz + 79)), (4, .int (nI (3 * k)))]) [5, 6] hX rfl ?_
    exact law_next h (hP _ _ _ e5 (by omega) (by omega))
set_option maxRecDepth 20000 in
theorem law_op_16 (h : CtxL VV sz b LL xs) (hL : LL ≤ 1536) {k : Nat} (hk : 3 * k + 3 ≤ LL) {c9 s9 : Nat} (hc9 : c9 ≤ 90 + k) (hs9 : s9 ≤ 4000 + 6 * k) (hI : Inv k M) (ho : ∀ x : Int32, OpX sz Inv I_L_save hh_L_save I_X3_save [.int x]) (hP : ∀ M' c' s', Inv (k + 1) M' → c' ≤ 90 + (k + 1) → s' ≤ 4000 + 6 * (k + 1) → VV c' s' 23 [(0, .ref b), (1, .ref (sz + 0)), (2, .ref (sz + 75)), (3, .ref (sz + 79)), (4, .int (nI (3 * (k + 1))))] [] M') : VV c9 s9 1030 [(0, .ref b), (1, .ref (sz + 0)), (2, .ref (sz + 75)), (3, .ref (sz + 79)), (4, .int (nI (3 * k)))] [] M := by
  obtain ⟨cd, v, M1, M2, M3, e1, e2, e3, e4, e5⟩ := ho (xs (3 * k + 1)) k M (by omega) hI
  have hX := h.c
  refine ro_aload_n (i := 1) (q := 1031) hX dL_law_1030 rfl rfl rfl ?_
  refine ro_aload_n (i := 0) (q := 1032) hX dL_law_1031 rfl rfl rfl ?_
  refine ro_iload (i := 4) (q := 1034) hX dL_law_1032 rfl rfl ?_
  refine ro_iconst (v := nI 1) (q := 1035) hX dL_law_1034 rfl rfl ?_
  refine ro_iadd (q := 1036) hX dL_law_1035 rfl ?_
  refine vv_top (y := nI (3 * k + 1)) (nI_add' rfl rfl) ?_
  refine ro_sld (n := 3 * k + 1) (q9 := 1037) h rfl (by omega) hL dL_law_1036 rfl ?_
  refine ro_aload_n (i := 3) (q := 1038) hX dL_law_1037 rfl rfl rfl ?_
  refine ro_callSH (q9 := 1041) hX e1 mh_L_save kl_L_165 rfl rfl (Nat.le_of_ble_eq_true rfl) ⟨Nat.le_of_ble_eq_true rfl, Nat.le_of_ble_eq_true rfl⟩ dL_law_1038 ⟨(by show c9 + 1 ≤ 601024; omega), (by show s9 + 6 ≤ 7293034; omega)⟩ rfl ?_
  refine ro_istore (i := 5) (q := 1043) hX dL_law_1041 (Nat.le_of_ble_eq_true rfl) rfl ?_
  refine ro_aload_n (i := 2) (q := 1044) hX dL_law_1043 rfl rfl rfl ?_
  refine ro_aload_n (i := 0) (q := 1045) hX dL_law_1044 rfl rfl rfl ?_
  refine ro_iload (i := 4) (q := 1047) hX dL_law_1045 rfl rfl ?_
  refine ro_iconst (v := nI 1) (q := 1048) hX dL_law_1047 rfl rfl ?_
  refine ro_iadd (q := 1049) hX dL_law_1048 rfl ?_
  refine vv_top (y := nI (3 * k + 1)) (nI_add' rfl rfl) ?_
  refine ro_sld (n := 3 * k + 1) (q9 := 1050) h rfl (by omega) hL dL_law_1049 rfl ?_
  refine ro_callVi (q9 := 1053) hX e2 mw_X3_save kl_L_167 (by decide) (fun cy => cell3 (by decide +kernel)) rfl rfl rfl (Nat.le_of_ble_eq_true rfl) ⟨Nat.le_of_ble_eq_true rfl, Nat.le_of_ble_eq_true rfl⟩ dL_law_1050 ⟨(by show _ ≤ 601024; omega), (by show _ ≤ 7293034; omega)⟩ rfl ?_
  refine ro_istore (i := 6) (q := 1055) hX dL_law_1053 (Nat.le_of_ble_eq_true rfl) rfl ?_
  refine ro_aload_n (i := 2) (q := 1056) hX dL_law_1055 rfl rfl rfl ?_
  refine ro_callVi (q9 := 1059) hX e3 mw_X3_thrown kl_L_113 (by decide) (fun cy => cell3 (by decide +kernel)) rfl rfl rfl (Nat.le_of_ble_eq_true rfl) ⟨Nat.le_of_ble_eq_true rfl, Nat.le_of_ble_eq_true rfl⟩ dL_law_1056 ⟨(by show _ ≤ 601024; omega), (by show _ ≤ 7293034; omega)⟩ rfl ?_
  refine ro_iload (i := 5) (q := 1061) hX dL_law_1059 rfl rfl ?_
  refine ro_icmp_eq (tgt := 1066) (q := 1064) hX dL_law_1061 (by decide) rfl (fun _ => ?_) (fun q => absurd rfl q)
  refine ro_iload (i := 5) (q := 1068) hX dL_law_1066 rfl rfl ?_
  refine ro_if_ne (tgt := 1083) (q := 1071) hX dL_law_1068 (by decide) rfl (fun _ => ?_) (fun hz => ?_)
  · skip
    refine ro_goto (tgt := 1911) hX dL_law_1083 (by decide) ?_
    refine ro_drop (L' := [(0, .ref b), (1, .ref (sz + 0)), (2, .ref (sz + 75)), (3, .ref (sz + 79)), (4, .int (nI (3 * k)))]) [5, 6] hX rfl ?_
    exact law_next h (hP _ _ _ e5 (by omega) (by omega))
  · skip
    refine ro_aload_n (i := 3) (q := 1072) hX dL_law_1071 rfl rfl rfl ?_
    refine ro_iconst (v := nI 0) (q := 1073) hX dL_law_1072 rfl rfl ?_
    refine ro_lald (q9 := 1074) hX dL_law_1073 rfl ?_
    refine ro_iload (i := 6) (q := 1076) hX dL_law_1074 rfl rfl ?_
    rw [e4 hz]
    refine ro_i2l (v := v.toInt64) (q := 1077) hX dL_law_1076 rfl rfl ?_
    refine ro_lcmp (q := 1078) hX dL_law_1077 rfl ?_
    refine ro_if_eq (tgt := 1083) (q := 1081) hX dL_law_1078 (by decide) rfl (fun _ => ?_) (fun q => absurd (lg_cmp_0 _) q)
    refine ro_goto (tgt := 1911) hX dL_law_1083 (by decide) ?_
    refine ro_drop (L' := [(0, .ref b), (1, .ref (sz + 0)), (2, .ref (sz + 75)), (3, .ref (sz + 79)), (4, .int (nI (3 * k)))]) [5, 6] hX rfl ?_
    exact law_next h (hP _ _ _ e5 (by omega) (by omega))
set_option maxRecDepth 20000 in
theorem law_op_17 (h : CtxL VV sz b LL xs) (hL : LL ≤ 1536) {k : Nat} (hk : 3 * k + 3 ≤ LL) {c9 s9 : Nat} (hc9 : c9 ≤ 90 + k) (hs9 : s9 ≤ 4000 + 6 * k) (hI : Inv k M) (ho : ∀ x : Int32, OpX sz Inv I_L_restore hh_L_restore I_X3_restore [.int x]) (hP : ∀ M' c' s', Inv (k + 1) M' → c' ≤ 90 + (k + 1) → s' ≤ 4000 + 6 * (k + 1) → VV c' s' 23 [(0, .ref b), (1, .ref (sz + 0)), (2, .ref (sz + 75)), (3, .ref (sz + 79)), (4, .int (nI (3 * (k + 1))))] [] M') : VV c9 s9 1086 [(0, .ref b), (1, .ref (sz + 0)), (2, .ref (sz + 75)), (3, .ref (sz + 79)), (4, .int (nI (3 * k)))] [] M := by
  obtain ⟨cd, v, M1, M2, M3, e1, e2, e3, e4, e5⟩ := ho (xs (3 * k + 1)) k M (by omega) hI
  have hX := h.c
  refine ro_aload_n (i := 1) (q := 1087) hX dL_law_1086 rfl rfl rfl ?_
  refine ro_aload_n (i := 0) (q := 1088) hX dL_law_1087 rfl rfl rfl ?_
  refine ro_iload (i := 4) (q := 1090) hX dL_law_1088 rfl rfl ?_
  refine ro_iconst (v := nI 1) (q := 1091) hX dL_law_1090 rfl rfl ?_
  refine ro_iadd (q := 1092) hX dL_law_1091 rfl ?_
  refine vv_top (y := nI (3 * k + 1)) (nI_add' rfl rfl) ?_
  refine ro_sld (n := 3 * k + 1) (q9 := 1093) h rfl (by omega) hL dL_law_1092 rfl ?_
  refine ro_aload_n (i := 3) (q := 1094) hX dL_law_1093 rfl rfl rfl ?_
  refine ro_callSH (q9 := 1097) hX e1 mh_L_restore kl_L_168 rfl rfl (Nat.le_of_ble_eq_true rfl) ⟨Nat.le_of_ble_eq_true rfl, Nat.le_of_ble_eq_true rfl⟩ dL_law_1094 ⟨(by show c9 + 1 ≤ 601024; omega), (by show s9 + 6 ≤ 7293034; omega)⟩ rfl ?_
  refine ro_istore (i := 5) (q := 1099) hX dL_law_1097 (Nat.le_of_ble_eq_true rfl) rfl ?_
  refine ro_aload_n (i := 2) (q := 1100) hX dL_law_1099 rfl rfl rfl ?_
  refine ro_aload_n (i := 0) (q := 1101) hX dL_law_1100 rfl rfl rfl ?_
  refine ro_iload (i := 4) (q := 1103) hX dL_law_1101 rfl rfl ?_
  refine ro_iconst (v := nI 1) (q := 1104) hX dL_law_1103 rfl rfl ?_
  refine ro_iadd (q := 1105) hX dL_law_1104 rfl ?_
  refine vv_top (y := nI (3 * k + 1)) (nI_add' rfl rfl) ?_
  refine ro_sld (n := 3 * k + 1) (q9 := 1106) h rfl (by omega) hL dL_law_1105 rfl ?_
  refine ro_callVi (q9 := 1109) hX e2 mw_X3_restore kl_L_170 (by decide) (fun cy => cell3 (by decide +kernel)) rfl rfl rfl (Nat.le_of_ble_eq_true rfl) ⟨Nat.le_of_ble_eq_true rfl, Nat.le_of_ble_eq_true rfl⟩ dL_law_1106 ⟨(by show _ ≤ 601024; omega), (by show _ ≤ 7293034; omega)⟩ rfl ?_
  refine ro_istore (i := 6) (q := 1111) hX dL_law_1109 (Nat.le_of_ble_eq_true rfl) rfl ?_
  refine ro_aload_n (i := 2) (q := 1112) hX dL_law_1111 rfl rfl rfl ?_
  refine ro_callVi (q9 := 1115) hX e3 mw_X3_thrown kl_L_113 (by decide) (fun cy => cell3 (by decide +kernel)) rfl rfl rfl (Nat.le_of_ble_eq_true rfl) ⟨Nat.le_of_ble_eq_true rfl, Nat.le_of_ble_eq_true rfl⟩ dL_law_1112 ⟨(by show _ ≤ 601024; omega), (by show _ ≤ 7293034; omega)⟩ rfl ?_
  refine ro_iload (i := 5) (q := 1117) hX dL_law_1115 rfl rfl ?_
  refine ro_icmp_eq (tgt := 1122) (q := 1120) hX dL_law_1117 (by decide) rfl (fun _ => ?_) (fun q => absurd rfl q)
  refine ro_iload (i := 5) (q := 1124) hX dL_law_1122 rfl rfl ?_
  refine ro_if_ne (tgt := 1139) (q := 1127) hX dL_law_1124 (by decide) rfl (fun _ => ?_) (fun hz => ?_)
  · skip
    refine ro_goto (tgt := 1911) hX dL_law_1139 (by decide) ?_
    refine ro_drop (L' := [(0, .ref b), (1, .ref (sz + 0)), (2, .ref (sz + 75)), (3, .ref (sz + 79)), (4, .int (nI (3 * k)))]) [5, 6] hX rfl ?_
    exact law_next h (hP _ _ _ e5 (by omega) (by omega))
  · skip
    refine ro_aload_n (i := 3) (q := 1128) hX dL_law_1127 rfl rfl rfl ?_
    refine ro_iconst (v := nI 0) (q := 1129) hX dL_law_1128 rfl rfl ?_
    refine ro_lald (q9 := 1130) hX dL_law_1129 rfl ?_
    refine ro_iload (i := 6) (q := 1132) hX dL_law_1130 rfl rfl ?_
    rw [e4 hz]
    refine ro_i2l (v := v.toInt64) (q := 1133) hX dL_law_1132 rfl rfl ?_
    refine ro_lcmp (q := 1134) hX dL_law_1133 rfl ?_
    refine ro_if_eq (tgt := 1139) (q := 1137) hX dL_law_1134 (by decide) rfl (fun _ => ?_) (fun q => absurd (lg_cmp_0 _) q)
    refine ro_goto (tgt := 1911) hX dL_law_1139 (by decide) ?_
    refine ro_drop (L' := [(0, .ref b), (1, .ref (sz + 0)), (2, .ref (sz + 75)), (3, .ref (sz + 79)), (4, .int (nI (3 * k)))]) [5, 6] hX rfl ?_
    exact law_next h (hP _ _ _ e5 (by omega) (by omega))
set_option maxRecDepth 20000 in
theorem law_op_18 (h : CtxL VV sz b LL xs) (hL : LL ≤ 1536) {k : Nat} (hk : 3 * k + 3 ≤ LL) {c9 s9 : Nat} (hc9 : c9 ≤ 90 + k) (hs9 : s9 ≤ 4000 + 6 * k) (hI : Inv k M) (ho : ∀ x : Int32, OpX sz Inv I_L_status hh_L_status I_X3_status [.int x]) (hP : ∀ M' c' s', Inv (k + 1) M' → c' ≤ 90 + (k + 1) → s' ≤ 4000 + 6 * (k + 1) → VV c' s' 23 [(0, .ref b), (1, .ref (sz + 0)), (2, .ref (sz + 75)), (3, .ref (sz + 79)), (4, .int (nI (3 * (k + 1))))] [] M') : VV c9 s9 1142 [(0, .ref b), (1, .ref (sz + 0)), (2, .ref (sz + 75)), (3, .ref (sz + 79)), (4, .int (nI (3 * k)))] [] M := by
  obtain ⟨cd, v, M1, M2, M3, e1, e2, e3, e4, e5⟩ := ho (xs (3 * k + 1)) k M (by omega) hI
  have hX := h.c
  refine ro_aload_n (i := 1) (q := 1143) hX dL_law_1142 rfl rfl rfl ?_
  refine ro_aload_n (i := 0) (q := 1144) hX dL_law_1143 rfl rfl rfl ?_
  refine ro_iload (i := 4) (q := 1146) hX dL_law_1144 rfl rfl ?_
  refine ro_iconst (v := nI 1) (q := 1147) hX dL_law_1146 rfl rfl ?_
  refine ro_iadd (q := 1148) hX dL_law_1147 rfl ?_
  refine vv_top (y := nI (3 * k + 1)) (nI_add' rfl rfl) ?_
  refine ro_sld (n := 3 * k + 1) (q9 := 1149) h rfl (by omega) hL dL_law_1148 rfl ?_
  refine ro_aload_n (i := 3) (q := 1150) hX dL_law_1149 rfl rfl rfl ?_
  refine ro_callSH (q9 := 1153) hX e1 mh_L_status kl_L_171 rfl rfl (Nat.le_of_ble_eq_true rfl) ⟨Nat.le_of_ble_eq_true rfl, Nat.le_of_ble_eq_true rfl⟩ dL_law_1150 ⟨(by show c9 + 1 ≤ 601024; omega), (by show s9 + 6 ≤ 7293034; omega)⟩ rfl ?_
  refine ro_istore (i := 5) (q := 1155) hX dL_law_1153 (Nat.le_of_ble_eq_true rfl) rfl ?_
  refine ro_aload_n (i := 2) (q := 1156) hX dL_law_1155 rfl rfl rfl ?_
  refine ro_aload_n (i := 0) (q := 1157) hX dL_law_1156 rfl rfl rfl ?_
  refine ro_iload (i := 4) (q := 1159) hX dL_law_1157 rfl rfl ?_
  refine ro_iconst (v := nI 1) (q := 1160) hX dL_law_1159 rfl rfl ?_
  refine ro_iadd (q := 1161) hX dL_law_1160 rfl ?_
  refine vv_top (y := nI (3 * k + 1)) (nI_add' rfl rfl) ?_
  refine ro_sld (n := 3 * k + 1) (q9 := 1162) h rfl (by omega) hL dL_law_1161 rfl ?_
  refine ro_callVi (q9 := 1165) hX e2 mw_X3_status kl_L_173 (by decide) (fun cy => cell3 (by decide +kernel)) rfl rfl rfl (Nat.le_of_ble_eq_true rfl) ⟨Nat.le_of_ble_eq_true rfl, Nat.le_of_ble_eq_true rfl⟩ dL_law_1162 ⟨(by show _ ≤ 601024; omega), (by show _ ≤ 7293034; omega)⟩ rfl ?_
  refine ro_istore (i := 6) (q := 1167) hX dL_law_1165 (Nat.le_of_ble_eq_true rfl) rfl ?_
  refine ro_aload_n (i := 2) (q := 1168) hX dL_law_1167 rfl rfl rfl ?_
  refine ro_callVi (q9 := 1171) hX e3 mw_X3_thrown kl_L_113 (by decide) (fun cy => cell3 (by decide +kernel)) rfl rfl rfl (Nat.le_of_ble_eq_true rfl) ⟨Nat.le_of_ble_eq_true rfl, Nat.le_of_ble_eq_true rfl⟩ dL_law_1168 ⟨(by show _ ≤ 601024; omega), (by show _ ≤ 7293034; omega)⟩ rfl ?_
  refine ro_iload (i := 5) (q := 1173) hX dL_law_1171 rfl rfl ?_
  refine ro_icmp_eq (tgt := 1178) (q := 1176) hX dL_law_1173 (by decide) rfl (fun _ => ?_) (fun q => absurd rfl q)
  refine ro_iload (i := 5) (q := 1180) hX dL_law_1178 rfl rfl ?_
  refine ro_if_ne (tgt := 1195) (q := 1183) hX dL_law_1180 (by decide) rfl (fun _ => ?_) (fun hz => ?_)
  · skip
    refine ro_goto (tgt := 1911) hX dL_law_1195 (by decide) ?_
    refine ro_drop (L' := [(0, .ref b), (1, .ref (sz + 0)), (2, .ref (sz + 75)), (3, .ref (sz + 79)), (4, .int (nI (3 * k)))]) [5, 6] hX rfl ?_
    exact law_next h (hP _ _ _ e5 (by omega) (by omega))
  · skip
    refine ro_aload_n (i := 3) (q := 1184) hX dL_law_1183 rfl rfl rfl ?_
    refine ro_iconst (v := nI 0) (q := 1185) hX dL_law_1184 rfl rfl ?_
    refine ro_lald (q9 := 1186) hX dL_law_1185 rfl ?_
    refine ro_iload (i := 6) (q := 1188) hX dL_law_1186 rfl rfl ?_
    rw [e4 hz]
    refine ro_i2l (v := v.toInt64) (q := 1189) hX dL_law_1188 rfl rfl ?_
    refine ro_lcmp (q := 1190) hX dL_law_1189 rfl ?_
    refine ro_if_eq (tgt := 1195) (q := 1193) hX dL_law_1190 (by decide) rfl (fun _ => ?_) (fun q => absurd (lg_cmp_0 _) q)
    refine ro_goto (tgt := 1911) hX dL_law_1195 (by decide) ?_
    refine ro_drop (L' := [(0, .ref b), (1, .ref (sz + 0)), (2, .ref (sz + 75)), (3, .ref (sz + 79)), (4, .int (nI (3 * k)))]) [5, 6] hX rfl ?_
    exact law_next h (hP _ _ _ e5 (by omega) (by omega))
set_option maxRecDepth 20000 in
theorem law_op_19 (h : CtxL VV sz b LL xs) (hL : LL ≤ 1536) {k : Nat} (hk : 3 * k + 3 ≤ LL) {c9 s9 : Nat} (hc9 : c9 ≤ 90 + k) (hs9 : s9 ≤ 4000 + 6 * k) (hI : Inv k M) (ho : ∀ x : Int32, OpX sz Inv I_L_copies hh_L_copies I_X3_copies [.int x]) (hP : ∀ M' c' s', Inv (k + 1) M' → c' ≤ 90 + (k + 1) → s' ≤ 4000 + 6 * (k + 1) → VV c' s' 23 [(0, .ref b), (1, .ref (sz + 0)), (2, .ref (sz + 75)), (3, .ref (sz + 79)), (4, .int (nI (3 * (k + 1))))] [] M') : VV c9 s9 1198 [(0, .ref b), (1, .ref (sz + 0)), (2, .ref (sz + 75)), (3, .ref (sz + 79)), (4, .int (nI (3 * k)))] [] M := by
  obtain ⟨cd, v, M1, M2, M3, e1, e2, e3, e4, e5⟩ := ho (xs (3 * k + 1)) k M (by omega) hI
  have hX := h.c
  refine ro_aload_n (i := 1) (q := 1199) hX dL_law_1198 rfl rfl rfl ?_
  refine ro_aload_n (i := 0) (q := 1200) hX dL_law_1199 rfl rfl rfl ?_
  refine ro_iload (i := 4) (q := 1202) hX dL_law_1200 rfl rfl ?_
  refine ro_iconst (v := nI 1) (q := 1203) hX dL_law_1202 rfl rfl ?_
  refine ro_iadd (q := 1204) hX dL_law_1203 rfl ?_
  refine vv_top (y := nI (3 * k + 1)) (nI_add' rfl rfl) ?_
  refine ro_sld (n := 3 * k + 1) (q9 := 1205) h rfl (by omega) hL dL_law_1204 rfl ?_
  refine ro_aload_n (i := 3) (q := 1206) hX dL_law_1205 rfl rfl rfl ?_
  refine ro_callSH (q9 := 1209) hX e1 mh_L_copies kl_L_174 rfl rfl (Nat.le_of_ble_eq_true rfl) ⟨Nat.le_of_ble_eq_true rfl, Nat.le_of_ble_eq_true rfl⟩ dL_law_1206 ⟨(by show c9 + 1 ≤ 601024; omega), (by show s9 + 6 ≤ 7293034; omega)⟩ rfl ?_
  refine ro_istore (i := 5) (q := 1211) hX dL_law_1209 (Nat.le_of_ble_eq_true rfl) rfl ?_
  refine ro_aload_n (i := 2) (q := 1212) hX dL_law_1211 rfl rfl rfl ?_
  refine ro_aload_n (i := 0) (q := 1213) hX dL_law_1212 rfl rfl rfl ?_
  refine ro_iload (i := 4) (q := 1215) hX dL_law_1213 rfl rfl ?_
  refine ro_iconst (v := nI 1) (q := 1216) hX dL_law_1215 rfl rfl ?_
  refine ro_iadd (q := 1217) hX dL_law_1216 rfl ?_
  refine vv_top (y := nI (3 * k + 1)) (nI_add' rfl rfl) ?_
  refine ro_sld (n := 3 * k + 1) (q9 := 1218) h rfl (by omega) hL dL_law_1217 rfl ?_
  refine ro_callVi (q9 := 1221) hX e2 mw_X3_copies kl_L_176 (by decide) (fun cy => cell3 (by decide +kernel)) rfl rfl rfl (Nat.le_of_ble_eq_true rfl) ⟨Nat.le_of_ble_eq_true rfl, Nat.le_of_ble_eq_true rfl⟩ dL_law_1218 ⟨(by show _ ≤ 601024; omega), (by show _ ≤ 7293034; omega)⟩ rfl ?_
  refine ro_istore (i := 6) (q := 1223) hX dL_law_1221 (Nat.le_of_ble_eq_true rfl) rfl ?_
  refine ro_aload_n (i := 2) (q := 1224) hX dL_law_1223 rfl rfl rfl ?_
  refine ro_callVi (q9 := 1227) hX e3 mw_X3_thrown kl_L_113 (by decide) (fun cy => cell3 (by decide +kernel)) rfl rfl rfl (Nat.le_of_ble_eq_true rfl) ⟨Nat.le_of_ble_eq_true rfl, Nat.le_of_ble_eq_true rfl⟩ dL_law_1224 ⟨(by show _ ≤ 601024; omega), (by show _ ≤ 7293034; omega)⟩ rfl ?_
  refine ro_iload (i := 5) (q := 1229) hX dL_law_1227 rfl rfl ?_
  refine ro_icmp_eq (tgt := 1234) (q := 1232) hX dL_law_1229 (by decide) rfl (fun _ => ?_) (fun q => absurd rfl q)
  refine ro_iload (i := 5) (q := 1236) hX dL_law_1234 rfl rfl ?_
  refine ro_if_ne (tgt := 1251) (q := 1239) hX dL_law_1236 (by decide) rfl (fun _ => ?_) (fun hz => ?_)
  · skip
    refine ro_goto (tgt := 1911) hX dL_law_1251 (by decide) ?_
    refine ro_drop (L' := [(0, .ref b), (1, .ref (sz + 0)), (2, .ref (sz + 75)), (3, .ref (sz + 79)), (4, .int (nI (3 * k)))]) [5, 6] hX rfl ?_
    exact law_next h (hP _ _ _ e5 (by omega) (by omega))
  · skip
    refine ro_aload_n (i := 3) (q := 1240) hX dL_law_1239 rfl rfl rfl ?_
    refine ro_iconst (v := nI 0) (q := 1241) hX dL_law_1240 rfl rfl ?_
    refine ro_lald (q9 := 1242) hX dL_law_1241 rfl ?_
    refine ro_iload (i := 6) (q := 1244) hX dL_law_1242 rfl rfl ?_
    rw [e4 hz]
    refine ro_i2l (v := v.toInt64) (q := 1245) hX dL_law_1244 rfl rfl ?_
    refine ro_lcmp (q := 1246) hX dL_law_1245 rfl ?_
    refine ro_if_eq (tgt := 1251) (q := 1249) hX dL_law_1246 (by decide) rfl (fun _ => ?_) (fun q => absurd (lg_cmp_0 _) q)
    refine ro_goto (tgt := 1911) hX dL_law_1251 (by decide) ?_
    refine ro_drop (L' := [(0, .ref b), (1, .ref (sz + 0)), (2, .ref (sz + 75)), (3, .ref (sz + 79)), (4, .int (nI (3 * k)))]) [5, 6] hX rfl ?_
    exact law_next h (hP _ _ _ e5 (by omega) (by omega))
set_option maxRecDepth 20000 in
theorem law_op_20 (h : CtxL VV sz b LL xs) (hL : LL ≤ 1536) {k : Nat} (hk : 3 * k + 3 ≤ LL) {c9 s9 : Nat} (hc9 : c9 ≤ 90 + k) (hs9 : s9 ≤ 4000 + 6 * k) (hI : Inv k M) (ho : ∀ x : Int32, OpX sz Inv I_L_countStatus hh_L_countStatus I_X3_countStatus [.int x]) (hP : ∀ M' c' s', Inv (k + 1) M' → c' ≤ 90 + (k + 1) → s' ≤ 4000 + 6 * (k + 1) → VV c' s' 23 [(0, .ref b), (1, .ref (sz + 0)), (2, .ref (sz + 75)), (3, .ref (sz + 79)), (4, .int (nI (3 * (k + 1))))] [] M') : VV c9 s9 1254 [(0, .ref b), (1, .ref (sz + 0)), (2, .ref (sz + 75)), (3, .ref (sz + 79)), (4, .int (nI (3 * k)))] [] M := by
  obtain ⟨cd, v, M1, M2, M3, e1, e2, e3, e4, e5⟩ := ho (xs (3 * k + 1)) k M (by omega) hI
  have hX := h.c
  refine ro_aload_n (i := 1) (q := 1255) hX dL_law_1254 rfl rfl rfl ?_
  refine ro_aload_n (i := 0) (q := 1256) hX dL_law_1255 rfl rfl rfl ?_
  refine ro_iload (i := 4) (q := 1258) hX dL_law_1256 rfl rfl ?_
  refine ro_iconst (v := nI 1) (q := 1259) hX dL_law_1258 rfl rfl ?_
  refine ro_iadd (q := 1260) hX dL_law_1259 rfl ?_
  refine vv_top (y := nI (3 * k + 1)) (nI_add' rfl rfl) ?_
  refine ro_sld (n := 3 * k + 1) (q9 := 1261) h rfl (by omega) hL dL_law_1260 rfl ?_
  refine ro_aload_n (i := 3) (q := 1262) hX dL_law_1261 rfl rfl rfl ?_
  refine ro_callSH (q9 := 1265) hX e1 mh_L_countStatus kl_L_177 rfl rfl (Nat.le_of_ble_eq_true rfl) ⟨Nat.le_of_ble_eq_true rfl, Nat.le_of_ble_eq_true rfl⟩ dL_law_1262 ⟨(by show c9 + 1 ≤ 601024; omega), (by show s9 + 6 ≤ 7293034; omega)⟩ rfl ?_
  refine ro_istore (i := 5) (q := 1267) hX dL_law_1265 (Nat.le_of_ble_eq_true rfl) rfl ?_
  refine ro_aload_n (i := 2) (q := 1268) hX dL_law_1267 rfl rfl rfl ?_
  refine ro_aload_n (i := 0) (q := 1269) hX dL_law_1268 rfl rfl rfl ?_
  refine ro_iload (i := 4) (q := 1271) hX dL_law_1269 rfl rfl ?_
  refine ro_iconst (v := nI 1) (q := 1272) hX dL_law_1271 rfl rfl ?_
  refine ro_iadd (q := 1273) hX dL_law_1272 rfl ?_
  refine vv_top (y := nI (3 * k + 1)) (nI_add' rfl rfl) ?_
  refine ro_sld (n := 3 * k + 1) (q9 := 1274) h rfl (by omega) hL dL_law_1273 rfl ?_
  refine ro_callVi (q9 := 1277) hX e2 mw_X3_countStatus kl_L_179 (by decide) (fun cy => cell3 (by decide +kernel)) rfl rfl rfl (Nat.le_of_ble_eq_true rfl) ⟨Nat.le_of_ble_eq_true rfl, Nat.le_of_ble_eq_true rfl⟩ dL_law_1274 ⟨(by show _ ≤ 601024; omega), (by show _ ≤ 7293034; omega)⟩ rfl ?_
  refine ro_istore (i := 6) (q := 1279) hX dL_law_1277 (Nat.le_of_ble_eq_true rfl) rfl ?_
  refine ro_aload_n (i := 2) (q := 1280) hX dL_law_1279 rfl rfl rfl ?_
  refine ro_callVi (q9 := 1283) hX e3 mw_X3_thrown kl_L_113 (by decide) (fun cy => cell3 (by decide +kernel)) rfl rfl rfl (Nat.le_of_ble_eq_true rfl) ⟨Nat.le_of_ble_eq_true rfl, Nat.le_of_ble_eq_true rfl⟩ dL_law_1280 ⟨(by show _ ≤ 601024; omega), (by show _ ≤ 7293034; omega)⟩ rfl ?_
  refine ro_iload (i := 5) (q := 1285) hX dL_law_1283 rfl rfl ?_
  refine ro_icmp_eq (tgt := 1290) (q := 1288) hX dL_law_1285 (by decide) rfl (fun _ => ?_) (fun q => absurd rfl q)
  refine ro_iload (i := 5) (q := 1292) hX dL_law_1290 rfl rfl ?_
  refine ro_if_ne (tgt := 1307) (q := 1295) hX dL_law_1292 (by decide) rfl (fun _ => ?_) (fun hz => ?_)
  · skip
    refine ro_goto (tgt := 1911) hX dL_law_1307 (by decide) ?_
    refine ro_drop (L' := [(0, .ref b), (1, .ref (sz + 0)), (2, .ref (sz + 75)), (3, .ref (sz + 79)), (4, .int (nI (3 * k)))]) [5, 6] hX rfl ?_
    exact law_next h (hP _ _ _ e5 (by omega) (by omega))
  · skip
    refine ro_aload_n (i := 3) (q := 1296) hX dL_law_1295 rfl rfl rfl ?_
    refine ro_iconst (v := nI 0) (q := 1297) hX dL_law_1296 rfl rfl ?_
    refine ro_lald (q9 := 1298) hX dL_law_1297 rfl ?_
    refine ro_iload (i := 6) (q := 1300) hX dL_law_1298 rfl rfl ?_
    rw [e4 hz]
    refine ro_i2l (v := v.toInt64) (q := 1301) hX dL_law_1300 rfl rfl ?_
    refine ro_lcmp (q := 1302) hX dL_law_1301 rfl ?_
    refine ro_if_eq (tgt := 1307) (q := 1305) hX dL_law_1302 (by decide) rfl (fun _ => ?_) (fun q => absurd (lg_cmp_0 _) q)
    refine ro_goto (tgt := 1911) hX dL_law_1307 (by decide) ?_
    refine ro_drop (L' := [(0, .ref b), (1, .ref (sz + 0)), (2, .ref (sz + 75)), (3, .ref (sz + 79)), (4, .int (nI (3 * k)))]) [5, 6] hX rfl ?_
    exact law_next h (hP _ _ _ e5 (by omega) (by omega))
set_option maxRecDepth 20000 in
theorem law_op_21 (h : CtxL VV sz b LL xs) (hL : LL ≤ 1536) {k : Nat} (hk : 3 * k + 3 ≤ LL) {c9 s9 : Nat} (hc9 : c9 ≤ 90 + k) (hs9 : s9 ≤ 4000 + 6 * k) (hI : Inv k M) (ho : ∀ x : Int32, OpX sz Inv I_L_mode hh_L_mode I_X3_mode [.int x]) (hP : ∀ M' c' s', Inv (k + 1) M' → c' ≤ 90 + (k + 1) → s' ≤ 4000 + 6 * (k + 1) → VV c' s' 23 [(0, .ref b), (1, .ref (sz + 0)), (2, .ref (sz + 75)), (3, .ref (sz + 79)), (4, .int (nI (3 * (k + 1))))] [] M') : VV c9 s9 1310 [(0, .ref b), (1, .ref (sz + 0)), (2, .ref (sz + 75)), (3, .ref (sz + 79)), (4, .int (nI (3 * k)))] [] M := by
  obtain ⟨cd, v, M1, M2, M3, e1, e2, e3, e4, e5⟩ := ho (xs (3 * k + 1)) k M (by omega) hI
  have hX := h.c
  refine ro_aload_n (i := 1) (q := 1311) hX dL_law_1310 rfl rfl rfl ?_
  refine ro_aload_n (i := 0) (q := 1312) hX dL_law_1311 rfl rfl rfl ?_
  refine ro_iload (i := 4) (q := 1314) hX dL_law_1312 rfl rfl ?_
  refine ro_iconst (v := nI 1) (q := 1315) hX dL_law_1314 rfl rfl ?_
  refine ro_iadd (q := 1316) hX dL_law_1315 rfl ?_
  refine vv_top (y := nI (3 * k + 1)) (nI_add' rfl rfl) ?_
  refine ro_sld (n := 3 * k + 1) (q9 := 1317) h rfl (by omega) hL dL_law_1316 rfl ?_
  refine ro_aload_n (i := 3) (q := 1318) hX dL_law_1317 rfl rfl rfl ?_
  refine ro_callSH (q9 := 1321) hX e1 mh_L_mode kl_L_180 rfl rfl (Nat.le_of_ble_eq_true rfl) ⟨Nat.le_of_ble_eq_true rfl, Nat.le_of_ble_eq_true rfl⟩ dL_law_1318 ⟨(by show c9 + 1 ≤ 601024; omega), (by show s9 + 6 ≤ 7293034; omega)⟩ rfl ?_
  refine ro_istore (i := 5) (q := 1323) hX dL_law_1321 (Nat.le_of_ble_eq_true rfl) rfl ?_
  refine ro_aload_n (i := 2) (q := 1324) hX dL_law_1323 rfl rfl rfl ?_
  refine ro_aload_n (i := 0) (q := 1325) hX dL_law_1324 rfl rfl rfl ?_
  refine ro_iload (i := 4) (q := 1327) hX dL_law_1325 rfl rfl ?_
  refine ro_iconst (v := nI 1) (q := 1328) hX dL_law_1327 rfl rfl ?_
  refine ro_iadd (q := 1329) hX dL_law_1328 rfl ?_
  refine vv_top (y := nI (3 * k + 1)) (nI_add' rfl rfl) ?_
  refine ro_sld (n := 3 * k + 1) (q9 := 1330) h rfl (by omega) hL dL_law_1329 rfl ?_
  refine ro_callVi (q9 := 1333) hX e2 mw_X3_mode kl_L_182 (by decide) (fun cy => cell3 (by decide +kernel)) rfl rfl rfl (Nat.le_of_ble_eq_true rfl) ⟨Nat.le_of_ble_eq_true rfl, Nat.le_of_ble_eq_true rfl⟩ dL_law_1330 ⟨(by show _ ≤ 601024; omega), (by show _ ≤ 7293034; omega)⟩ rfl ?_
  refine ro_istore (i := 6) (q := 1335) hX dL_law_1333 (Nat.le_of_ble_eq_true rfl) rfl ?_
  refine ro_aload_n (i := 2) (q := 1336) hX dL_law_1335 rfl rfl rfl ?_
  refine ro_callVi (q9 := 1339) hX e3 mw_X3_thrown kl_L_113 (by decide) (fun cy => cell3 (by decide +kernel)) rfl rfl rfl (Nat.le_of_ble_eq_true rfl) ⟨Nat.le_of_ble_eq_true rfl, Nat.le_of_ble_eq_true rfl⟩ dL_law_1336 ⟨(by show _ ≤ 601024; omega), (by show _ ≤ 7293034; omega)⟩ rfl ?_
  refine ro_iload (i := 5) (q := 1341) hX dL_law_1339 rfl rfl ?_
  refine ro_icmp_eq (tgt := 1346) (q := 1344) hX dL_law_1341 (by decide) rfl (fun _ => ?_) (fun q => absurd rfl q)
  refine ro_iload (i := 5) (q := 1348) hX dL_law_1346 rfl rfl ?_
  refine ro_if_ne (tgt := 1363) (q := 1351) hX dL_law_1348 (by decide) rfl (fun _ => ?_) (fun hz => ?_)
  · skip
    refine ro_goto (tgt := 1911) hX dL_law_1363 (by decide) ?_
    refine ro_drop (L' := [(0, .ref b), (1, .ref (sz + 0)), (2, .ref (sz + 75)), (3, .ref (sz + 79)), (4, .int (nI (3 * k)))]) [5, 6] hX rfl ?_
    exact law_next h (hP _ _ _ e5 (by omega) (by omega))
  · skip
    refine ro_aload_n (i := 3) (q := 1352) hX dL_law_1351 rfl rfl rfl ?_
    refine ro_iconst (v := nI 0) (q := 1353) hX dL_law_1352 rfl rfl ?_
    refine ro_lald (q9 := 1354) hX dL_law_1353 rfl ?_
    refine ro_iload (i := 6) (q := 1356) hX dL_law_1354 rfl rfl ?_
    rw [e4 hz]
    refine ro_i2l (v := v.toInt64) (q := 1357) hX dL_law_1356 rfl rfl ?_
    refine ro_lcmp (q := 1358) hX dL_law_1357 rfl ?_
    refine ro_if_eq (tgt := 1363) (q := 1361) hX dL_law_1358 (by decide) rfl (fun _ => ?_) (fun q => absurd (lg_cmp_0 _) q)
    refine ro_goto (tgt := 1911) hX dL_law_1363 (by decide) ?_
    refine ro_drop (L' := [(0, .ref b), (1, .ref (sz + 0)), (2, .ref (sz + 75)), (3, .ref (sz + 79)), (4, .int (nI (3 * k)))]) [5, 6] hX rfl ?_
    exact law_next h (hP _ _ _ e5 (by omega) (by omega))
set_option maxRecDepth 20000 in
theorem law_op_22 (h : CtxL VV sz b LL xs) (hL : LL ≤ 1536) {k : Nat} (hk : 3 * k + 3 ≤ LL) {c9 s9 : Nat} (hc9 : c9 ≤ 90 + k) (hs9 : s9 ≤ 4000 + 6 * k) (hI : Inv k M) (ho : ∀ x : Int32, OpZ sz Inv I_L_isConnected hh_L_isConnected I_X3_isConnected [.int x]) (hP : ∀ M' c' s', Inv (k + 1) M' → c' ≤ 90 + (k + 1) → s' ≤ 4000 + 6 * (k + 1) → VV c' s' 23 [(0, .ref b), (1, .ref (sz + 0)), (2, .ref (sz + 75)), (3, .ref (sz + 79)), (4, .int (nI (3 * (k + 1))))] [] M') : VV c9 s9 1366 [(0, .ref b), (1, .ref (sz + 0)), (2, .ref (sz + 75)), (3, .ref (sz + 79)), (4, .int (nI (3 * k)))] [] M := by
  obtain ⟨cd, v, M1, M2, M3, e1, e2, e3, e4, e5⟩ := ho (xs (3 * k + 1)) k M (by omega) hI
  have hX := h.c
  refine ro_aload_n (i := 1) (q := 1367) hX dL_law_1366 rfl rfl rfl ?_
  refine ro_aload_n (i := 0) (q := 1368) hX dL_law_1367 rfl rfl rfl ?_
  refine ro_iload (i := 4) (q := 1370) hX dL_law_1368 rfl rfl ?_
  refine ro_iconst (v := nI 1) (q := 1371) hX dL_law_1370 rfl rfl ?_
  refine ro_iadd (q := 1372) hX dL_law_1371 rfl ?_
  refine vv_top (y := nI (3 * k + 1)) (nI_add' rfl rfl) ?_
  refine ro_sld (n := 3 * k + 1) (q9 := 1373) h rfl (by omega) hL dL_law_1372 rfl ?_
  refine ro_aload_n (i := 3) (q := 1374) hX dL_law_1373 rfl rfl rfl ?_
  refine ro_callSH (q9 := 1377) hX e1 mh_L_isConnected kl_L_183 rfl rfl (Nat.le_of_ble_eq_true rfl) ⟨Nat.le_of_ble_eq_true rfl, Nat.le_of_ble_eq_true rfl⟩ dL_law_1374 ⟨(by show c9 + 1 ≤ 601024; omega), (by show s9 + 6 ≤ 7293034; omega)⟩ rfl ?_
  refine ro_istore (i := 5) (q := 1379) hX dL_law_1377 (Nat.le_of_ble_eq_true rfl) rfl ?_
  refine ro_aload_n (i := 2) (q := 1380) hX dL_law_1379 rfl rfl rfl ?_
  refine ro_aload_n (i := 0) (q := 1381) hX dL_law_1380 rfl rfl rfl ?_
  refine ro_iload (i := 4) (q := 1383) hX dL_law_1381 rfl rfl ?_
  refine ro_iconst (v := nI 1) (q := 1384) hX dL_law_1383 rfl rfl ?_
  refine ro_iadd (q := 1385) hX dL_law_1384 rfl ?_
  refine vv_top (y := nI (3 * k + 1)) (nI_add' rfl rfl) ?_
  refine ro_sld (n := 3 * k + 1) (q9 := 1386) h rfl (by omega) hL dL_law_1385 rfl ?_
  refine ro_callVi (q9 := 1389) hX e2 mw_X3_isConnected kl_L_185 (by decide) (fun cy => cell3 (by decide +kernel)) rfl rfl rfl (Nat.le_of_ble_eq_true rfl) ⟨Nat.le_of_ble_eq_true rfl, Nat.le_of_ble_eq_true rfl⟩ dL_law_1386 ⟨(by show _ ≤ 601024; omega), (by show _ ≤ 7293034; omega)⟩ rfl ?_
  refine ro_istore (i := 6) (q := 1391) hX dL_law_1389 (Nat.le_of_ble_eq_true rfl) rfl ?_
  refine ro_aload_n (i := 2) (q := 1392) hX dL_law_1391 rfl rfl rfl ?_
  refine ro_callVi (q9 := 1395) hX e3 mw_X3_thrown kl_L_113 (by decide) (fun cy => cell3 (by decide +kernel)) rfl rfl rfl (Nat.le_of_ble_eq_true rfl) ⟨Nat.le_of_ble_eq_true rfl, Nat.le_of_ble_eq_true rfl⟩ dL_law_1392 ⟨(by show _ ≤ 601024; omega), (by show _ ≤ 7293034; omega)⟩ rfl ?_
  refine ro_iload (i := 5) (q := 1397) hX dL_law_1395 rfl rfl ?_
  refine ro_icmp_eq (tgt := 1402) (q := 1400) hX dL_law_1397 (by decide) rfl (fun _ => ?_) (fun q => absurd rfl q)
  refine ro_iload (i := 5) (q := 1404) hX dL_law_1402 rfl rfl ?_
  refine ro_if_ne (tgt := 1426) (q := 1407) hX dL_law_1404 (by decide) rfl (fun _ => ?_) (fun hz => ?_)
  · skip
    refine ro_goto (tgt := 1911) hX dL_law_1426 (by decide) ?_
    refine ro_drop (L' := [(0, .ref b), (1, .ref (sz + 0)), (2, .ref (sz + 75)), (3, .ref (sz + 79)), (4, .int (nI (3 * k)))]) [5, 6] hX rfl ?_
    exact law_next h (hP _ _ _ e5 (by omega) (by omega))
  · skip
    refine ro_aload_n (i := 3) (q := 1408) hX dL_law_1407 rfl rfl rfl ?_
    refine ro_iconst (v := nI 0) (q := 1409) hX dL_law_1408 rfl rfl ?_
    refine ro_lald (q9 := 1410) hX dL_law_1409 rfl ?_
    refine ro_iload (i := 6) (q := 1412) hX dL_law_1410 rfl rfl ?_
    rw [e4 hz]
    refine ro_if_eq (tgt := 1419) (q := 1415) hX dL_law_1412 (by decide) rfl (fun hv => ?_) (fun hv => ?_)
    · rw [if_pos hv]
      refine ro_lconst (v := 0) (q := 1420) hX dL_law_1419 rfl rfl ?_
      refine ro_lcmp (q := 1421) hX dL_law_1420 rfl ?_
      refine ro_if_eq (tgt := 1426) (q := 1424) hX dL_law_1421 (by decide) rfl (fun _ => ?_) (fun q => absurd (lg_cmp_0 _) q)
      refine ro_goto (tgt := 1911) hX dL_law_1426 (by decide) ?_
      refine ro_drop (L' := [(0, .ref b), (1, .ref (sz + 0)), (2, .ref (sz + 75)), (3, .ref (sz + 79)), (4, .int (nI (3 * k)))]) [5, 6] hX rfl ?_
      exact law_next h (hP _ _ _ e5 (by omega) (by omega))
    · rw [if_neg hv]
      refine ro_lconst (v := 1) (q := 1416) hX dL_law_1415 rfl rfl ?_
      refine ro_goto (tgt := 1420) hX dL_law_1416 (by decide) ?_
      refine ro_lcmp (q := 1421) hX dL_law_1420 rfl ?_
      refine ro_if_eq (tgt := 1426) (q := 1424) hX dL_law_1421 (by decide) rfl (fun _ => ?_) (fun q => absurd (lg_cmp_0 _) q)
      refine ro_goto (tgt := 1911) hX dL_law_1426 (by decide) ?_
      refine ro_drop (L' := [(0, .ref b), (1, .ref (sz + 0)), (2, .ref (sz + 75)), (3, .ref (sz + 79)), (4, .int (nI (3 * k)))]) [5, 6] hX rfl ?_
      exact law_next h (hP _ _ _ e5 (by omega) (by omega))
set_option maxRecDepth 20000 in
theorem law_op_23 (h : CtxL VV sz b LL xs) (hL : LL ≤ 1536) {k : Nat} (hk : 3 * k + 3 ≤ LL) {c9 s9 : Nat} (hc9 : c9 ≤ 90 + k) (hs9 : s9 ≤ 4000 + 6 * k) (hI : Inv k M) (ho : ∀ x : Int32, OpX sz Inv I_L_usedRoom hh_L_usedRoom I_X3_usedRoom [.int x]) (hP : ∀ M' c' s', Inv (k + 1) M' → c' ≤ 90 + (k + 1) → s' ≤ 4000 + 6 * (k + 1) → VV c' s' 23 [(0, .ref b), (1, .ref (sz + 0)), (2, .ref (sz + 75)), (3, .ref (sz + 79)), (4, .int (nI (3 * (k + 1))))] [] M') : VV c9 s9 1429 [(0, .ref b), (1, .ref (sz + 0)), (2, .ref (sz + 75)), (3, .ref (sz + 79)), (4, .int (nI (3 * k)))] [] M := by
  obtain ⟨cd, v, M1, M2, M3, e1, e2, e3, e4, e5⟩ := ho (xs (3 * k + 1)) k M (by omega) hI
  have hX := h.c
  refine ro_aload_n (i := 1) (q := 1430) hX dL_law_1429 rfl rfl rfl ?_
  refine ro_aload_n (i := 0) (q := 1431) hX dL_law_1430 rfl rfl rfl ?_
  refine ro_iload (i := 4) (q := 1433) hX dL_law_1431 rfl rfl ?_
  refine ro_iconst (v := nI 1) (q := 1434) hX dL_law_1433 rfl rfl ?_
  refine ro_iadd (q := 1435) hX dL_law_1434 rfl ?_
  refine vv_top (y := nI (3 * k + 1)) (nI_add' rfl rfl) ?_
  refine ro_sld (n := 3 * k + 1) (q9 := 1436) h rfl (by omega) hL dL_law_1435 rfl ?_
  refine ro_aload_n (i := 3) (q := 1437) hX dL_law_1436 rfl rfl rfl ?_
  refine ro_callSH (q9 := 1440) hX e1 mh_L_usedRoom kl_L_186 rfl rfl (Nat.le_of_ble_eq_true rfl) ⟨Nat.le_of_ble_eq_true rfl, Nat.le_of_ble_eq_true rfl⟩ dL_law_1437 ⟨(by show c9 + 1 ≤ 601024; omega), (by show s9 + 6 ≤ 7293034; omega)⟩ rfl ?_
  refine ro_istore (i := 5) (q := 1442) hX dL_law_1440 (Nat.le_of_ble_eq_true rfl) rfl ?_
  refine ro_aload_n (i := 2) (q := 1443) hX dL_law_1442 rfl rfl rfl ?_
  refine ro_aload_n (i := 0) (q := 1444) hX dL_law_1443 rfl rfl rfl ?_
  refine ro_iload (i := 4) (q := 1446) hX dL_law_1444 rfl rfl ?_
  refine ro_iconst (v := nI 1) (q := 1447) hX dL_law_1446 rfl rfl ?_
  refine ro_iadd (q := 1448) hX dL_law_1447 rfl ?_
  refine vv_top (y := nI (3 * k + 1)) (nI_add' rfl rfl) ?_
  refine ro_sld (n := 3 * k + 1) (q9 := 1449) h rfl (by omega) hL dL_law_1448 rfl ?_
  refine ro_callVi (q9 := 1452) hX e2 mw_X3_usedRoom kl_L_188 (by decide) (fun cy => cell3 (by decide +kernel)) rfl rfl rfl (Nat.le_of_ble_eq_true rfl) ⟨Nat.le_of_ble_eq_true rfl, Nat.le_of_ble_eq_true rfl⟩ dL_law_1449 ⟨(by show _ ≤ 601024; omega), (by show _ ≤ 7293034; omega)⟩ rfl ?_
  refine ro_istore (i := 6) (q := 1454) hX dL_law_1452 (Nat.le_of_ble_eq_true rfl) rfl ?_
  refine ro_aload_n (i := 2) (q := 1455) hX dL_law_1454 rfl rfl rfl ?_
  refine ro_callVi (q9 := 1458) hX e3 mw_X3_thrown kl_L_113 (by decide) (fun cy => cell3 (by decide +kernel)) rfl rfl rfl (Nat.le_of_ble_eq_true rfl) ⟨Nat.le_of_ble_eq_true rfl, Nat.le_of_ble_eq_true rfl⟩ dL_law_1455 ⟨(by show _ ≤ 601024; omega), (by show _ ≤ 7293034; omega)⟩ rfl ?_
  refine ro_iload (i := 5) (q := 1460) hX dL_law_1458 rfl rfl ?_
  refine ro_icmp_eq (tgt := 1465) (q := 1463) hX dL_law_1460 (by decide) rfl (fun _ => ?_) (fun q => absurd rfl q)
  refine ro_iload (i := 5) (q := 1467) hX dL_law_1465 rfl rfl ?_
  refine ro_if_ne (tgt := 1482) (q := 1470) hX dL_law_1467 (by decide) rfl (fun _ => ?_) (fun hz => ?_)
  · skip
    refine ro_goto (tgt := 1911) hX dL_law_1482 (by decide) ?_
    refine ro_drop (L' := [(0, .ref b), (1, .ref (sz + 0)), (2, .ref (sz + 75)), (3, .ref (sz + 79)), (4, .int (nI (3 * k)))]) [5, 6] hX rfl ?_
    exact law_next h (hP _ _ _ e5 (by omega) (by omega))
  · skip
    refine ro_aload_n (i := 3) (q := 1471) hX dL_law_1470 rfl rfl rfl ?_
    refine ro_iconst (v := nI 0) (q := 1472) hX dL_law_1471 rfl rfl ?_
    refine ro_lald (q9 := 1473) hX dL_law_1472 rfl ?_
    refine ro_iload (i := 6) (q := 1475) hX dL_law_1473 rfl rfl ?_
    rw [e4 hz]
    refine ro_i2l (v := v.toInt64) (q := 1476) hX dL_law_1475 rfl rfl ?_
    refine ro_lcmp (q := 1477) hX dL_law_1476 rfl ?_
    refine ro_if_eq (tgt := 1482) (q := 1480) hX dL_law_1477 (by decide) rfl (fun _ => ?_) (fun q => absurd (lg_cmp_0 _) q)
    refine ro_goto (tgt := 1911) hX dL_law_1482 (by decide) ?_
    refine ro_drop (L' := [(0, .ref b), (1, .ref (sz + 0)), (2, .ref (sz + 75)), (3, .ref (sz + 79)), (4, .int (nI (3 * k)))]) [5, 6] hX rfl ?_
    exact law_next h (hP _ _ _ e5 (by omega) (by omega))
set_option maxRecDepth 20000 in
theorem law_op_24 (h : CtxL VV sz b LL xs) (hL : LL ≤ 1536) {k : Nat} (hk : 3 * k + 3 ≤ LL) {c9 s9 : Nat} (hc9 : c9 ≤ 90 + k) (hs9 : s9 ≤ 4000 + 6 * k) (hI : Inv k M) (ho : ∀ x : Int32, OpX sz Inv I_L_freeRoom hh_L_freeRoom I_X3_freeRoom [.int x]) (hP : ∀ M' c' s', Inv (k + 1) M' → c' ≤ 90 + (k + 1) → s' ≤ 4000 + 6 * (k + 1) → VV c' s' 23 [(0, .ref b), (1, .ref (sz + 0)), (2, .ref (sz + 75)), (3, .ref (sz + 79)), (4, .int (nI (3 * (k + 1))))] [] M') : VV c9 s9 1485 [(0, .ref b), (1, .ref (sz + 0)), (2, .ref (sz + 75)), (3, .ref (sz + 79)), (4, .int (nI (3 * k)))] [] M := by
  obtain ⟨cd, v, M1, M2, M3, e1, e2, e3, e4, e5⟩ := ho (xs (3 * k + 1)) k M (by omega) hI
  have hX := h.c
  refine ro_aload_n (i := 1) (q := 1486) hX dL_law_1485 rfl rfl rfl ?_
  refine ro_aload_n (i := 0) (q := 1487) hX dL_law_1486 rfl rfl rfl ?_
  refine ro_iload (i := 4) (q := 1489) hX dL_law_1487 rfl rfl ?_
  refine ro_iconst (v := nI 1) (q := 1490) hX dL_law_1489 rfl rfl ?_
  refine ro_iadd (q := 1491) hX dL_law_1490 rfl ?_
  refine vv_top (y := nI (3 * k + 1)) (nI_add' rfl rfl) ?_
  refine ro_sld (n := 3 * k + 1) (q9 := 1492) h rfl (by omega) hL dL_law_1491 rfl ?_
  refine ro_aload_n (i := 3) (q := 1493) hX dL_law_1492 rfl rfl rfl ?_
  refine ro_callSH (q9 := 1496) hX e1 mh_L_freeRoom kl_L_189 rfl rfl (Nat.le_of_ble_eq_true rfl) ⟨Nat.le_of_ble_eq_true rfl, Nat.le_of_ble_eq_true rfl⟩ dL_law_1493 ⟨(by show c9 + 1 ≤ 601024; omega), (by show s9 + 6 ≤ 7293034; omega)⟩ rfl ?_
  refine ro_istore (i := 5) (q := 1498) hX dL_law_1496 (Nat.le_of_ble_eq_true rfl) rfl ?_
  refine ro_aload_n (i := 2) (q := 1499) hX dL_law_1498 rfl rfl rfl ?_
  refine ro_aload_n (i := 0) (q := 1500) hX dL_law_1499 rfl rfl rfl ?_
  refine ro_iload (i := 4) (q := 1502) hX dL_law_1500 rfl rfl ?_
  refine ro_iconst (v := nI 1) (q := 1503) hX dL_law_1502 rfl rfl ?_
  refine ro_iadd (q := 1504) hX dL_law_1503 rfl ?_
  refine vv_top (y := nI (3 * k + 1)) (nI_add' rfl rfl) ?_
  refine ro_sld (n := 3 * k + 1) (q9 := 1505) h rfl (by omega) hL dL_law_1504 rfl ?_
  refine ro_callVi (q9 := 1508) hX e2 mw_X3_freeRoom kl_L_191 (by decide) (fun cy => cell3 (by decide +kernel)) rfl rfl rfl (Nat.le_of_ble_eq_true rfl) ⟨Nat.le_of_ble_eq_true rfl, Nat.le_of_ble_eq_true rfl⟩ dL_law_1505 ⟨(by show _ ≤ 601024; omega), (by show _ ≤ 7293034; omega)⟩ rfl ?_
  refine ro_istore (i := 6) (q := 1510) hX dL_law_1508 (Nat.le_of_ble_eq_true rfl) rfl ?_
  refine ro_aload_n (i := 2) (q := 1511) hX dL_law_1510 rfl rfl rfl ?_
  refine ro_callVi (q9 := 1514) hX e3 mw_X3_thrown kl_L_113 (by decide) (fun cy => cell3 (by decide +kernel)) rfl rfl rfl (Nat.le_of_ble_eq_true rfl) ⟨Nat.le_of_ble_eq_true rfl, Nat.le_of_ble_eq_true rfl⟩ dL_law_1511 ⟨(by show _ ≤ 601024; omega), (by show _ ≤ 7293034; omega)⟩ rfl ?_
  refine ro_iload (i := 5) (q := 1516) hX dL_law_1514 rfl rfl ?_
  refine ro_icmp_eq (tgt := 1521) (q := 1519) hX dL_law_1516 (by decide) rfl (fun _ => ?_) (fun q => absurd rfl q)
  refine ro_iload (i := 5) (q := 1523) hX dL_law_1521 rfl rfl ?_
  refine ro_if_ne (tgt := 1538) (q := 1526) hX dL_law_1523 (by decide) rfl (fun _ => ?_) (fun hz => ?_)
  · skip
    refine ro_goto (tgt := 1911) hX dL_law_1538 (by decide) ?_
    refine ro_drop (L' := [(0, .ref b), (1, .ref (sz + 0)), (2, .ref (sz + 75)), (3, .ref (sz + 79)), (4, .int (nI (3 * k)))]) [5, 6] hX rfl ?_
    exact law_next h (hP _ _ _ e5 (by omega) (by omega))
  · skip
    refine ro_aload_n (i := 3) (q := 1527) hX dL_law_1526 rfl rfl rfl ?_
    refine ro_iconst (v := nI 0) (q := 1528) hX dL_law_1527 rfl rfl ?_
    refine ro_lald (q9 := 1529) hX dL_law_1528 rfl ?_
    refine ro_iload (i := 6) (q := 1531) hX dL_law_1529 rfl rfl ?_
    rw [e4 hz]
    refine ro_i2l (v := v.toInt64) (q := 1532) hX dL_law_1531 rfl rfl ?_
    refine ro_lcmp (q := 1533) hX dL_law_1532 rfl ?_
    refine ro_if_eq (tgt := 1538) (q := 1536) hX dL_law_1533 (by decide) rfl (fun _ => ?_) (fun q => absurd (lg_cmp_0 _) q)
    refine ro_goto (tgt := 1911) hX dL_law_1538 (by decide) ?_
    refine ro_drop (L' := [(0, .ref b), (1, .ref (sz + 0)), (2, .ref (sz + 75)), (3, .ref (sz + 79)), (4, .int (nI (3 * k)))]) [5, 6] hX rfl ?_
    exact law_next h (hP _ _ _ e5 (by omega) (by omega))
set_option maxRecDepth 20000 in
theorem law_op_25 (h : CtxL VV sz b LL xs) (hL : LL ≤ 1536) {k : Nat} (hk : 3 * k + 3 ≤ LL) {c9 s9 : Nat} (hc9 : c9 ≤ 90 + k) (hs9 : s9 ≤ 4000 + 6 * k) (hI : Inv k M) (ho : ∀ x : Int32, OpX sz Inv I_L_deadlineIn hh_L_deadlineIn I_X3_deadlineIn [.int x]) (hP : ∀ M' c' s', Inv (k + 1) M' → c' ≤ 90 + (k + 1) → s' ≤ 4000 + 6 * (k + 1) → VV c' s' 23 [(0, .ref b), (1, .ref (sz + 0)), (2, .ref (sz + 75)), (3, .ref (sz + 79)), (4, .int (nI (3 * (k + 1))))] [] M') : VV c9 s9 1541 [(0, .ref b), (1, .ref (sz + 0)), (2, .ref (sz + 75)), (3, .ref (sz + 79)), (4, .int (nI (3 * k)))] [] M := by
  obtain ⟨cd, v, M1, M2, M3, e1, e2, e3, e4, e5⟩ := ho (xs (3 * k + 1)) k M (by omega) hI
  have hX := h.c
  refine ro_aload_n (i := 1) (q := 1542) hX dL_law_1541 rfl rfl rfl ?_
  refine ro_aload_n (i := 0) (q := 1543) hX dL_law_1542 rfl rfl rfl ?_
  refine ro_iload (i := 4) (q := 1545) hX dL_law_1543 rfl rfl ?_
  refine ro_iconst (v := nI 1) (q := 1546) hX dL_law_1545 rfl rfl ?_
  refine ro_iadd (q := 1547) hX dL_law_1546 rfl ?_
  refine vv_top (y := nI (3 * k + 1)) (nI_add' rfl rfl) ?_
  refine ro_sld (n := 3 * k + 1) (q9 := 1548) h rfl (by omega) hL dL_law_1547 rfl ?_
  refine ro_aload_n (i := 3) (q := 1549) hX dL_law_1548 rfl rfl rfl ?_
  refine ro_callSH (q9 := 1552) hX e1 mh_L_deadlineIn kl_L_192 rfl rfl (Nat.le_of_ble_eq_true rfl) ⟨Nat.le_of_ble_eq_true rfl, Nat.le_of_ble_eq_true rfl⟩ dL_law_1549 ⟨(by show c9 + 1 ≤ 601024; omega), (by show s9 + 6 ≤ 7293034; omega)⟩ rfl ?_
  refine ro_istore (i := 5) (q := 1554) hX dL_law_1552 (Nat.le_of_ble_eq_true rfl) rfl ?_
  refine ro_aload_n (i := 2) (q := 1555) hX dL_law_1554 rfl rfl rfl ?_
  refine ro_aload_n (i := 0) (q := 1556) hX dL_law_1555 rfl rfl rfl ?_
  refine ro_iload (i := 4) (q := 1558) hX dL_law_1556 rfl rfl ?_
  refine ro_iconst (v := nI 1) (q := 1559) hX dL_law_1558 rfl rfl ?_
  refine ro_iadd (q := 1560) hX dL_law_1559 rfl ?_
  refine vv_top (y := nI (3 * k + 1)) (nI_add' rfl rfl) ?_
  refine ro_sld (n := 3 * k + 1) (q9 := 1561) h rfl (by omega) hL dL_law_1560 rfl ?_
  refine ro_callVi (q9 := 1564) hX e2 mw_X3_deadlineIn kl_L_194 (by decide) (fun cy => cell3 (by decide +kernel)) rfl rfl rfl (Nat.le_of_ble_eq_true rfl) ⟨Nat.le_of_ble_eq_true rfl, Nat.le_of_ble_eq_true rfl⟩ dL_law_1561 ⟨(by show _ ≤ 601024; omega), (by show _ ≤ 7293034; omega)⟩ rfl ?_
  refine ro_istore (i := 6) (q := 1566) hX dL_law_1564 (Nat.le_of_ble_eq_true rfl) rfl ?_
  refine ro_aload_n (i := 2) (q := 1567) hX dL_law_1566 rfl rfl rfl ?_
  refine ro_callVi (q9 := 1570) hX e3 mw_X3_thrown kl_L_113 (by decide) (fun cy => cell3 (by decide +kernel)) rfl rfl rfl (Nat.le_of_ble_eq_true rfl) ⟨Nat.le_of_ble_eq_true rfl, Nat.le_of_ble_eq_true rfl⟩ dL_law_1567 ⟨(by show _ ≤ 601024; omega), (by show _ ≤ 7293034; omega)⟩ rfl ?_
  refine ro_iload (i := 5) (q := 1572) hX dL_law_1570 rfl rfl ?_
  refine ro_icmp_eq (tgt := 1577) (q := 1575) hX dL_law_1572 (by decide) rfl (fun _ => ?_) (fun q => absurd rfl q)
  refine ro_iload (i := 5) (q := 1579) hX dL_law_1577 rfl rfl ?_
  refine ro_if_ne (tgt := 1594) (q := 1582) hX dL_law_1579 (by decide) rfl (fun _ => ?_) (fun hz => ?_)
  · skip
    refine ro_goto (tgt := 1911) hX dL_law_1594 (by decide) ?_
    refine ro_drop (L' := [(0, .ref b), (1, .ref (sz + 0)), (2, .ref (sz + 75)), (3, .ref (sz + 79)), (4, .int (nI (3 * k)))]) [5, 6] hX rfl ?_
    exact law_next h (hP _ _ _ e5 (by omega) (by omega))
  · skip
    refine ro_aload_n (i := 3) (q := 1583) hX dL_law_1582 rfl rfl rfl ?_
    refine ro_iconst (v := nI 0) (q := 1584) hX dL_law_1583 rfl rfl ?_
    refine ro_lald (q9 := 1585) hX dL_law_1584 rfl ?_
    refine ro_iload (i := 6) (q := 1587) hX dL_law_1585 rfl rfl ?_
    rw [e4 hz]
    refine ro_i2l (v := v.toInt64) (q := 1588) hX dL_law_1587 rfl rfl ?_
    refine ro_lcmp (q := 1589) hX dL_law_1588 rfl ?_
    refine ro_if_eq (tgt := 1594) (q := 1592) hX dL_law_1589 (by decide) rfl (fun _ => ?_) (fun q => absurd (lg_cmp_0 _) q)
    refine ro_goto (tgt := 1911) hX dL_law_1594 (by decide) ?_
    refine ro_drop (L' := [(0, .ref b), (1, .ref (sz + 0)), (2, .ref (sz + 75)), (3, .ref (sz + 79)), (4, .int (nI (3 * k)))]) [5, 6] hX rfl ?_
    exact law_next h (hP _ _ _ e5 (by omega) (by omega))
set_option maxRecDepth 20000 in
theorem law_op_26 (h : CtxL VV sz b LL xs) (hL : LL ≤ 1536) {k : Nat} (hk : 3 * k + 3 ≤ LL) {c9 s9 : Nat} (hc9 : c9 ≤ 90 + k) (hs9 : s9 ≤ 4000 + 6 * k) (hI : Inv k M) (ho : ∀ x y : Int32, OpX sz Inv I_L_replica hh_L_replica I_X3_replica [.int x, .int y]) (hP : ∀ M' c' s', Inv (k + 1) M' → c' ≤ 90 + (k + 1) → s' ≤ 4000 + 6 * (k + 1) → VV c' s' 23 [(0, .ref b), (1, .ref (sz + 0)), (2, .ref (sz + 75)), (3, .ref (sz + 79)), (4, .int (nI (3 * (k + 1))))] [] M') : VV c9 s9 1597 [(0, .ref b), (1, .ref (sz + 0)), (2, .ref (sz + 75)), (3, .ref (sz + 79)), (4, .int (nI (3 * k)))] [] M := by
  obtain ⟨cd, v, M1, M2, M3, e1, e2, e3, e4, e5⟩ := ho (xs (3 * k + 1)) (xs (3 * k + 2)) k M (by omega) hI
  have hX := h.c
  refine ro_aload_n (i := 1) (q := 1598) hX dL_law_1597 rfl rfl rfl ?_
  refine ro_aload_n (i := 0) (q := 1599) hX dL_law_1598 rfl rfl rfl ?_
  refine ro_iload (i := 4) (q := 1601) hX dL_law_1599 rfl rfl ?_
  refine ro_iconst (v := nI 1) (q := 1602) hX dL_law_1601 rfl rfl ?_
  refine ro_iadd (q := 1603) hX dL_law_1602 rfl ?_
  refine vv_top (y := nI (3 * k + 1)) (nI_add' rfl rfl) ?_
  refine ro_sld (n := 3 * k + 1) (q9 := 1604) h rfl (by omega) hL dL_law_1603 rfl ?_
  refine ro_aload_n (i := 0) (q := 1605) hX dL_law_1604 rfl rfl rfl ?_
  refine ro_iload (i := 4) (q := 1607) hX dL_law_1605 rfl rfl ?_
  refine ro_iconst (v := nI 2) (q := 1608) hX dL_law_1607 rfl rfl ?_
  refine ro_iadd (q := 1609) hX dL_law_1608 rfl ?_
  refine vv_top (y := nI (3 * k + 2)) (nI_add' rfl rfl) ?_
  refine ro_sld (n := 3 * k + 2) (q9 := 1610) h rfl (by omega) hL dL_law_1609 rfl ?_
  refine ro_aload_n (i := 3) (q := 1611) hX dL_law_1610 rfl rfl rfl ?_
  refine ro_callSH (q9 := 1614) hX e1 mh_L_replica kl_L_195 rfl rfl (Nat.le_of_ble_eq_true rfl) ⟨Nat.le_of_ble_eq_true rfl, Nat.le_of_ble_eq_true rfl⟩ dL_law_1611 ⟨(by show c9 + 1 ≤ 601024; omega), (by show s9 + 6 ≤ 7293034; omega)⟩ rfl ?_
  refine ro_istore (i := 5) (q := 1616) hX dL_law_1614 (Nat.le_of_ble_eq_true rfl) rfl ?_
  refine ro_aload_n (i := 2) (q := 1617) hX dL_law_1616 rfl rfl rfl ?_
  refine ro_aload_n (i := 0) (q := 1618) hX dL_law_1617 rfl rfl rfl ?_
  refine ro_iload (i := 4) (q := 1620) hX dL_law_1618 rfl rfl ?_
  refine ro_iconst (v := nI 1) (q := 1621) hX dL_law_1620 rfl rfl ?_
  refine ro_iadd (q := 1622) hX dL_law_1621 rfl ?_
  refine vv_top (y := nI (3 * k + 1)) (nI_add' rfl rfl) ?_
  refine ro_sld (n := 3 * k + 1) (q9 := 1623) h rfl (by omega) hL dL_law_1622 rfl ?_
  refine ro_aload_n (i := 0) (q := 1624) hX dL_law_1623 rfl rfl rfl ?_
  refine ro_iload (i := 4) (q := 1626) hX dL_law_1624 rfl rfl ?_
  refine ro_iconst (v := nI 2) (q := 1627) hX dL_law_1626 rfl rfl ?_
  refine ro_iadd (q := 1628) hX dL_law_1627 rfl ?_
  refine vv_top (y := nI (3 * k + 2)) (nI_add' rfl rfl) ?_
  refine ro_sld (n := 3 * k + 2) (q9 := 1629) h rfl (by omega) hL dL_law_1628 rfl ?_
  refine ro_callVi (q9 := 1632) hX e2 mw_X3_replica kl_L_197 (by decide) (fun cy => cell3 (by decide +kernel)) rfl rfl rfl (Nat.le_of_ble_eq_true rfl) ⟨Nat.le_of_ble_eq_true rfl, Nat.le_of_ble_eq_true rfl⟩ dL_law_1629 ⟨(by show _ ≤ 601024; omega), (by show _ ≤ 7293034; omega)⟩ rfl ?_
  refine ro_istore (i := 6) (q := 1634) hX dL_law_1632 (Nat.le_of_ble_eq_true rfl) rfl ?_
  refine ro_aload_n (i := 2) (q := 1635) hX dL_law_1634 rfl rfl rfl ?_
  refine ro_callVi (q9 := 1638) hX e3 mw_X3_thrown kl_L_113 (by decide) (fun cy => cell3 (by decide +kernel)) rfl rfl rfl (Nat.le_of_ble_eq_true rfl) ⟨Nat.le_of_ble_eq_true rfl, Nat.le_of_ble_eq_true rfl⟩ dL_law_1635 ⟨(by show _ ≤ 601024; omega), (by show _ ≤ 7293034; omega)⟩ rfl ?_
  refine ro_iload (i := 5) (q := 1640) hX dL_law_1638 rfl rfl ?_
  refine ro_icmp_eq (tgt := 1645) (q := 1643) hX dL_law_1640 (by decide) rfl (fun _ => ?_) (fun q => absurd rfl q)
  refine ro_iload (i := 5) (q := 1647) hX dL_law_1645 rfl rfl ?_
  refine ro_if_ne (tgt := 1662) (q := 1650) hX dL_law_1647 (by decide) rfl (fun _ => ?_) (fun hz => ?_)
  · skip
    refine ro_goto (tgt := 1911) hX dL_law_1662 (by decide) ?_
    refine ro_drop (L' := [(0, .ref b), (1, .ref (sz + 0)), (2, .ref (sz + 75)), (3, .ref (sz + 79)), (4, .int (nI (3 * k)))]) [5, 6] hX rfl ?_
    exact law_next h (hP _ _ _ e5 (by omega) (by omega))
  · skip
    refine ro_aload_n (i := 3) (q := 1651) hX dL_law_1650 rfl rfl rfl ?_
    refine ro_iconst (v := nI 0) (q := 1652) hX dL_law_1651 rfl rfl ?_
    refine ro_lald (q9 := 1653) hX dL_law_1652 rfl ?_
    refine ro_iload (i := 6) (q := 1655) hX dL_law_1653 rfl rfl ?_
    rw [e4 hz]
    refine ro_i2l (v := v.toInt64) (q := 1656) hX dL_law_1655 rfl rfl ?_
    refine ro_lcmp (q := 1657) hX dL_law_1656 rfl ?_
    refine ro_if_eq (tgt := 1662) (q := 1660) hX dL_law_1657 (by decide) rfl (fun _ => ?_) (fun q => absurd (lg_cmp_0 _) q)
    refine ro_goto (tgt := 1911) hX dL_law_1662 (by decide) ?_
    refine ro_drop (L' := [(0, .ref b), (1, .ref (sz + 0)), (2, .ref (sz + 75)), (3, .ref (sz + 79)), (4, .int (nI (3 * k)))]) [5, 6] hX rfl ?_
    exact law_next h (hP _ _ _ e5 (by omega) (by omega))
set_option maxRecDepth 20000 in
theorem law_op_27 (h : CtxL VV sz b LL xs) (hL : LL ≤ 1536) {k : Nat} (hk : 3 * k + 3 ≤ LL) {c9 s9 : Nat} (hc9 : c9 ≤ 90 + k) (hs9 : s9 ≤ 4000 + 6 * k) (hI : Inv k M) (ho : ∀ x : Int32, OpX sz Inv I_L_transfer hh_L_transfer I_X3_transfer [.int x]) (hP : ∀ M' c' s', Inv (k + 1) M' → c' ≤ 90 + (k + 1) → s' ≤ 4000 + 6 * (k + 1) → VV c' s' 23 [(0, .ref b), (1, .ref (sz + 0)), (2, .ref (sz + 75)), (3, .ref (sz + 79)), (4, .int (nI (3 * (k + 1))))] [] M') : VV c9 s9 1665 [(0, .ref b), (1, .ref (sz + 0)), (2, .ref (sz + 75)), (3, .ref (sz + 79)), (4, .int (nI (3 * k)))] [] M := by
  obtain ⟨cd, v, M1, M2, M3, e1, e2, e3, e4, e5⟩ := ho (xs (3 * k + 1)) k M (by omega) hI
  have hX := h.c
  refine ro_aload_n (i := 1) (q := 1666) hX dL_law_1665 rfl rfl rfl ?_
  refine ro_aload_n (i := 0) (q := 1667) hX dL_law_1666 rfl rfl rfl ?_
  refine ro_iload (i := 4) (q := 1669) hX dL_law_1667 rfl rfl ?_
  refine ro_iconst (v := nI 1) (q := 1670) hX dL_law_1669 rfl rfl ?_
  refine ro_iadd (q := 1671) hX dL_law_1670 rfl ?_
  refine vv_top (y := nI (3 * k + 1)) (nI_add' rfl rfl) ?_
  refine ro_sld (n := 3 * k + 1) (q9 := 1672) h rfl (by omega) hL dL_law_1671 rfl ?_
  refine ro_aload_n (i := 3) (q := 1673) hX dL_law_1672 rfl rfl rfl ?_
  refine ro_callSH (q9 := 1676) hX e1 mh_L_transfer kl_L_198 rfl rfl (Nat.le_of_ble_eq_true rfl) ⟨Nat.le_of_ble_eq_true rfl, Nat.le_of_ble_eq_true rfl⟩ dL_law_1673 ⟨(by show c9 + 1 ≤ 601024; omega), (by show s9 + 6 ≤ 7293034; omega)⟩ rfl ?_
  refine ro_istore (i := 5) (q := 1678) hX dL_law_1676 (Nat.le_of_ble_eq_true rfl) rfl ?_
  refine ro_aload_n (i := 2) (q := 1679) hX dL_law_1678 rfl rfl rfl ?_
  refine ro_aload_n (i := 0) (q := 1680) hX dL_law_1679 rfl rfl rfl ?_
  refine ro_iload (i := 4) (q := 1682) hX dL_law_1680 rfl rfl ?_
  refine ro_iconst (v := nI 1) (q := 1683) hX dL_law_1682 rfl rfl ?_
  refine ro_iadd (q := 1684) hX dL_law_1683 rfl ?_
  refine vv_top (y := nI (3 * k + 1)) (nI_add' rfl rfl) ?_
  refine ro_sld (n := 3 * k + 1) (q9 := 1685) h rfl (by omega) hL dL_law_1684 rfl ?_
  refine ro_callVi (q9 := 1688) hX e2 mw_X3_transfer kl_L_200 (by decide) (fun cy => cell3 (by decide +kernel)) rfl rfl rfl (Nat.le_of_ble_eq_true rfl) ⟨Nat.le_of_ble_eq_true rfl, Nat.le_of_ble_eq_true rfl⟩ dL_law_1685 ⟨(by show _ ≤ 601024; omega), (by show _ ≤ 7293034; omega)⟩ rfl ?_
  refine ro_istore (i := 6) (q := 1690) hX dL_law_1688 (Nat.le_of_ble_eq_true rfl) rfl ?_
  refine ro_aload_n (i := 2) (q := 1691) hX dL_law_1690 rfl rfl rfl ?_
  refine ro_callVi (q9 := 1694) hX e3 mw_X3_thrown kl_L_113 (by decide) (fun cy => cell3 (by decide +kernel)) rfl rfl rfl (Nat.le_of_ble_eq_true rfl) ⟨Nat.le_of_ble_eq_true rfl, Nat.le_of_ble_eq_true rfl⟩ dL_law_1691 ⟨(by show _ ≤ 601024; omega), (by show _ ≤ 7293034; omega)⟩ rfl ?_
  refine ro_iload (i := 5) (q := 1696) hX dL_law_1694 rfl rfl ?_
  refine ro_icmp_eq (tgt := 1701) (q := 1699) hX dL_law_1696 (by decide) rfl (fun _ => ?_) (fun q => absurd rfl q)
  refine ro_iload (i := 5) (q := 1703) hX dL_law_1701 rfl rfl ?_
  refine ro_if_ne (tgt := 1718) (q := 1706) hX dL_law_1703 (by decide) rfl (fun _ => ?_) (fun hz => ?_)
  · skip
    refine ro_goto (tgt := 1911) hX dL_law_1718 (by decide) ?_
    refine ro_drop (L' := [(0, .ref b), (1, .ref (sz + 0)), (2, .ref (sz + 75)), (3, .ref (sz + 79)), (4, .int (nI (3 * k)))]) [5, 6] hX rfl ?_
    exact law_next h (hP _ _ _ e5 (by omega) (by omega))
  · skip
    refine ro_aload_n (i := 3) (q := 1707) hX dL_law_1706 rfl rfl rfl ?_
    refine ro_iconst (v := nI 0) (q := 1708) hX dL_law_1707 rfl rfl ?_
    refine ro_lald (q9 := 1709) hX dL_law_1708 rfl ?_
    refine ro_iload (i := 6) (q := 1711) hX dL_law_1709 rfl rfl ?_
    rw [e4 hz]
    refine ro_i2l (v := v.toInt64) (q := 1712) hX dL_law_1711 rfl rfl ?_
    refine ro_lcmp (q := 1713) hX dL_law_1712 rfl ?_
    refine ro_if_eq (tgt := 1718) (q := 1716) hX dL_law_1713 (by decide) rfl (fun _ => ?_) (fun q => absurd (lg_cmp_0 _) q)
    refine ro_goto (tgt := 1911) hX dL_law_1718 (by decide) ?_
    refine ro_drop (L' := [(0, .ref b), (1, .ref (sz + 0)), (2, .ref (sz + 75)), (3, .ref (sz + 79)), (4, .int (nI (3 * k)))]) [5, 6] hX rfl ?_
    exact law_next h (hP _ _ _ e5 (by omega) (by omega))
set_option maxRecDepth 20000 in
theorem law_op_28 (h : CtxL VV sz b LL xs) (hL : LL ≤ 1536) {k : Nat} (hk : 3 * k + 3 ≤ LL) {c9 s9 : Nat} (hc9 : c9 ≤ 90 + k) (hs9 : s9 ≤ 4000 + 6 * k) (hI : Inv k M) (ho : OpD sz Inv I_X2_completedTransfers I_X3_completedTransfers) (hP : ∀ M' c' s', Inv (k + 1) M' → c' ≤ 90 + (k + 1) → s' ≤ 4000 + 6 * (k + 1) → VV c' s' 23 [(0, .ref b), (1, .ref (sz + 0)), (2, .ref (sz + 75)), (3, .ref (sz + 79)), (4, .int (nI (3 * (k + 1))))] [] M') : VV c9 s9 1721 [(0, .ref b), (1, .ref (sz + 0)), (2, .ref (sz + 75)), (3, .ref (sz + 79)), (4, .int (nI (3 * k)))] [] M := by
  obtain ⟨v, M1, M2, e1, e2, e3⟩ := ho k M (by omega) hI
  have hX := h.c
  refine ro_aload_n (i := 1) (q := 1722) hX dL_law_1721 rfl rfl rfl ?_
  refine ro_callVi (q9 := 1725) hX e1 mw_X2_completedTransfers kl_L_201 (by decide) (fun cy => cell2 (by decide +kernel)) rfl rfl rfl (Nat.le_of_ble_eq_true rfl) ⟨Nat.le_of_ble_eq_true rfl, Nat.le_of_ble_eq_true rfl⟩ dL_law_1722 ⟨(by show _ ≤ 601024; omega), (by show _ ≤ 7293034; omega)⟩ rfl ?_
  refine ro_aload_n (i := 2) (q := 1726) hX dL_law_1725 rfl rfl rfl ?_
  refine ro_callVi (q9 := 1729) hX e2 mw_X3_completedTransfers kl_L_204 (by decide) (fun cy => cell3 (by decide +kernel)) rfl rfl rfl (Nat.le_of_ble_eq_true rfl) ⟨Nat.le_of_ble_eq_true rfl, Nat.le_of_ble_eq_true rfl⟩ dL_law_1726 ⟨(by show _ ≤ 601024; omega), (by show _ ≤ 7293034; omega)⟩ rfl ?_
  refine ro_icmp_eq (tgt := 1911) (q := 1732) hX dL_law_1729 (by decide) rfl (fun _ => ?_) (fun q => absurd rfl q)
  exact law_next h (hP _ _ _ e3 (by omega) (by omega))
set_option maxRecDepth 20000 in
theorem law_op_29 (h : CtxL VV sz b LL xs) (hL : LL ≤ 1536) {k : Nat} (hk : 3 * k + 3 ≤ LL) {c9 s9 : Nat} (hc9 : c9 ≤ 90 + k) (hs9 : s9 ≤ 4000 + 6 * k) (hI : Inv k M) (ho : OpD sz Inv I_X2_time I_X3_time) (hP : ∀ M' c' s', Inv (k + 1) M' → c' ≤ 90 + (k + 1) → s' ≤ 4000 + 6 * (k + 1) → VV c' s' 23 [(0, .ref b), (1, .ref (sz + 0)), (2, .ref (sz + 75)), (3, .ref (sz + 79)), (4, .int (nI (3 * (k + 1))))] [] M') : VV c9 s9 1734 [(0, .ref b), (1, .ref (sz + 0)), (2, .ref (sz + 75)), (3, .ref (sz + 79)), (4, .int (nI (3 * k)))] [] M := by
  obtain ⟨v, M1, M2, e1, e2, e3⟩ := ho k M (by omega) hI
  have hX := h.c
  refine ro_aload_n (i := 1) (q := 1735) hX dL_law_1734 rfl rfl rfl ?_
  refine ro_callVi (q9 := 1738) hX e1 mw_X2_time kl_L_205 (by decide) (fun cy => cell2 (by decide +kernel)) rfl rfl rfl (Nat.le_of_ble_eq_true rfl) ⟨Nat.le_of_ble_eq_true rfl, Nat.le_of_ble_eq_true rfl⟩ dL_law_1735 ⟨(by show _ ≤ 601024; omega), (by show _ ≤ 7293034; omega)⟩ rfl ?_
  refine ro_aload_n (i := 2) (q := 1739) hX dL_law_1738 rfl rfl rfl ?_
  refine ro_callVi (q9 := 1742) hX e2 mw_X3_time kl_L_208 (by decide) (fun cy => cell3 (by decide +kernel)) rfl rfl rfl (Nat.le_of_ble_eq_true rfl) ⟨Nat.le_of_ble_eq_true rfl, Nat.le_of_ble_eq_true rfl⟩ dL_law_1739 ⟨(by show _ ≤ 601024; omega), (by show _ ≤ 7293034; omega)⟩ rfl ?_
  refine ro_icmp_eq (tgt := 1911) (q := 1745) hX dL_law_1742 (by decide) rfl (fun _ => ?_) (fun q => absurd rfl q)
  exact law_next h (hP _ _ _ e3 (by omega) (by omega))
set_option maxRecDepth 20000 in
theorem law_op_30 (h : CtxL VV sz b LL xs) (hL : LL ≤ 1536) {k : Nat} (hk : 3 * k + 3 ≤ LL) {c9 s9 : Nat} (hc9 : c9 ≤ 90 + k) (hs9 : s9 ≤ 4000 + 6 * k) (hI : Inv k M) (ho : ∀ x : Int32, OpX sz Inv I_L_lostWithout hh_L_lostWithout I_X3_lostWithout [.int x]) (hP : ∀ M' c' s', Inv (k + 1) M' → c' ≤ 90 + (k + 1) → s' ≤ 4000 + 6 * (k + 1) → VV c' s' 23 [(0, .ref b), (1, .ref (sz + 0)), (2, .ref (sz + 75)), (3, .ref (sz + 79)), (4, .int (nI (3 * (k + 1))))] [] M') : VV c9 s9 1747 [(0, .ref b), (1, .ref (sz + 0)), (2, .ref (sz + 75)), (3, .ref (sz + 79)), (4, .int (nI (3 * k)))] [] M := by
  obtain ⟨cd, v, M1, M2, M3, e1, e2, e3, e4, e5⟩ := ho (xs (3 * k + 1)) k M (by omega) hI
  have hX := h.c
  refine ro_aload_n (i := 1) (q := 1748) hX dL_law_1747 rfl rfl rfl ?_
  refine ro_aload_n (i := 0) (q := 1749) hX dL_law_1748 rfl rfl rfl ?_
  refine ro_iload (i := 4) (q := 1751) hX dL_law_1749 rfl rfl ?_
  refine ro_iconst (v := nI 1) (q := 1752) hX dL_law_1751 rfl rfl ?_
  refine ro_iadd (q := 1753) hX dL_law_1752 rfl ?_
  refine vv_top (y := nI (3 * k + 1)) (nI_add' rfl rfl) ?_
  refine ro_sld (n := 3 * k + 1) (q9 := 1754) h rfl (by omega) hL dL_law_1753 rfl ?_
  refine ro_aload_n (i := 3) (q := 1755) hX dL_law_1754 rfl rfl rfl ?_
  refine ro_callSH (q9 := 1758) hX e1 mh_L_lostWithout kl_L_209 rfl rfl (Nat.le_of_ble_eq_true rfl) ⟨Nat.le_of_ble_eq_true rfl, Nat.le_of_ble_eq_true rfl⟩ dL_law_1755 ⟨(by show c9 + 1 ≤ 601024; omega), (by show s9 + 6 ≤ 7293034; omega)⟩ rfl ?_
  refine ro_istore (i := 5) (q := 1760) hX dL_law_1758 (Nat.le_of_ble_eq_true rfl) rfl ?_
  refine ro_aload_n (i := 2) (q := 1761) hX dL_law_1760 rfl rfl rfl ?_
  refine ro_aload_n (i := 0) (q := 1762) hX dL_law_1761 rfl rfl rfl ?_
  refine ro_iload (i := 4) (q := 1764) hX dL_law_1762 rfl rfl ?_
  refine ro_iconst (v := nI 1) (q := 1765) hX dL_law_1764 rfl rfl ?_
  refine ro_iadd (q := 1766) hX dL_law_1765 rfl ?_
  refine vv_top (y := nI (3 * k + 1)) (nI_add' rfl rfl) ?_
  refine ro_sld (n := 3 * k + 1) (q9 := 1767) h rfl (by omega) hL dL_law_1766 rfl ?_
  refine ro_callVi (q9 := 1770) hX e2 mw_X3_lostWithout kl_L_211 (by decide) (fun cy => cell3 (by decide +kernel)) rfl rfl rfl (Nat.le_of_ble_eq_true rfl) ⟨Nat.le_of_ble_eq_true rfl, Nat.le_of_ble_eq_true rfl⟩ dL_law_1767 ⟨(by show _ ≤ 601024; omega), (by show _ ≤ 7293034; omega)⟩ rfl ?_
  refine ro_istore (i := 6) (q := 1772) hX dL_law_1770 (Nat.le_of_ble_eq_true rfl) rfl ?_
  refine ro_aload_n (i := 2) (q := 1773) hX dL_law_1772 rfl rfl rfl ?_
  refine ro_callVi (q9 := 1776) hX e3 mw_X3_thrown kl_L_113 (by decide) (fun cy => cell3 (by decide +kernel)) rfl rfl rfl (Nat.le_of_ble_eq_true rfl) ⟨Nat.le_of_ble_eq_true rfl, Nat.le_of_ble_eq_true rfl⟩ dL_law_1773 ⟨(by show _ ≤ 601024; omega), (by show _ ≤ 7293034; omega)⟩ rfl ?_
  refine ro_iload (i := 5) (q := 1778) hX dL_law_1776 rfl rfl ?_
  refine ro_icmp_eq (tgt := 1783) (q := 1781) hX dL_law_1778 (by decide) rfl (fun _ => ?_) (fun q => absurd rfl q)
  refine ro_iload (i := 5) (q := 1785) hX dL_law_1783 rfl rfl ?_
  refine ro_if_ne (tgt := 1800) (q := 1788) hX dL_law_1785 (by decide) rfl (fun _ => ?_) (fun hz => ?_)
  · skip
    refine ro_goto (tgt := 1911) hX dL_law_1800 (by decide) ?_
    refine ro_drop (L' := [(0, .ref b), (1, .ref (sz + 0)), (2, .ref (sz + 75)), (3, .ref (sz + 79)), (4, .int (nI (3 * k)))]) [5, 6] hX rfl ?_
    exact law_next h (hP _ _ _ e5 (by omega) (by omega))
  · skip
    refine ro_aload_n (i := 3) (q := 1789) hX dL_law_1788 rfl rfl rfl ?_
    refine ro_iconst (v := nI 0) (q := 1790) hX dL_law_1789 rfl rfl ?_
    refine ro_lald (q9 := 1791) hX dL_law_1790 rfl ?_
    refine ro_iload (i := 6) (q := 1793) hX dL_law_1791 rfl rfl ?_
    rw [e4 hz]
    refine ro_i2l (v := v.toInt64) (q := 1794) hX dL_law_1793 rfl rfl ?_
    refine ro_lcmp (q := 1795) hX dL_law_1794 rfl ?_
    refine ro_if_eq (tgt := 1800) (q := 1798) hX dL_law_1795 (by decide) rfl (fun _ => ?_) (fun q => absurd (lg_cmp_0 _) q)
    refine ro_goto (tgt := 1911) hX dL_law_1800 (by decide) ?_
    refine ro_drop (L' := [(0, .ref b), (1, .ref (sz + 0)), (2, .ref (sz + 75)), (3, .ref (sz + 79)), (4, .int (nI (3 * k)))]) [5, 6] hX rfl ?_
    exact law_next h (hP _ _ _ e5 (by omega) (by omega))
set_option maxRecDepth 20000 in
theorem law_op_31 (h : CtxL VV sz b LL xs) (hL : LL ≤ 1536) {k : Nat} (hk : 3 * k + 3 ≤ LL) {c9 s9 : Nat} (hc9 : c9 ≤ 90 + k) (hs9 : s9 ≤ 4000 + 6 * k) (hI : Inv k M) (ho : OpD sz Inv I_X2_worstPair I_X3_worstPair) (hP : ∀ M' c' s', Inv (k + 1) M' → c' ≤ 90 + (k + 1) → s' ≤ 4000 + 6 * (k + 1) → VV c' s' 23 [(0, .ref b), (1, .ref (sz + 0)), (2, .ref (sz + 75)), (3, .ref (sz + 79)), (4, .int (nI (3 * (k + 1))))] [] M') : VV c9 s9 1803 [(0, .ref b), (1, .ref (sz + 0)), (2, .ref (sz + 75)), (3, .ref (sz + 79)), (4, .int (nI (3 * k)))] [] M := by
  obtain ⟨v, M1, M2, e1, e2, e3⟩ := ho k M (by omega) hI
  have hX := h.c
  refine ro_aload_n (i := 1) (q := 1804) hX dL_law_1803 rfl rfl rfl ?_
  refine ro_callVi (q9 := 1807) hX e1 mw_X2_worstPair kl_L_212 (by decide) (fun cy => cell2 (by decide +kernel)) rfl rfl rfl (Nat.le_of_ble_eq_true rfl) ⟨Nat.le_of_ble_eq_true rfl, Nat.le_of_ble_eq_true rfl⟩ dL_law_1804 ⟨(by show _ ≤ 601024; omega), (by show _ ≤ 7293034; omega)⟩ rfl ?_
  refine ro_aload_n (i := 2) (q := 1808) hX dL_law_1807 rfl rfl rfl ?_
  refine ro_callVi (q9 := 1811) hX e2 mw_X3_worstPair kl_L_215 (by decide) (fun cy => cell3 (by decide +kernel)) rfl rfl rfl (Nat.le_of_ble_eq_true rfl) ⟨Nat.le_of_ble_eq_true rfl, Nat.le_of_ble_eq_true rfl⟩ dL_law_1808 ⟨(by show _ ≤ 601024; omega), (by show _ ≤ 7293034; omega)⟩ rfl ?_
  refine ro_icmp_eq (tgt := 1911) (q := 1814) hX dL_law_1811 (by decide) rfl (fun _ => ?_) (fun q => absurd rfl q)
  exact law_next h (hP _ _ _ e3 (by omega) (by omega))
set_option maxRecDepth 20000 in
theorem law_op_32 (h : CtxL VV sz b LL xs) (hL : LL ≤ 1536) {k : Nat} (hk : 3 * k + 3 ≤ LL) {c9 s9 : Nat} (hc9 : c9 ≤ 90 + k) (hs9 : s9 ≤ 4000 + 6 * k) (hI : Inv k M) (ho : ∀ x : Int32, OpX sz Inv I_L_lostIn hh_L_lostIn I_X3_lostIn [.int x]) (hP : ∀ M' c' s', Inv (k + 1) M' → c' ≤ 90 + (k + 1) → s' ≤ 4000 + 6 * (k + 1) → VV c' s' 23 [(0, .ref b), (1, .ref (sz + 0)), (2, .ref (sz + 75)), (3, .ref (sz + 79)), (4, .int (nI (3 * (k + 1))))] [] M') : VV c9 s9 1816 [(0, .ref b), (1, .ref (sz + 0)), (2, .ref (sz + 75)), (3, .ref (sz + 79)), (4, .int (nI (3 * k)))] [] M := by
  obtain ⟨cd, v, M1, M2, M3, e1, e2, e3, e4, e5⟩ := ho (xs (3 * k + 1)) k M (by omega) hI
  have hX := h.c
  refine ro_aload_n (i := 1) (q := 1817) hX dL_law_1816 rfl rfl rfl ?_
  refine ro_aload_n (i := 0) (q := 1818) hX dL_law_1817 rfl rfl rfl ?_
  refine ro_iload (i := 4) (q := 1820) hX dL_law_1818 rfl rfl ?_
  refine ro_iconst (v := nI 1) (q := 1821) hX dL_law_1820 rfl rfl ?_
  refine ro_iadd (q := 1822) hX dL_law_1821 rfl ?_
  refine vv_top (y := nI (3 * k + 1)) (nI_add' rfl rfl) ?_
  refine ro_sld (n := 3 * k + 1) (q9 := 1823) h rfl (by omega) hL dL_law_1822 rfl ?_
  refine ro_aload_n (i := 3) (q := 1824) hX dL_law_1823 rfl rfl rfl ?_
  refine ro_callSH (q9 := 1827) hX e1 mh_L_lostIn kl_L_216 rfl rfl (Nat.le_of_ble_eq_true rfl) ⟨Nat.le_of_ble_eq_true rfl, Nat.le_of_ble_eq_true rfl⟩ dL_law_1824 ⟨(by show c9 + 1 ≤ 601024; omega), (by show s9 + 6 ≤ 7293034; omega)⟩ rfl ?_
  refine ro_istore (i := 5) (q := 1829) hX dL_law_1827 (Nat.le_of_ble_eq_true rfl) rfl ?_
  refine ro_aload_n (i := 2) (q := 1830) hX dL_law_1829 rfl rfl rfl ?_
  refine ro_aload_n (i := 0) (q := 1831) hX dL_law_1830 rfl rfl rfl ?_
  refine ro_iload (i := 4) (q := 1833) hX dL_law_1831 rfl rfl ?_
  refine ro_iconst (v := nI 1) (q := 1834) hX dL_law_1833 rfl rfl ?_
  refine ro_iadd (q := 1835) hX dL_law_1834 rfl ?_
  refine vv_top (y := nI (3 * k + 1)) (nI_add' rfl rfl) ?_
  refine ro_sld (n := 3 * k + 1) (q9 := 1836) h rfl (by omega) hL dL_law_1835 rfl ?_
  refine ro_callVi (q9 := 1839) hX e2 mw_X3_lostIn kl_L_218 (by decide) (fun cy => cell3 (by decide +kernel)) rfl rfl rfl (Nat.le_of_ble_eq_true rfl) ⟨Nat.le_of_ble_eq_true rfl, Nat.le_of_ble_eq_true rfl⟩ dL_law_1836 ⟨(by show _ ≤ 601024; omega), (by show _ ≤ 7293034; omega)⟩ rfl ?_
  refine ro_istore (i := 6) (q := 1841) hX dL_law_1839 (Nat.le_of_ble_eq_true rfl) rfl ?_
  refine ro_aload_n (i := 2) (q := 1842) hX dL_law_1841 rfl rfl rfl ?_
  refine ro_callVi (q9 := 1845) hX e3 mw_X3_thrown kl_L_113 (by decide) (fun cy => cell3 (by decide +kernel)) rfl rfl rfl (Nat.le_of_ble_eq_true rfl) ⟨Nat.le_of_ble_eq_true rfl, Nat.le_of_ble_eq_true rfl⟩ dL_law_1842 ⟨(by show _ ≤ 601024; omega), (by show _ ≤ 7293034; omega)⟩ rfl ?_
  refine ro_iload (i := 5) (q := 1847) hX dL_law_1845 rfl rfl ?_
  refine ro_icmp_eq (tgt := 1852) (q := 1850) hX dL_law_1847 (by decide) rfl (fun _ => ?_) (fun q => absurd rfl q)
  refine ro_iload (i := 5) (q := 1854) hX dL_law_1852 rfl rfl ?_
  refine ro_if_ne (tgt := 1869) (q := 1857) hX dL_law_1854 (by decide) rfl (fun _ => ?_) (fun hz => ?_)
  · skip
    refine ro_goto (tgt := 1911) hX dL_law_1869 (by decide) ?_
    refine ro_drop (L' := [(0, .ref b), (1, .ref (sz + 0)), (2, .ref (sz + 75)), (3, .ref (sz + 79)), (4, .int (nI (3 * k)))]) [5, 6] hX rfl ?_
    exact law_next h (hP _ _ _ e5 (by omega) (by omega))
  · skip
    refine ro_aload_n (i := 3) (q := 1858) hX dL_law_1857 rfl rfl rfl ?_
    refine ro_iconst (v := nI 0) (q := 1859) hX dL_law_1858 rfl rfl ?_
    refine ro_lald (q9 := 1860) hX dL_law_1859 rfl ?_
    refine ro_iload (i := 6) (q := 1862) hX dL_law_1860 rfl rfl ?_
    rw [e4 hz]
    refine ro_i2l (v := v.toInt64) (q := 1863) hX dL_law_1862 rfl rfl ?_
    refine ro_lcmp (q := 1864) hX dL_law_1863 rfl ?_
    refine ro_if_eq (tgt := 1869) (q := 1867) hX dL_law_1864 (by decide) rfl (fun _ => ?_) (fun q => absurd (lg_cmp_0 _) q)
    refine ro_goto (tgt := 1911) hX dL_law_1869 (by decide) ?_
    refine ro_drop (L' := [(0, .ref b), (1, .ref (sz + 0)), (2, .ref (sz + 75)), (3, .ref (sz + 79)), (4, .int (nI (3 * k)))]) [5, 6] hX rfl ?_
    exact law_next h (hP _ _ _ e5 (by omega) (by omega))
set_option maxRecDepth 20000 in
theorem law_op_33 (h : CtxL VV sz b LL xs) (hL : LL ≤ 1536) {k : Nat} (hk : 3 * k + 3 ≤ LL) {c9 s9 : Nat} (hc9 : c9 ≤ 90 + k) (hs9 : s9 ≤ 4000 + 6 * k) (hI : Inv k M) (ho : OpD sz Inv I_X2_restsIn I_X3_restsIn) (hP : ∀ M' c' s', Inv (k + 1) M' → c' ≤ 90 + (k + 1) → s' ≤ 4000 + 6 * (k + 1) → VV c' s' 23 [(0, .ref b), (1, .ref (sz + 0)), (2, .ref (sz + 75)), (3, .ref (sz + 79)), (4, .int (nI (3 * (k + 1))))] [] M') : VV c9 s9 1872 [(0, .ref b), (1, .ref (sz + 0)), (2, .ref (sz + 75)), (3, .ref (sz + 79)), (4, .int (nI (3 * k)))] [] M := by
  obtain ⟨v, M1, M2, e1, e2, e3⟩ := ho k M (by omega) hI
  have hX := h.c
  refine ro_aload_n (i := 1) (q := 1873) hX dL_law_1872 rfl rfl rfl ?_
  refine ro_callVi (q9 := 1876) hX e1 mw_X2_restsIn kl_L_219 (by decide) (fun cy => cell2 (by decide +kernel)) rfl rfl rfl (Nat.le_of_ble_eq_true rfl) ⟨Nat.le_of_ble_eq_true rfl, Nat.le_of_ble_eq_true rfl⟩ dL_law_1873 ⟨(by show _ ≤ 601024; omega), (by show _ ≤ 7293034; omega)⟩ rfl ?_
  refine ro_aload_n (i := 2) (q := 1877) hX dL_law_1876 rfl rfl rfl ?_
  refine ro_callVi (q9 := 1880) hX e2 mw_X3_restsIn kl_L_222 (by decide) (fun cy => cell3 (by decide +kernel)) rfl rfl rfl (Nat.le_of_ble_eq_true rfl) ⟨Nat.le_of_ble_eq_true rfl, Nat.le_of_ble_eq_true rfl⟩ dL_law_1877 ⟨(by show _ ≤ 601024; omega), (by show _ ≤ 7293034; omega)⟩ rfl ?_
  refine ro_icmp_eq (tgt := 1911) (q := 1883) hX dL_law_1880 (by decide) rfl (fun _ => ?_) (fun q => absurd rfl q)
  exact law_next h (hP _ _ _ e3 (by omega) (by omega))
set_option maxRecDepth 20000 in
theorem law_op_34 (h : CtxL VV sz b LL xs) (hL : LL ≤ 1536) {k : Nat} (hk : 3 * k + 3 ≤ LL) {c9 s9 : Nat} (hc9 : c9 ≤ 90 + k) (hs9 : s9 ≤ 4000 + 6 * k) (hI : Inv k M) (ho : OpD sz Inv I_X2_savedStates I_X3_savedStates) (hP : ∀ M' c' s', Inv (k + 1) M' → c' ≤ 90 + (k + 1) → s' ≤ 4000 + 6 * (k + 1) → VV c' s' 23 [(0, .ref b), (1, .ref (sz + 0)), (2, .ref (sz + 75)), (3, .ref (sz + 79)), (4, .int (nI (3 * (k + 1))))] [] M') : VV c9 s9 1885 [(0, .ref b), (1, .ref (sz + 0)), (2, .ref (sz + 75)), (3, .ref (sz + 79)), (4, .int (nI (3 * k)))] [] M := by
  obtain ⟨v, M1, M2, e1, e2, e3⟩ := ho k M (by omega) hI
  have hX := h.c
  refine ro_aload_n (i := 1) (q := 1886) hX dL_law_1885 rfl rfl rfl ?_
  refine ro_callVi (q9 := 1889) hX e1 mw_X2_savedStates kl_L_223 (by decide) (fun cy => cell2 (by decide +kernel)) rfl rfl rfl (Nat.le_of_ble_eq_true rfl) ⟨Nat.le_of_ble_eq_true rfl, Nat.le_of_ble_eq_true rfl⟩ dL_law_1886 ⟨(by show _ ≤ 601024; omega), (by show _ ≤ 7293034; omega)⟩ rfl ?_
  refine ro_aload_n (i := 2) (q := 1890) hX dL_law_1889 rfl rfl rfl ?_
  refine ro_callVi (q9 := 1893) hX e2 mw_X3_savedStates kl_L_226 (by decide) (fun cy => cell3 (by decide +kernel)) rfl rfl rfl (Nat.le_of_ble_eq_true rfl) ⟨Nat.le_of_ble_eq_true rfl, Nat.le_of_ble_eq_true rfl⟩ dL_law_1890 ⟨(by show _ ≤ 601024; omega), (by show _ ≤ 7293034; omega)⟩ rfl ?_
  refine ro_icmp_eq (tgt := 1911) (q := 1896) hX dL_law_1893 (by decide) rfl (fun _ => ?_) (fun q => absurd rfl q)
  exact law_next h (hP _ _ _ e3 (by omega) (by omega))
set_option maxRecDepth 20000 in
theorem law_op_35 (h : CtxL VV sz b LL xs) (hL : LL ≤ 1536) {k : Nat} (hk : 3 * k + 3 ≤ LL) {c9 s9 : Nat} (hc9 : c9 ≤ 90 + k) (hs9 : s9 ≤ 4000 + 6 * k) (hI : Inv k M) (ho : OpD sz Inv I_X2_textLength I_X3_textLength) (hP : ∀ M' c' s', Inv (k + 1) M' → c' ≤ 90 + (k + 1) → s' ≤ 4000 + 6 * (k + 1) → VV c' s' 23 [(0, .ref b), (1, .ref (sz + 0)), (2, .ref (sz + 75)), (3, .ref (sz + 79)), (4, .int (nI (3 * (k + 1))))] [] M') : VV c9 s9 1898 [(0, .ref b), (1, .ref (sz + 0)), (2, .ref (sz + 75)), (3, .ref (sz + 79)), (4, .int (nI (3 * k)))] [] M := by
  obtain ⟨v, M1, M2, e1, e2, e3⟩ := ho k M (by omega) hI
  have hX := h.c
  refine ro_aload_n (i := 1) (q := 1899) hX dL_law_1898 rfl rfl rfl ?_
  refine ro_callVi (q9 := 1902) hX e1 mw_X2_textLength kl_L_227 (by decide) (fun cy => cell2 (by decide +kernel)) rfl rfl rfl (Nat.le_of_ble_eq_true rfl) ⟨Nat.le_of_ble_eq_true rfl, Nat.le_of_ble_eq_true rfl⟩ dL_law_1899 ⟨(by show _ ≤ 601024; omega), (by show _ ≤ 7293034; omega)⟩ rfl ?_
  refine ro_aload_n (i := 2) (q := 1903) hX dL_law_1902 rfl rfl rfl ?_
  refine ro_callVi (q9 := 1906) hX e2 mw_X3_textLength kl_L_230 (by decide) (fun cy => cell3 (by decide +kernel)) rfl rfl rfl (Nat.le_of_ble_eq_true rfl) ⟨Nat.le_of_ble_eq_true rfl, Nat.le_of_ble_eq_true rfl⟩ dL_law_1903 ⟨(by show _ ≤ 601024; omega), (by show _ ≤ 7293034; omega)⟩ rfl ?_
  refine ro_icmp_eq (tgt := 1911) (q := 1909) hX dL_law_1906 (by decide) rfl (fun _ => ?_) (fun q => absurd rfl q)
  exact law_next h (hP _ _ _ e3 (by omega) (by omega))
theorem law_step (h : CtxL VV sz b LL xs) (hL : LL ≤ 1536) {k : Nat} (hk : 3 * k + 3 ≤ LL) {c9 s9 : Nat} (hc9 : c9 ≤ 90 + k) (hs9 : s9 ≤ 4000 + 6 * k) (hI : Inv k M) (hmo : ∀ k M, Inv k M → Inv (k + 1) M) (o0 : ∀ x y : Int32, OpX sz Inv I_L_store hh_L_store I_X3_store [.int x, .int y]) (o1 : ∀ x y : Int32, OpX sz Inv I_L_write hh_L_write I_X3_write [.int x, .int y]) (o2 : ∀ x : Int32, OpX sz Inv I_L_read hh_L_read I_X3_read [.int x]) (o3 : ∀ x : Int32, OpX sz Inv I_L_remove hh_L_remove I_X3_remove [.int x]) (o4 : ∀ x y : Int32, OpX sz Inv I_L_lend hh_L_lend I_X3_lend [.int x, .int y]) (o5 : ∀ x y : Int32, OpX sz Inv I_L_recall hh_L_recall I_X3_recall [.int x, .int y]) (o6 : ∀ x : Int32, OpX sz Inv I_L_disconnect hh_L_disconnect I_X3_disconnect [.int x]) (o7 : ∀ x : Int32, OpX sz Inv I_L_reconnect hh_L_reconnect I_X3_reconnect [.int x]) (o8 : ∀ x : Int32, OpX sz Inv I_L_crash hh_L_crash I_X3_crash [.int x]) (o9 : ∀ x : Int32, OpX sz Inv I_L_pass hh_L_pass I_X3_pass [.int x]) (o10 : ∀ x : Int32, OpX sz Inv I_L_setTransferTime hh_L_setTransferTime I_X3_setTransferTime [.int x]) (o11 : ∀ x : Int32, OpX sz Inv I_L_appendText hh_L_appendText I_X3_appendText [.int x]) (o12 : OpD sz Inv I_X2_clearText I_X3_clearText) (o13 : OpD sz Inv I_X2_errorPosition I_X3_errorPosition) (o14 : OpX sz Inv I_L_runText hh_L_runText I_X3_runText []) (o15 : OpX sz Inv I_L_undo hh_L_undo I_X3_undo []) (o16 : ∀ x : Int32, OpX sz Inv I_L_save hh_L_save I_X3_save [.int x]) (o17 : ∀ x : Int32, OpX sz Inv I_L_restore hh_L_restore I_X3_restore [.int x]) (o18 : ∀ x : Int32, OpX sz Inv I_L_status hh_L_status I_X3_status [.int x]) (o19 : ∀ x : Int32, OpX sz Inv I_L_copies hh_L_copies I_X3_copies [.int x]) (o20 : ∀ x : Int32, OpX sz Inv I_L_countStatus hh_L_countStatus I_X3_countStatus [.int x]) (o21 : ∀ x : Int32, OpX sz Inv I_L_mode hh_L_mode I_X3_mode [.int x]) (o22 : ∀ x : Int32, OpZ sz Inv I_L_isConnected hh_L_isConnected I_X3_isConnected [.int x]) (o23 : ∀ x : Int32, OpX sz Inv I_L_usedRoom hh_L_usedRoom I_X3_usedRoom [.int x]) (o24 : ∀ x : Int32, OpX sz Inv I_L_freeRoom hh_L_freeRoom I_X3_freeRoom [.int x]) (o25 : ∀ x : Int32, OpX sz Inv I_L_deadlineIn hh_L_deadlineIn I_X3_deadlineIn [.int x]) (o26 : ∀ x y : Int32, OpX sz Inv I_L_replica hh_L_replica I_X3_replica [.int x, .int y]) (o27 : ∀ x : Int32, OpX sz Inv I_L_transfer hh_L_transfer I_X3_transfer [.int x]) (o28 : OpD sz Inv I_X2_completedTransfers I_X3_completedTransfers) (o29 : OpD sz Inv I_X2_time I_X3_time) (o30 : ∀ x : Int32, OpX sz Inv I_L_lostWithout hh_L_lostWithout I_X3_lostWithout [.int x]) (o31 : OpD sz Inv I_X2_worstPair I_X3_worstPair) (o32 : ∀ x : Int32, OpX sz Inv I_L_lostIn hh_L_lostIn I_X3_lostIn [.int x]) (o33 : OpD sz Inv I_X2_restsIn I_X3_restsIn) (o34 : OpD sz Inv I_X2_savedStates I_X3_savedStates) (o35 : OpD sz Inv I_X2_textLength I_X3_textLength) (hP : ∀ M' c' s', Inv (k + 1) M' → c' ≤ 90 + (k + 1) → s' ≤ 4000 + 6 * (k + 1) → VV c' s' 23 [(0, .ref b), (1, .ref (sz + 0)), (2, .ref (sz + 75)), (3, .ref (sz + 79)), (4, .int (nI (3 * (k + 1))))] [] M') : VV c9 s9 23 [(0, .ref b), (1, .ref (sz + 0)), (2, .ref (sz + 75)), (3, .ref (sz + 79)), (4, .int (nI (3 * k)))] [] M := by
  have hX := h.c
  refine ro_iload (i := 4) (q := 25) hX dL_law_23 rfl rfl ?_
  refine ro_aload_n (i := 0) (q := 26) hX dL_law_25 rfl rfl rfl ?_
  refine ro_slen (q9 := 27) h dL_law_26 rfl ?_
  refine ro_iconst (v := nI 3) (q := 28) hX dL_law_27 rfl rfl ?_
  refine ro_isub (q := 29) hX dL_law_28 rfl ?_
  refine vv_top (y := nI (LL - 3)) (ni_sub (by omega)) ?_
  refine ro_icmp_gt (tgt := 1917) (q := 32) hX dL_law_29 (by decide) rfl (fun q => absurd q (ni_nlt (by omega) (by omega))) (fun _ => ?_)
  refine ro_aload_n (i := 0) (q := 33) hX dL_law_32 rfl rfl rfl ?_
  refine ro_iload (i := 4) (q := 35) hX dL_law_33 rfl rfl ?_
  refine ro_sld (n := 3 * k) (q9 := 36) h rfl (by omega) hL dL_law_35 rfl ?_
  refine ro_bipush (v := nI 63) (q := 38) hX dL_law_36 rfl rfl ?_
  refine ro_iand (q := 39) hX dL_law_38 rfl ?_
  by_cases hr : (xs (3 * k) &&& nI 63).toInt < 0 ∨ 35 < (xs (3 * k) &&& nI 63).toInt
  · refine ro_tableOut (tgt := 1911) hX dL_law_39 hr (by decide) ?_
    exact law_next h (hP _ _ _ (hmo _ _ hI) (by omega) (by omega))
  · have hj : (xs (3 * k) &&& nI 63).toInt = 0 ∨ (xs (3 * k) &&& nI 63).toInt = 1 ∨ (xs (3 * k) &&& nI 63).toInt = 2 ∨ (xs (3 * k) &&& nI 63).toInt = 3 ∨ (xs (3 * k) &&& nI 63).toInt = 4 ∨ (xs (3 * k) &&& nI 63).toInt = 5 ∨ (xs (3 * k) &&& nI 63).toInt = 6 ∨ (xs (3 * k) &&& nI 63).toInt = 7 ∨ (xs (3 * k) &&& nI 63).toInt = 8 ∨ (xs (3 * k) &&& nI 63).toInt = 9 ∨ (xs (3 * k) &&& nI 63).toInt = 10 ∨ (xs (3 * k) &&& nI 63).toInt = 11 ∨ (xs (3 * k) &&& nI 63).toInt = 12 ∨ (xs (3 * k) &&& nI 63).toInt = 13 ∨ (xs (3 * k) &&& nI 63).toInt = 14 ∨ (xs (3 * k) &&& nI 63).toInt = 15 ∨ (xs (3 * k) &&& nI 63).toInt = 16 ∨ (xs (3 * k) &&& nI 63).toInt = 17 ∨ (xs (3 * k) &&& nI 63).toInt = 18 ∨ (xs (3 * k) &&& nI 63).toInt = 19 ∨ (xs (3 * k) &&& nI 63).toInt = 20 ∨ (xs (3 * k) &&& nI 63).toInt = 21 ∨ (xs (3 * k) &&& nI 63).toInt = 22 ∨ (xs (3 * k) &&& nI 63).toInt = 23 ∨ (xs (3 * k) &&& nI 63).toInt = 24 ∨ (xs (3 * k) &&& nI 63).toInt = 25 ∨ (xs (3 * k) &&& nI 63).toInt = 26 ∨ (xs (3 * k) &&& nI 63).toInt = 27 ∨ (xs (3 * k) &&& nI 63).toInt = 28 ∨ (xs (3 * k) &&& nI 63).toInt = 29 ∨ (xs (3 * k) &&& nI 63).toInt = 30 ∨ (xs (3 * k) &&& nI 63).toInt = 31 ∨ (xs (3 * k) &&& nI 63).toInt = 32 ∨ (xs (3 * k) &&& nI 63).toInt = 33 ∨ (xs (3 * k) &&& nI 63).toInt = 34 ∨ (xs (3 * k) &&& nI 63).toInt = 35 := by omega
    rcases hj with e | e | e | e | e | e | e | e | e | e | e | e | e | e | e | e | e | e | e | e | e | e | e | e | e | e | e | e | e | e | e | e | e | e | e | e
    · refine ro_tableIn (tgt := 196) (off := 157) hX dL_law_39 (by rw [e]; decide) (by rw [e]; decide) (by rw [e]; rfl) (by decide) ?_
      exact law_op_0 h hL hk hc9 hs9 hI o0 hP
    · refine ro_tableIn (tgt := 264) (off := 225) hX dL_law_39 (by rw [e]; decide) (by rw [e]; decide) (by rw [e]; rfl) (by decide) ?_
      exact law_op_1 h hL hk hc9 hs9 hI o1 hP
    · refine ro_tableIn (tgt := 332) (off := 293) hX dL_law_39 (by rw [e]; decide) (by rw [e]; decide) (by rw [e]; rfl) (by decide) ?_
      exact law_op_2 h hL hk hc9 hs9 hI o2 hP
    · refine ro_tableIn (tgt := 388) (off := 349) hX dL_law_39 (by rw [e]; decide) (by rw [e]; decide) (by rw [e]; rfl) (by decide) ?_
      exact law_op_3 h hL hk hc9 hs9 hI o3 hP
    · refine ro_tableIn (tgt := 444) (off := 405) hX dL_law_39 (by rw [e]; decide) (by rw [e]; decide) (by rw [e]; rfl) (by decide) ?_
      exact law_op_4 h hL hk hc9 hs9 hI o4 hP
    · refine ro_tableIn (tgt := 512) (off := 473) hX dL_law_39 (by rw [e]; decide) (by rw [e]; decide) (by rw [e]; rfl) (by decide) ?_
      exact law_op_5 h hL hk hc9 hs9 hI o5 hP
    · refine ro_tableIn (tgt := 580) (off := 541) hX dL_law_39 (by rw [e]; decide) (by rw [e]; decide) (by rw [e]; rfl) (by decide) ?_
      exact law_op_6 h hL hk hc9 hs9 hI o6 hP
    · refine ro_tableIn (tgt := 636) (off := 597) hX dL_law_39 (by rw [e]; decide) (by rw [e]; decide) (by rw [e]; rfl) (by decide) ?_
      exact law_op_7 h hL hk hc9 hs9 hI o7 hP
    · refine ro_tableIn (tgt := 692) (off := 653) hX dL_law_39 (by rw [e]; decide) (by rw [e]; decide) (by rw [e]; rfl) (by decide) ?_
      exact law_op_8 h hL hk hc9 hs9 hI o8 hP
    · refine ro_tableIn (tgt := 748) (off := 709) hX dL_law_39 (by rw [e]; decide) (by rw [e]; decide) (by rw [e]; rfl) (by decide) ?_
      exact law_op_9 h hL hk hc9 hs9 hI o9 hP
    · refine ro_tableIn (tgt := 804) (off := 765) hX dL_law_39 (by rw [e]; decide) (by rw [e]; decide) (by rw [e]; rfl) (by decide) ?_
      exact law_op_10 h hL hk hc9 hs9 hI o10 hP
    · refine ro_tableIn (tgt := 860) (off := 821) hX dL_law_39 (by rw [e]; decide) (by rw [e]; decide) (by rw [e]; rfl) (by decide) ?_
      exact law_op_11 h hL hk hc9 hs9 hI o11 hP
    · refine ro_tableIn (tgt := 916) (off := 877) hX dL_law_39 (by rw [e]; decide) (by rw [e]; decide) (by rw [e]; rfl) (by decide) ?_
      exact law_op_12 h hL hk hc9 hs9 hI o12 hP
    · refine ro_tableIn (tgt := 929) (off := 890) hX dL_law_39 (by rw [e]; decide) (by rw [e]; decide) (by rw [e]; rfl) (by decide) ?_
      exact law_op_13 h hL hk hc9 hs9 hI o13 hP
    · refine ro_tableIn (tgt := 942) (off := 903) hX dL_law_39 (by rw [e]; decide) (by rw [e]; decide) (by rw [e]; rfl) (by decide) ?_
      exact law_op_14 h hL hk hc9 hs9 hI o14 hP
    · refine ro_tableIn (tgt := 986) (off := 947) hX dL_law_39 (by rw [e]; decide) (by rw [e]; decide) (by rw [e]; rfl) (by decide) ?_
      exact law_op_15 h hL hk hc9 hs9 hI o15 hP
    · refine ro_tableIn (tgt := 1030) (off := 991) hX dL_law_39 (by rw [e]; decide) (by rw [e]; decide) (by rw [e]; rfl) (by decide) ?_
      exact law_op_16 h hL hk hc9 hs9 hI o16 hP
    · refine ro_tableIn (tgt := 1086) (off := 1047) hX dL_law_39 (by rw [e]; decide) (by rw [e]; decide) (by rw [e]; rfl) (by decide) ?_
      exact law_op_17 h hL hk hc9 hs9 hI o17 hP
    · refine ro_tableIn (tgt := 1142) (off := 1103) hX dL_law_39 (by rw [e]; decide) (by rw [e]; decide) (by rw [e]; rfl) (by decide) ?_
      exact law_op_18 h hL hk hc9 hs9 hI o18 hP
    · refine ro_tableIn (tgt := 1198) (off := 1159) hX dL_law_39 (by rw [e]; decide) (by rw [e]; decide) (by rw [e]; rfl) (by decide) ?_
      exact law_op_19 h hL hk hc9 hs9 hI o19 hP
    · refine ro_tableIn (tgt := 1254) (off := 1215) hX dL_law_39 (by rw [e]; decide) (by rw [e]; decide) (by rw [e]; rfl) (by decide) ?_
      exact law_op_20 h hL hk hc9 hs9 hI o20 hP
    · refine ro_tableIn (tgt := 1310) (off := 1271) hX dL_law_39 (by rw [e]; decide) (by rw [e]; decide) (by rw [e]; rfl) (by decide) ?_
      exact law_op_21 h hL hk hc9 hs9 hI o21 hP
    · refine ro_tableIn (tgt := 1366) (off := 1327) hX dL_law_39 (by rw [e]; decide) (by rw [e]; decide) (by rw [e]; rfl) (by decide) ?_
      exact law_op_22 h hL hk hc9 hs9 hI o22 hP
    · refine ro_tableIn (tgt := 1429) (off := 1390) hX dL_law_39 (by rw [e]; decide) (by rw [e]; decide) (by rw [e]; rfl) (by decide) ?_
      exact law_op_23 h hL hk hc9 hs9 hI o23 hP
    · refine ro_tableIn (tgt := 1485) (off := 1446) hX dL_law_39 (by rw [e]; decide) (by rw [e]; decide) (by rw [e]; rfl) (by decide) ?_
      exact law_op_24 h hL hk hc9 hs9 hI o24 hP
    · refine ro_tableIn (tgt := 1541) (off := 1502) hX dL_law_39 (by rw [e]; decide) (by rw [e]; decide) (by rw [e]; rfl) (by decide) ?_
      exact law_op_25 h hL hk hc9 hs9 hI o25 hP
    · refine ro_tableIn (tgt := 1597) (off := 1558) hX dL_law_39 (by rw [e]; decide) (by rw [e]; decide) (by rw [e]; rfl) (by decide) ?_
      exact law_op_26 h hL hk hc9 hs9 hI o26 hP
    · refine ro_tableIn (tgt := 1665) (off := 1626) hX dL_law_39 (by rw [e]; decide) (by rw [e]; decide) (by rw [e]; rfl) (by decide) ?_
      exact law_op_27 h hL hk hc9 hs9 hI o27 hP
    · refine ro_tableIn (tgt := 1721) (off := 1682) hX dL_law_39 (by rw [e]; decide) (by rw [e]; decide) (by rw [e]; rfl) (by decide) ?_
      exact law_op_28 h hL hk hc9 hs9 hI o28 hP
    · refine ro_tableIn (tgt := 1734) (off := 1695) hX dL_law_39 (by rw [e]; decide) (by rw [e]; decide) (by rw [e]; rfl) (by decide) ?_
      exact law_op_29 h hL hk hc9 hs9 hI o29 hP
    · refine ro_tableIn (tgt := 1747) (off := 1708) hX dL_law_39 (by rw [e]; decide) (by rw [e]; decide) (by rw [e]; rfl) (by decide) ?_
      exact law_op_30 h hL hk hc9 hs9 hI o30 hP
    · refine ro_tableIn (tgt := 1803) (off := 1764) hX dL_law_39 (by rw [e]; decide) (by rw [e]; decide) (by rw [e]; rfl) (by decide) ?_
      exact law_op_31 h hL hk hc9 hs9 hI o31 hP
    · refine ro_tableIn (tgt := 1816) (off := 1777) hX dL_law_39 (by rw [e]; decide) (by rw [e]; decide) (by rw [e]; rfl) (by decide) ?_
      exact law_op_32 h hL hk hc9 hs9 hI o32 hP
    · refine ro_tableIn (tgt := 1872) (off := 1833) hX dL_law_39 (by rw [e]; decide) (by rw [e]; decide) (by rw [e]; rfl) (by decide) ?_
      exact law_op_33 h hL hk hc9 hs9 hI o33 hP
    · refine ro_tableIn (tgt := 1885) (off := 1846) hX dL_law_39 (by rw [e]; decide) (by rw [e]; decide) (by rw [e]; rfl) (by decide) ?_
      exact law_op_34 h hL hk hc9 hs9 hI o34 hP
    · refine ro_tableIn (tgt := 1898) (off := 1859) hX dL_law_39 (by rw [e]; decide) (by rw [e]; decide) (by rw [e]; rfl) (by decide) ?_
      exact law_op_35 h hL hk hc9 hs9 hI o35 hP
theorem law_end (h : CtxL VV sz b LL xs) (hL : LL ≤ 1536) {k : Nat} (hk : LL < 3 * k + 3) (hk2 : 3 * k ≤ LL) {c9 s9 : Nat} (hc9 : c9 ≤ 90 + k) (hs9 : s9 ≤ 4000 + 6 * k) : VV c9 s9 23 [(0, .ref b), (1, .ref (sz + 0)), (2, .ref (sz + 75)), (3, .ref (sz + 79)), (4, .int (nI (3 * k)))] [] M := by
  have hX := h.c
  refine ro_iload (i := 4) (q := 25) hX dL_law_23 rfl rfl ?_
  refine ro_aload_n (i := 0) (q := 26) hX dL_law_25 rfl rfl rfl ?_
  refine ro_slen (q9 := 27) h dL_law_26 rfl ?_
  refine ro_iconst (v := nI 3) (q := 28) hX dL_law_27 rfl rfl ?_
  refine ro_isub (q := 29) hX dL_law_28 rfl ?_
  have hlt : nI LL - nI 3 < nI (3 * k) := by
    by_cases h3 : 3 ≤ LL
    · rw [ni_sub h3]; exact ni_lt (by omega) (by omega)
    · have h0 : k = 0 := by omega
      subst h0
      have : LL = 0 ∨ LL = 1 ∨ LL = 2 := by omega
      rcases this with rfl | rfl | rfl <;> decide
  refine ro_icmp_gt (tgt := 1917) (q := 32) hX dL_law_29 (by decide) rfl (fun _ => ?_) (fun q => absurd hlt q)
  refine ro_iconst (v := 1) (q := 1918) hX dL_law_1917 rfl rfl ?_
  exact fin_law h dL_law_1918 (by omega) (by omega)
theorem law_loop (h : CtxL VV sz b LL xs) (hL : LL ≤ 1536) (hmo : ∀ k M, Inv k M → Inv (k + 1) M) (hI : Inv 0 M) (o0 : ∀ x y : Int32, OpX sz Inv I_L_store hh_L_store I_X3_store [.int x, .int y]) (o1 : ∀ x y : Int32, OpX sz Inv I_L_write hh_L_write I_X3_write [.int x, .int y]) (o2 : ∀ x : Int32, OpX sz Inv I_L_read hh_L_read I_X3_read [.int x]) (o3 : ∀ x : Int32, OpX sz Inv I_L_remove hh_L_remove I_X3_remove [.int x]) (o4 : ∀ x y : Int32, OpX sz Inv I_L_lend hh_L_lend I_X3_lend [.int x, .int y]) (o5 : ∀ x y : Int32, OpX sz Inv I_L_recall hh_L_recall I_X3_recall [.int x, .int y]) (o6 : ∀ x : Int32, OpX sz Inv I_L_disconnect hh_L_disconnect I_X3_disconnect [.int x]) (o7 : ∀ x : Int32, OpX sz Inv I_L_reconnect hh_L_reconnect I_X3_reconnect [.int x]) (o8 : ∀ x : Int32, OpX sz Inv I_L_crash hh_L_crash I_X3_crash [.int x]) (o9 : ∀ x : Int32, OpX sz Inv I_L_pass hh_L_pass I_X3_pass [.int x]) (o10 : ∀ x : Int32, OpX sz Inv I_L_setTransferTime hh_L_setTransferTime I_X3_setTransferTime [.int x]) (o11 : ∀ x : Int32, OpX sz Inv I_L_appendText hh_L_appendText I_X3_appendText [.int x]) (o12 : OpD sz Inv I_X2_clearText I_X3_clearText) (o13 : OpD sz Inv I_X2_errorPosition I_X3_errorPosition) (o14 : OpX sz Inv I_L_runText hh_L_runText I_X3_runText []) (o15 : OpX sz Inv I_L_undo hh_L_undo I_X3_undo []) (o16 : ∀ x : Int32, OpX sz Inv I_L_save hh_L_save I_X3_save [.int x]) (o17 : ∀ x : Int32, OpX sz Inv I_L_restore hh_L_restore I_X3_restore [.int x]) (o18 : ∀ x : Int32, OpX sz Inv I_L_status hh_L_status I_X3_status [.int x]) (o19 : ∀ x : Int32, OpX sz Inv I_L_copies hh_L_copies I_X3_copies [.int x]) (o20 : ∀ x : Int32, OpX sz Inv I_L_countStatus hh_L_countStatus I_X3_countStatus [.int x]) (o21 : ∀ x : Int32, OpX sz Inv I_L_mode hh_L_mode I_X3_mode [.int x]) (o22 : ∀ x : Int32, OpZ sz Inv I_L_isConnected hh_L_isConnected I_X3_isConnected [.int x]) (o23 : ∀ x : Int32, OpX sz Inv I_L_usedRoom hh_L_usedRoom I_X3_usedRoom [.int x]) (o24 : ∀ x : Int32, OpX sz Inv I_L_freeRoom hh_L_freeRoom I_X3_freeRoom [.int x]) (o25 : ∀ x : Int32, OpX sz Inv I_L_deadlineIn hh_L_deadlineIn I_X3_deadlineIn [.int x]) (o26 : ∀ x y : Int32, OpX sz Inv I_L_replica hh_L_replica I_X3_replica [.int x, .int y]) (o27 : ∀ x : Int32, OpX sz Inv I_L_transfer hh_L_transfer I_X3_transfer [.int x]) (o28 : OpD sz Inv I_X2_completedTransfers I_X3_completedTransfers) (o29 : OpD sz Inv I_X2_time I_X3_time) (o30 : ∀ x : Int32, OpX sz Inv I_L_lostWithout hh_L_lostWithout I_X3_lostWithout [.int x]) (o31 : OpD sz Inv I_X2_worstPair I_X3_worstPair) (o32 : ∀ x : Int32, OpX sz Inv I_L_lostIn hh_L_lostIn I_X3_lostIn [.int x]) (o33 : OpD sz Inv I_X2_restsIn I_X3_restsIn) (o34 : OpD sz Inv I_X2_savedStates I_X3_savedStates) (o35 : OpD sz Inv I_X2_textLength I_X3_textLength) {c0 s0 : Nat} (hc0 : c0 ≤ 90) (hs0 : s0 ≤ 4000) : VV c0 s0 23 [(0, .ref b), (1, .ref (sz + 0)), (2, .ref (sz + 75)), (3, .ref (sz + 79)), (4, .int (nI (3 * 0)))] [] M := by
  have key : ∀ M c9 s9, Inv 0 M → c9 ≤ 90 + 0 → s9 ≤ 4000 + 6 * 0 → VV c9 s9 23 [(0, .ref b), (1, .ref (sz + 0)), (2, .ref (sz + 75)), (3, .ref (sz + 79)), (4, .int (nI (3 * 0)))] [] M := by
    refine down_ind (P := fun k => ∀ M c9 s9, Inv k M → c9 ≤ 90 + k → s9 ≤ 4000 + 6 * k → VV c9 s9 23 [(0, .ref b), (1, .ref (sz + 0)), (2, .ref (sz + 75)), (3, .ref (sz + 79)), (4, .int (nI (3 * k)))] [] M) (LL / 3) (fun k hk ih M c9 s9 h1 h2 h3 => ?_) (fun M c9 s9 h1 h2 h3 => ?_)
    · exact law_step h hL (by omega) h2 h3 h1 hmo o0 o1 o2 o3 o4 o5 o6 o7 o8 o9 o10 o11 o12 o13 o14 o15 o16 o17 o18 o19 o20 o21 o22 o23 o24 o25 o26 o27 o28 o29 o30 o31 o32 o33 o34 o35 ih
    · exact law_end h hL (by omega) (by omega) h2 h3
  exact key M c0 s0 hI (by omega) (by omega)
end
