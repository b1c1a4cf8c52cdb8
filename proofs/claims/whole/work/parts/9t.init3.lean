/-! the law's entry: what the tables and the Statement give; the walk of pcs 0 to 21 -/
theorem law_EN {s : State} {b : Nat} (hts : ∀ w ∈ lw_tbl, w.before #[Value.ref b] s = true) (hgv : (Jvm.Cond.and given_1 narrow_1).before #[Value.ref b] s = true) : ∃ (D : va_G) (cy : Nat → ClassId), EN D cy s.heap.size s := by
  have hs := flat_of_before _ hgv
  have wN : ∀ (n : Nat) (w : Cond), lw_tbl[n]? = some w → w.before #[Value.ref b] s = true := fun n w h => hts w (List.mem_of_getElem? h)
  obtain ⟨c0, iS0, hK0⟩ := u_known (C := RX0) (T := TX0) (N := 4) (n := 4) hts inX0 (wN 157 (.instantiable RX0 4) (by decide +kernel))
  obtain ⟨c1, iS1, hK1⟩ := u_known (C := RX1) (T := TX1) (N := 15) (n := 15) hts inX1 (wN 90 (.instantiable RX1 15) (by decide +kernel))
  obtain ⟨c2, iS2, hK2⟩ := u_known (C := RX2) (T := TX2) (N := 9) (n := 9) hts inX2 (wN 82 (.instantiable RX2 9) (by decide +kernel))
  obtain ⟨c3, iS3, hK3⟩ := u_known (C := RX3) (T := TX3) (N := 10) (n := 10) hts inX3 (wN 794 (.instantiable RX3 10) (by decide +kernel))
  obtain ⟨a0, k0, p0, f0, g0, e0⟩ := Cond.arrayClass_spec (wN 178 (.arrayClass .char) (by decide +kernel))
  obtain ⟨a1, k1, p1, f1, g1, e1⟩ := Cond.arrayClass_spec (wN 154 (.arrayClass .int) (by decide +kernel))
  obtain ⟨a2, k2, p2, f2, g2, e2⟩ := Cond.arrayClass_spec (wN 830 (.arrayClass .boolean) (by decide +kernel))
  obtain ⟨p3, a3, k3, d3, -, g3, e3, f3⟩ := Cond.arrayOver_spec (wN 155 (.arrayOver (.object RX1)) (by decide +kernel))
  obtain ⟨a4, k4, p4, f4, g4, e4⟩ := Cond.arrayClass_spec (wN 1184 (.arrayClass .long) (by decide +kernel))
  obtain ⟨s1, -, -, -, q1, -⟩ := Cond.exactly_spec (hs (.exactly (.string RX2 229) "java/lang/String") (by decide +kernel))
  obtain ⟨s2, -, -, -, q2, -⟩ := Cond.exactly_spec (hs (.exactly (.string RX2 236) "java/lang/String") (by decide +kernel))
  obtain ⟨s3, -, -, -, q3, -⟩ := Cond.exactly_spec (hs (.exactly (.string RX2 241) "java/lang/String") (by decide +kernel))
  refine ⟨(fun k => match k with | 0 => c0 | 1 => c1 | 2 => c2 | _ => c3, fun k => match k with | 0 => iS0 | 1 => iS1 | 2 => iS2 | _ => iS3), fun k => match k with | 0 => a0 | 1 => a1 | 2 => a2 | 3 => a3 | _ => a4, fun w hw => tw_warm (State.WarmedH.refl s) (List.mem_filter.mp hw).2 (hts w (List.mem_filter.mp hw).1), ⟨fun k q hq => ?_, fun k q hq => ?_⟩, ⟨⟨s1, vk_R.of (wN 431 (.stringRef RX2 229 "there is no such number") (by decide +kernel)) q1⟩, ⟨s2, vk_R.of (wN 470 (.stringRef RX2 236 "the argument is out of range") (by decide +kernel)) q2⟩, ⟨s3, vk_R.of (wN 497 (.stringRef RX2 241 "the pool does not allow this call now") (by decide +kernel)) q3⟩⟩, fun q hq => ?_, vx_Zqof (wN 417 (.laysStatic Bundle.tN "UNASSIGNED_STACK" Bundle.steD) (by decide +kernel)) (wN 73 (.initialized Bundle.tN) (by decide +kernel)) (hs (.isRef (.static Bundle.tN "UNASSIGNED_STACK" Bundle.steD)) (by decide +kernel)) (fun a h => Nat.not_le.mpr h), vx_Zqof (wN 419 (.laysStatic Bundle.tN "SUPPRESSED_SENTINEL" Bundle.listD) (by decide +kernel)) (wN 73 (.initialized Bundle.tN) (by decide +kernel)) (hs (.isRef (.static Bundle.tN "SUPPRESSED_SENTINEL" Bundle.listD)) (by decide +kernel)) (fun a h => Nat.not_le.mpr h), Nat.le_refl _⟩
  · match k, hq with
    | 0, hq => cases hq; exact hK0
    | 1, hq => cases hq; exact hK1
    | 2, hq => cases hq; exact hK2
    | 3, hq => cases hq; exact hK3
    | k + 4, hq => simp [vwCl] at hq
  · match k, hq with
    | 0, hq => cases hq; exact ⟨fun N z => ⟨(fun k h => by cases h), k0, g0, p0, e0⟩, f0⟩
    | 1, hq => cases hq; exact ⟨fun N z => ⟨(fun k h => by cases h), k1, g1, p1, e1⟩, f1⟩
    | 2, hq => cases hq; exact ⟨fun N z => ⟨(fun k h => by cases h), k2, g2, p2, e2⟩, f2⟩
    | 3, hq => cases hq; exact ⟨fun N z => ⟨(fun k h => by cases h), k3, g3, p3, e3⟩, ⟨k3, p3, g3, e3, d3, f3⟩⟩
    | 4, hq => cases hq; exact ⟨fun N z => ⟨(fun k h => by cases h), k4, g4, p4, e4⟩, f4⟩
    | k + 5, hq => simp [tyL] at hq
  · have h6 : ∀ q ∈ ncs, Cond.not (.castable q.1 q.2) ∈ flatC (Jvm.Cond.and given_1 narrow_1) := by decide +kernel
    exact va_Nc.of (hs _ (h6 q hq))
def wL (sz : Nat) (cy : Nat → ClassId) : Nat → va_E := fun j => if j = 79 then .inl (cy 4, 1, .inr (.inl (fun _ => 0))) else wM (wF sz (PF sz z0) 6 2) (MF sz z0) (sM 6) cy j
theorem law_init {VV : VTN} {D : va_G} {cy : Nat → ClassId} {sz b : Nat} {w : Nat → va_E} (hX : CtxN VV D cy sz RL code room_1 7 false) (kk : VV 80 3664 23 [(0, .ref b), (1, .ref (sz + 0)), (2, .ref (sz + 75)), (3, .ref (sz + 79)), (4, .int (nI (3 * 0)))] [] (wL sz cy) 80) : VV 0 0 0 [(0, .ref b)] [] w 0 := by
  refine un_new (ci := 2) (fs := fsP0) (q9 := 3) hX kC_L8 kN_X2 ki_X2 rfl inW2 tyX2_ok df_X2 ⟨by decide, by decide⟩ dL_law_0 rfl ?_
  refine un_cong hX (w' := wF sz fsP0 0 0 cy) (fun k hk => ?_) ?_
  · have e : k = 0 := by omega
    subst e; rfl
  refine un_dup (q := 4) hX dL_law_3 rfl rfl ?_
  refine un_callP (I := I_X2_init) (As := []) (n := 0) (q9 := 7) hX i_X2 mw_X2_init rfl rfl kl_L_103 rfl rfl (Nat.le_of_ble_eq_true rfl) ⟨by decide, by decide⟩ rfl dL_law_4 ⟨by decide, by decide⟩ rfl ?_
  refine un_astore_n (i := 1) (q := 8) hX dL_law_7 rfl (Nat.le_of_ble_eq_true rfl) rfl ?_
  refine un_wid hX (c9 := 75) (s9 := 851) rfl rfl ?_
  refine un_new (ci := 3) (fs := fsM0) (q9 := 11) hX kC_L104 kN_X3 ki_X3 rfl inW3 tyX3_ok df_X3 ⟨by decide, by decide⟩ dL_law_8 rfl ?_
  refine un_cong hX (w' := wM (wF sz (PF sz z0) 6 2) fsM0 z0 cy) (fun k hk => ?_) ?_
  · unfold wM
    by_cases e : k = 75
    · rw [if_pos e, if_pos e]
    · rw [if_neg e, if_neg e, if_neg (by omega), if_neg (by omega), if_neg (by omega)]
  refine un_dup (q := 12) hX dL_law_11 rfl rfl ?_
  refine un_callP (I := I_X3_init) (As := []) (n := 0) (q9 := 15) hX (i_X3 (wF sz (PF sz z0) 6 2)) mw_X3_init rfl rfl kl_L_106 rfl rfl (Nat.le_of_ble_eq_true rfl) ⟨by decide, by decide⟩ rfl dL_law_12 ⟨by decide, by decide⟩ rfl ?_
  refine un_astore_n (i := 2) (q := 16) hX dL_law_15 rfl (Nat.le_of_ble_eq_true rfl) rfl ?_
  refine un_wid hX (c9 := 79) (s9 := 3663) rfl rfl ?_
  refine un_iconst (v := nI 1) (q := 17) hX dL_law_16 rfl rfl ?_
  refine un_newa (atype := .long) (ty := .long) (ia := 4) (N' := 1) (a0 := (1, .inr (.inl (fun _ => 0)))) (q9 := 19) hX kA_l rfl (fun U cA h => h) (fun _ => rfl) (by decide) rfl (by decide) ⟨by decide, by decide⟩ dL_law_17 rfl ?_
  refine un_cong hX (w' := wL sz cy) (fun _ _ => rfl) ?_
  refine un_astore_n (i := 3) (q := 20) hX dL_law_19 rfl (Nat.le_of_ble_eq_true rfl) rfl ?_
  refine un_iconst (v := nI (3 * 0)) (q := 21) hX dL_law_20 rfl rfl ?_
  exact un_istore (i := 4) (q := 23) hX dL_law_21 (Nat.le_of_ble_eq_true rfl) rfl kk
theorem arrV_c {cA : ClassId} {n : Nat} {f g : Nat → Value} (h : ∀ i, i < n → f i = g i) : arrV cA n f = arrV cA n g := by
  unfold arrV
  congr 2
  funext j
  exact h j.val j.isLt
theorem wL_c {sz k : Nat} {cy : Nat → ClassId} (hk : k < 80) (h : k ≠ 15 ∧ k ≠ 16) : wL sz cy k = cellOf cy sz M0 k := by
  unfold wL wM
  by_cases e79 : k = 79
  · subst e79; rfl
  rw [if_neg e79]
  by_cases e75 : k = 75
  · subst e75
    rw [if_pos rfl, cell3 (by decide)]
    show _ = (Sum.inr (3, MF sz (G0 75)) : va_E)
    rw [G0_z (by decide) (by decide) (by decide)]
  rw [if_neg e75]
  by_cases e76 : k = 76
  · subst e76
    rw [if_pos rfl, cell5 (by decide)]
    rfl
  rw [if_neg e76]
  by_cases e77 : k = 77
  · subst e77
    rw [if_pos rfl, cell6 (by decide)]
    show _ = (Sum.inl (cy 2, ln 77, .inl (G0 77)) : va_E)
    rw [G0_z (by decide) (by decide) (by decide)]
    rfl
  rw [if_neg e77]
  by_cases e78 : k = 78
  · subst e78
    rw [if_pos rfl, cell5 (by decide)]
    show _ = (Sum.inl (cy 1, ln 78, .inl (G0 78)) : va_E)
    rw [G0_z (by decide) (by decide) (by decide)]
    rfl
  rw [if_neg e78]
  by_cases e0 : k = 0
  · subst e0
    rw [wF_0, cell2 (by decide)]
    show _ = (Sum.inr (2, PF sz (G0 0)) : va_E)
    rw [G0_z (by decide) (by decide) (by decide)]
  exact wF_e ⟨e0, h.1, h.2⟩
theorem wL_wl {sz : Nat} {cy : Nat → ClassId} {D : va_G} {H : Heap} (hP : va_P D vwCl (wlN sz (wL sz cy) 80) H) : va_P D vwCl (wl cy sz M0) H := by
  intro k q hq
  obtain ⟨hk, rfl⟩ := wl_get' hq
  have h1 := hP k _ (wlN_get hk)
  by_cases e15 : k = 15
  · subst e15
    have h2 : H[sz + 15]? = some (vp_cell (cy 3) (6, .inr (.inr (.inr (.inr (fA sz 6)))))) := h1
    show H[sz + 15]? = some (vp_cell (cy 3) (6, .inr (.inr (.inr (.inr (fun i => some (sz + (19 + 7 * i))))))))
    rw [h2, vp_cell_q, vp_cell_q]
    congr 1
  by_cases e16 : k = 16
  · subst e16
    have h2 : H[sz + 16]? = some (vp_cell (cy 3) (2, .inr (.inr (.inr (.inr (fB sz 2)))))) := h1
    show H[sz + 16]? = some (vp_cell (cy 3) (2, .inr (.inr (.inr (.inr (fun i => some (sz + (61 + 7 * i))))))))
    rw [h2, vp_cell_q, vp_cell_q]
    congr 1
  rw [wL_c hk ⟨e15, e16⟩] at h1
  exact h1
