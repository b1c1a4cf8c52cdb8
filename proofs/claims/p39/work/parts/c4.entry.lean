/-! the law's entry: what the tables and the Statement give; the object is made -/
theorem law_EN {s : State} {b : Nat} (hts : ∀ w ∈ lw_tbl, w.before #[Value.ref b] s = true) (hgv : (Jvm.Cond.and given_1 narrow_1).before #[Value.ref b] s = true) : ∃ (D : va_G) (cy : Nat → ClassId), EN D cy s.heap.size s := by
  have hs := flat_of_before _ hgv
  have wN : ∀ (n : Nat) (w : Cond), lw_tbl[n]? = some w → w.before #[Value.ref b] s = true := fun n w h => hts w (List.mem_of_getElem? h)
  obtain ⟨c0, iS0, hK0⟩ := u_known (C := RX0) (T := TX0) (N := 4) (n := 4) hts inX0 (wN 100 (.instantiable RX0 4) (by decide +kernel))
  obtain ⟨c1, iS1, hK1⟩ := u_known (C := RX1) (T := TX1) (N := 15) (n := 15) hts inX1 (wN 33 (.instantiable RX1 15) (by decide +kernel))
  obtain ⟨c2, iS2, hK2⟩ := u_known (C := RX2) (T := TX2) (N := 9) (n := 9) hts inX2 (wN 25 (.instantiable RX2 9) (by decide +kernel))
  obtain ⟨a0, k0, p0, f0, g0, e0⟩ := Cond.arrayClass_spec (wN 118 (.arrayClass .char) (by decide +kernel))
  obtain ⟨a1, k1, p1, f1, g1, e1⟩ := Cond.arrayClass_spec (wN 97 (.arrayClass .int) (by decide +kernel))
  obtain ⟨p3, a3, k3, d3, -, g3, e3, f3⟩ := Cond.arrayOver_spec (wN 98 (.arrayOver (.object RX1)) (by decide +kernel))
  obtain ⟨s1, -, -, -, q1, -⟩ := Cond.exactly_spec (hs (.exactly (.string RX2 229) "java/lang/String") (by decide +kernel))
  obtain ⟨s2, -, -, -, q2, -⟩ := Cond.exactly_spec (hs (.exactly (.string RX2 236) "java/lang/String") (by decide +kernel))
  obtain ⟨s3, -, -, -, q3, -⟩ := Cond.exactly_spec (hs (.exactly (.string RX2 241) "java/lang/String") (by decide +kernel))
  refine ⟨(fun k => match k with | 0 => c0 | 1 => c1 | _ => c2, fun k => match k with | 0 => iS0 | 1 => iS1 | _ => iS2), fun k => match k with | 0 => a0 | 1 => a1 | _ => a3, fun w hw => tw_warm (State.WarmedH.refl s) (List.mem_filter.mp hw).2 (hts w (List.mem_filter.mp hw).1), ⟨fun k q hq => ?_, fun k q hq => ?_⟩, ⟨⟨s1, vk_R.of (wN 198 (.stringRef RX2 229 "there is no such number") (by decide +kernel)) q1⟩, ⟨s2, vk_R.of (wN 237 (.stringRef RX2 236 "the argument is out of range") (by decide +kernel)) q2⟩, ⟨s3, vk_R.of (wN 266 (.stringRef RX2 241 "the pool does not allow this call now") (by decide +kernel)) q3⟩⟩, (fun q hq => absurd hq (List.not_mem_nil)), vx_Zqof (wN 184 (.laysStatic Bundle.tN "UNASSIGNED_STACK" Bundle.steD) (by decide +kernel)) (wN 16 (.initialized Bundle.tN) (by decide +kernel)) (hs (.isRef (.static Bundle.tN "UNASSIGNED_STACK" Bundle.steD)) (by decide +kernel)) (fun a h => Nat.not_le.mpr h), vx_Zqof (wN 186 (.laysStatic Bundle.tN "SUPPRESSED_SENTINEL" Bundle.listD) (by decide +kernel)) (wN 16 (.initialized Bundle.tN) (by decide +kernel)) (hs (.isRef (.static Bundle.tN "SUPPRESSED_SENTINEL" Bundle.listD)) (by decide +kernel)) (fun a h => Nat.not_le.mpr h), Nat.le_refl _⟩
  · match k, hq with
    | 0, hq => cases hq; exact hK0
    | 1, hq => cases hq; exact hK1
    | 2, hq => cases hq; exact hK2
    | k + 3, hq => simp [vwCl] at hq
  · match k, hq with
    | 0, hq => cases hq; exact ⟨fun N z => ⟨(fun k h => by cases h), k0, g0, p0, e0⟩, f0⟩
    | 1, hq => cases hq; exact ⟨fun N z => ⟨(fun k h => by cases h), k1, g1, p1, e1⟩, f1⟩
    | 2, hq => cases hq; exact ⟨fun N z => ⟨(fun k h => by cases h), k3, g3, p3, e3⟩, ⟨k3, p3, g3, e3, d3, f3⟩⟩
    | k + 3, hq => simp [tyL] at hq
theorem law_init {VV : VTN} {D : va_G} {cy : Nat → ClassId} {sz b : Nat} {w : Nat → va_E} (hX : CtxN VV D cy sz RL code room_1 13 false) (kk : VV 75 851 8 [(0, .ref b), (1, .ref (sz + 0))] [] (wF sz (PF sz z0) 6 2 cy) 75) : VV 0 0 0 [(0, .ref b)] [] w 0 := by
  refine un_new (ci := 2) (fs := fsP0) (q9 := 3) hX kC_L12 kN_X2 ki_X2 rfl inW2 tyX2_ok df_X2 ⟨by decide, by decide⟩ dL_law_0 rfl ?_
  refine un_cong hX (w' := wF sz fsP0 0 0 cy) (fun k hk => ?_) ?_
  · have e : k = 0 := by omega
    subst e; rfl
  refine un_dup (q := 4) hX dL_law_3 rfl rfl ?_
  refine un_callP (I := I_X2_init) (As := []) (n := 0) (q9 := 7) hX i_X2 mw_X2_init rfl rfl kl_L_111 rfl rfl (Nat.le_of_ble_eq_true rfl) ⟨by decide, by decide⟩ rfl dL_law_4 ⟨by decide, by decide⟩ rfl ?_
  refine un_astore_n (i := 1) (q := 8) hX dL_law_7 rfl (Nat.le_of_ble_eq_true rfl) rfl ?_
  exact un_wid hX (c9 := 75) (s9 := 851) rfl rfl kk
theorem wF_wl {sz : Nat} {cy : Nat → ClassId} {D : va_G} {H : Heap} (hP : va_P D vwCl (wlN sz (wF sz (PF sz z0) 6 2 cy) 75) H) : va_P D vwCl (wl cy sz M0) H := by
  intro k q hq
  obtain ⟨hk, rfl⟩ := wl_get' hq
  have h1 := hP k _ (wlN_get hk)
  by_cases e15 : k = 15
  · subst e15
    have h2 : H[sz + 15]? = some (vp_cell (cy 2) (6, .inr (.inr (.inr (.inr (fA sz 6)))))) := h1
    show H[sz + 15]? = some (vp_cell (cy 2) (6, .inr (.inr (.inr (.inr (fun i => some (sz + (19 + 7 * i))))))))
    rw [h2, vp_cell_q, vp_cell_q]
    congr 1
  by_cases e16 : k = 16
  · subst e16
    have h2 : H[sz + 16]? = some (vp_cell (cy 2) (2, .inr (.inr (.inr (.inr (fB sz 2)))))) := h1
    show H[sz + 16]? = some (vp_cell (cy 2) (2, .inr (.inr (.inr (.inr (fun i => some (sz + (61 + 7 * i))))))))
    rw [h2, vp_cell_q, vp_cell_q]
    congr 1
  by_cases e0 : k = 0
  · subst e0
    rw [wF_0] at h1
    rw [cell2 (by decide)]
    show _
    have e : PF sz (M0.1 0) = PF sz z0 := by
      show PF sz (G0 0) = _
      rw [G0_z (by decide) (by decide) (by decide)]
    rw [e]
    exact h1
  rw [wF_e ⟨e0, e15, e16⟩] at h1
  exact h1
