/-! the constructors of pool and model -/
def fA (sz a : Nat) : Nat → Option Nat := fun i => if i < a then some (sz + (19 + 7 * i)) else none
def fB (sz b : Nat) : Nat → Option Nat := fun i => if i < b then some (sz + (61 + 7 * i)) else none
theorem fA_0 {sz : Nat} : fA sz 0 = fun _ => none := by funext i; exact if_neg (Nat.not_lt_zero i)
theorem fB_0 {sz : Nat} : fB sz 0 = fun _ => none := by funext i; exact if_neg (Nat.not_lt_zero i)
theorem fA_s {sz k : Nat} : va_up (fA sz k) k (some (sz + (19 + 7 * k))) = fA sz (k + 1) := by
  funext i
  show (if i = k then some (sz + (19 + 7 * k)) else if i < k then some (sz + (19 + 7 * i)) else none) = if i < k + 1 then some (sz + (19 + 7 * i)) else none
  by_cases e : i = k
  · subst e; rw [if_pos rfl, if_pos (Nat.lt_succ_self i)]
  · rw [if_neg e]
    by_cases e2 : i < k
    · rw [if_pos e2, if_pos (by omega : i < k + 1)]
    · rw [if_neg e2, if_neg (by omega : ¬ i < k + 1)]
theorem fB_s {sz k : Nat} : va_up (fB sz k) k (some (sz + (61 + 7 * k))) = fB sz (k + 1) := by
  funext i
  show (if i = k then some (sz + (61 + 7 * k)) else if i < k then some (sz + (61 + 7 * i)) else none) = if i < k + 1 then some (sz + (61 + 7 * i)) else none
  by_cases e : i = k
  · subst e; rw [if_pos rfl, if_pos (Nat.lt_succ_self i)]
  · rw [if_neg e]
    by_cases e2 : i < k
    · rw [if_pos e2, if_pos (by omega : i < k + 1)]
    · rw [if_neg e2, if_neg (by omega : ¬ i < k + 1)]
/-- the pool and its cells while they are made -/
def wF (sz : Nat) (fs : List Value) (a b : Nat) (cy : Nat → ClassId) : Nat → va_E := fun j => if j = 0 then .inr (2, fs) else if j = 15 then .inl (cy 2, 6, .inr (.inr (.inr (.inr (fA sz a))))) else if j = 16 then .inl (cy 2, 2, .inr (.inr (.inr (.inr (fB sz b))))) else cellOf cy sz M0 j
theorem wF_0 {sz a b : Nat} {fs : List Value} {cy : Nat → ClassId} : wF sz fs a b cy 0 = .inr (2, fs) := rfl
theorem wF_15 {sz a b : Nat} {fs : List Value} {cy : Nat → ClassId} : wF sz fs a b cy 15 = .inl (cy 2, 6, .inr (.inr (.inr (.inr (fA sz a))))) := rfl
theorem wF_16 {sz a b : Nat} {fs : List Value} {cy : Nat → ClassId} : wF sz fs a b cy 16 = .inl (cy 2, 2, .inr (.inr (.inr (.inr (fB sz b))))) := rfl
theorem wF_e {sz a b k : Nat} {fs : List Value} {cy : Nat → ClassId} (h : k ≠ 0 ∧ k ≠ 15 ∧ k ≠ 16) : wF sz fs a b cy k = cellOf cy sz M0 k := by
  unfold wF; rw [if_neg h.1, if_neg h.2.1, if_neg h.2.2]
theorem wF_put {sz a b N : Nat} {fs fs' : List Value} {cy : Nat → ClassId} : ∀ k, k < N → (if k = 0 then (Sum.inr (2, fs') : va_E) else wF sz fs a b cy k) = wF sz fs' a b cy k := by
  intro k _
  unfold wF
  by_cases e1 : k = 0
  · rw [if_pos e1, if_pos e1]
  · rw [if_neg e1, if_neg e1, if_neg e1]
theorem kd_no {r : Nat} (h : kd r = 1) : r ≠ 0 ∧ r ≠ 15 ∧ r ≠ 16 ∧ r ≠ 18 ∧ r ≠ 76 := by
  refine ⟨?_, ?_, ?_, ?_, ?_⟩ <;> (intro e; subst e; revert h; decide)
theorem kd_no5 {r : Nat} (h : kd r = 5) : r ≠ 0 ∧ r ≠ 15 ∧ r ≠ 16 ∧ r ≠ 18 ∧ kd r ≠ 1 := by
  refine ⟨?_, ?_, ?_, ?_, ?_⟩
  all_goals first | (intro e; subst e; revert h; decide) | (rw [h]; decide)
theorem wF_st {sz r a b : Nat} {fs : List Value} {cy : Nat → ClassId} (h : kd r = 1) : wF sz fs a b cy r = .inr (1, SF sz r gS) := by
  have h2 := kd_no h
  rw [wF_e ⟨h2.1, h2.2.1, h2.2.2.1⟩, cell1 h]
  show (Sum.inr (1, SF sz r (G0 r)) : va_E) = _
  rw [G0_1 h]
theorem wS_in {cy : Nat → ClassId} {w : Nat → va_E} {r N : Nat} {fs : List Value} : ∀ k, k < N → (if k = r then (Sum.inr (1, fs) : va_E) else w k) = wS cy w r fs 0 k := by
  intro k _
  unfold wS
  by_cases e : k = r
  · rw [if_pos e, if_pos e]
  · rw [if_neg e, if_neg e, if_neg (by omega)]
theorem wS_out {sz r a b : Nat} {fs : List Value} {cy : Nat → ClassId} (hB : isB r) : ∀ k, k < r + 1 + 6 → wS cy (wF sz fs a b cy) r (SF sz r gS) 6 k = wF sz fs a b cy k := by
  intro k hk
  obtain ⟨h1, h2, h3, h4⟩ := isB_kd hB
  unfold wS
  by_cases e : k = r
  · subst e; rw [if_pos rfl, wF_st h3]
  · rw [if_neg e]
    by_cases e2 : r < k ∧ k ≤ r + 6
    · rw [if_pos e2]
      obtain ⟨x, rfl⟩ : ∃ x, k = r + (x + 1) := ⟨k - r - 1, by omega⟩
      obtain ⟨g1, g2⟩ := h4 x (by omega)
      have g3 := kd_no5 g1
      have g4 : r + (x + 1) ≠ 76 := by omega
      rw [wF_e ⟨g3.1, g3.2.1, g3.2.2.1⟩, cell5 g1, g2]
      show (Sum.inl (cy 1, _, .inl z0) : va_E) = Sum.inl (cy 1, _, .inl (G0 (r + (x + 1))))
      rw [G0_z g4 g3.2.2.2.2 g3.2.2.2.1]
      by_cases e5 : x = 5
      · rw [if_pos e5, if_pos (by omega)]
      · rw [if_neg e5, if_neg (by omega)]
    · rw [if_neg e2]
theorem wF_a15 {sz N : Nat} {fs : List Value} {cy : Nat → ClassId} : ∀ k, k < N → (if k = 15 then (Sum.inl (cy 2, 6, .inr (.inr (.inr (.inr (fun _ => none))))) : va_E) else wF sz fs 0 0 cy k) = wF sz fs 0 0 cy k := by
  intro k _
  by_cases e : k = 15
  · subst e; rw [if_pos rfl, wF_15, fA_0]
  · rw [if_neg e]
theorem wF_a16 {sz N : Nat} {fs : List Value} {cy : Nat → ClassId} : ∀ k, k < N → (if k = 16 then (Sum.inl (cy 2, 2, .inr (.inr (.inr (.inr (fun _ => none))))) : va_E) else wF sz fs 0 0 cy k) = wF sz fs 0 0 cy k := by
  intro k _
  by_cases e : k = 16
  · subst e; rw [if_pos rfl, wF_16, fB_0]
  · rw [if_neg e]
theorem wF_a17 {sz N : Nat} {fs : List Value} {cy : Nat → ClassId} : ∀ k, k < N → (if k = 17 then (Sum.inl (cy 0, 80, .inl z0) : va_E) else wF sz fs 0 0 cy k) = wF sz fs 0 0 cy k := by
  intro k _
  by_cases e : k = 17
  · subst e
    rw [if_pos rfl, wF_e (by decide), cell4 (by decide)]
    show _ = (Sum.inl (cy 0, ln 17, .inl (G0 17)) : va_E)
    rw [G0_z (by decide) (by decide) (by decide)]
    rfl
  · rw [if_neg e]
theorem wF_r18 {sz N : Nat} {fs : List Value} {cy : Nat → ClassId} : ∀ k, k < N → wR (wF sz fs 0 0 cy) 18 (RF gR) k = wF sz fs 0 0 cy k := by
  intro k _
  unfold wR
  by_cases e : k = 18
  · subst e
    rw [if_pos rfl, wF_e (by decide), cell0 (by decide)]
    rfl
  · rw [if_neg e]
theorem wF_p15 {sz k b N : Nat} {fs : List Value} {cy : Nat → ClassId} : ∀ j, j < N → (if j = 15 then (Sum.inl (cy 2, 6, .inr (.inr (.inr (.inr (va_up (fA sz k) k (some (sz + (19 + 7 * k)))))))) : va_E) else wF sz fs k b cy j) = wF sz fs (k + 1) b cy j := by
  intro j _
  unfold wF
  by_cases e : j = 15
  · subst e; rw [if_pos rfl, fA_s]; rfl
  · rw [if_neg e, if_neg e, if_neg e]
theorem wF_p16 {sz k a N : Nat} {fs : List Value} {cy : Nat → ClassId} : ∀ j, j < N → (if j = 16 then (Sum.inl (cy 2, 2, .inr (.inr (.inr (.inr (va_up (fB sz k) k (some (sz + (61 + 7 * k)))))))) : va_E) else wF sz fs a k cy j) = wF sz fs a (k + 1) cy j := by
  intro j _
  unfold wF
  by_cases e : j = 16
  · subst e; rw [if_pos rfl, fB_s]; rfl
  · rw [if_neg e, if_neg e, if_neg e]
def fsP0 : List Value := [.null, .null, .null, .int 0, .null, .int 0, .null, .int 0, .null]
theorem df_X1 : ∀ j, j < 15 → defaultValue (tyX1 j) = vp_V fsD j := by
  intro j hj
  match j, hj with
  | 0, _ => rfl
  | 1, _ => rfl
  | 2, _ => rfl
  | 3, _ => rfl
  | 4, _ => rfl
  | 5, _ => rfl
  | 6, _ => rfl
  | 7, _ => rfl
  | 8, _ => rfl
  | 9, _ => rfl
  | 10, _ => rfl
  | 11, _ => rfl
  | 12, _ => rfl
  | 13, _ => rfl
  | 14, _ => rfl
  | k + 15, h => omega
theorem df_X0 : ∀ j, j < 4 → defaultValue (tyX0 j) = vp_V fsR j := by
  intro j hj
  match j, hj with
  | 0, _ => rfl
  | 1, _ => rfl
  | 2, _ => rfl
  | 3, _ => rfl
  | k + 4, h => omega
theorem df_X2 : ∀ j, j < 9 → defaultValue (tyX2 j) = vp_V fsP0 j := by
  intro j hj
  match j, hj with
  | 0, _ => rfl
  | 1, _ => rfl
  | 2, _ => rfl
  | 3, _ => rfl
  | 4, _ => rfl
  | 5, _ => rfl
  | 6, _ => rfl
  | 7, _ => rfl
  | 8, _ => rfl
  | k + 9, h => omega
theorem un_N {VV : VTN} {cells slots pc N N' : Nat} {L : List (Nat × Value)} {st : List Value} {w : Nat → va_E} (e : N = N') (kk : VV cells slots pc L st w N') : VV cells slots pc L st w N := by rw [e]; exact kk
theorem isB19 {k : Nat} (h : k < 6) : isB (19 + 7 * k) := by
  have e : ∀ k, k < 6 → isB (19 + 7 * k) := by unfold isB; decide
  exact e k h
theorem isB61 {k : Nat} (h : k < 2) : isB (61 + 7 * k) := by
  have e : ∀ k, k < 2 → isB (61 + 7 * k) := by unfold isB; decide
  exact e k h
theorem i_X2 {sz : Nat} : DoesN sz I_X2_init [.ref (sz + 0)] (wF sz fsP0 0 0) 1 74 842 (wF sz (PF sz z0) 6 2) 75 := by
  refine DoesN.of (L := [(0, .ref (sz + 0))]) (by decide) rfl rfl (Nat.le_of_ble_eq_true rfl) rfl ⟨rfl, (by simp), trivial⟩ fun VV D cy hE => ?_
  have hX := hE.c
  refine un_aload_n (i := 0) (q := 1) hX dX2_init_0 rfl rfl rfl ?_
  refine un_obj (q9 := 4) hX kO_2 kO_i kO_c ⟨Nat.le_of_ble_eq_true rfl, Nat.le_of_ble_eq_true rfl⟩ dX2_init_1 rfl ?_
  refine un_aload_n (i := 0) (q := 5) hX dX2_init_4 rfl rfl rfl ?_
  refine un_new (ci := 1) (fs := fsD) (q9 := 8) hX kC_29 kN_X1 ki_X1 rfl inW1 tyX1_ok df_X1 ⟨by show (_ : Nat) ≤ 74; omega, by show (_ : Nat) ≤ 842; omega⟩ dX2_init_5 rfl ?_
  refine un_cong hX (wS_in (cy := cy)) ?_
  refine un_dup (q := 9) hX dX2_init_8 rfl rfl ?_
  refine un_callN (I := I_X1_init) (As := []) (n := 0) (host := RX2) (q9 := 12) hX (i_X1 (r := 1) (wF sz fsP0 0 0)) mw_X1_init rfl rfl kl_X2_11 rfl rfl (Nat.le_of_ble_eq_true rfl) ⟨by decide, by decide⟩ rfl dX2_init_9 ⟨by show (_ : Nat) ≤ 74; omega, by show (_ : Nat) ≤ 842; omega⟩ rfl ?_
  refine un_cong hX (wS_out (by unfold isB; decide)) ?_
  refine un_N (N' := 8) (by omega) ?_
  refine un_wid hX (c9 := 7) (s9 := 75) (by omega) (by omega) ?_
  refine un_putF (k := 0) (j := 0) (ci := 2) (ty := (.object "RemoteMemoryPool$State")) (q9 := 15) hX (by decide) wF_0 rfl inW2 tyX2_ok nmX2 (by decide) rfl rfl rfl rfl rfl (Nat.le_of_ble_eq_true rfl) kf_X2_12 dX2_init_12 rfl ?_
  refine un_cong hX wF_put ?_
  refine un_aload_n (i := 0) (q := 16) hX dX2_init_15 rfl rfl rfl ?_
  refine un_new (ci := 1) (fs := fsD) (q9 := 19) hX kC_29 kN_X1 ki_X1 rfl inW1 tyX1_ok df_X1 ⟨by show (_ : Nat) ≤ 74; omega, by show (_ : Nat) ≤ 842; omega⟩ dX2_init_16 rfl ?_
  refine un_cong hX (wS_in (cy := cy)) ?_
  refine un_dup (q := 20) hX dX2_init_19 rfl rfl ?_
  refine un_callN (I := I_X1_init) (As := []) (n := 0) (host := RX2) (q9 := 23) hX (i_X1 (r := 8) (wF sz (fsP0.set 0 (.ref (sz + 1))) 0 0)) mw_X1_init rfl rfl kl_X2_11 rfl rfl (Nat.le_of_ble_eq_true rfl) ⟨by decide, by decide⟩ rfl dX2_init_20 ⟨by show (_ : Nat) ≤ 74; omega, by show (_ : Nat) ≤ 842; omega⟩ rfl ?_
  refine un_cong hX (wS_out (by unfold isB; decide)) ?_
  refine un_N (N' := 15) (by omega) ?_
  refine un_wid hX (c9 := 14) (s9 := 150) (by omega) (by omega) ?_
  refine un_putF (k := 0) (j := 1) (ci := 2) (ty := (.object "RemoteMemoryPool$State")) (q9 := 26) hX (by decide) wF_0 rfl inW2 tyX2_ok nmX2 (by decide) rfl rfl rfl rfl rfl (Nat.le_of_ble_eq_true rfl) kf_X2_16 dX2_init_23 rfl ?_
  refine un_cong hX wF_put ?_
  refine un_aload_n (i := 0) (q := 27) hX dX2_init_26 rfl rfl rfl ?_
  refine un_bipush (v := nI 6) (q := 29) hX dX2_init_27 rfl rfl ?_
  refine un_anew (N' := 6) (ia := 2) (q9 := 32) hX kC_29 rfl (by decide) rfl (by decide) ⟨by show (_ : Nat) ≤ 74; omega, by show (_ : Nat) ≤ 842; omega⟩ dX2_init_29 rfl ?_
  refine un_cong hX wF_a15 ?_
  refine un_N (N' := 16) rfl ?_
  refine un_putF (k := 0) (j := 2) (ci := 2) (ty := (.array (.object "RemoteMemoryPool$State"))) (q9 := 35) hX (by decide) wF_0 rfl inW2 tyX2_ok nmX2 (by decide) rfl rfl rfl rfl rfl (Nat.le_of_ble_eq_true rfl) kf_X2_19 dX2_init_32 rfl ?_
  refine un_cong hX wF_put ?_
  refine un_aload_n (i := 0) (q := 36) hX dX2_init_35 rfl rfl rfl ?_
  refine un_iconst (v := (0 : Int32)) (q := 37) hX dX2_init_36 rfl rfl ?_
  refine un_put (k := 0) (j := 3) (ci := 2) (ty := .int) (q9 := 40) hX (by decide) wF_0 rfl inW2 tyX2_ok nmX2 (by decide) rfl rfl rfl rfl (Nat.le_of_ble_eq_true rfl) kf_X2_23 dX2_init_37 rfl ?_
  refine un_cong hX wF_put ?_
  refine un_aload_n (i := 0) (q := 41) hX dX2_init_40 rfl rfl rfl ?_
  refine un_iconst (v := nI 2) (q := 42) hX dX2_init_41 rfl rfl ?_
  refine un_anew (N' := 2) (ia := 2) (q9 := 45) hX kC_29 rfl (by decide) rfl (by decide) ⟨by show (_ : Nat) ≤ 74; omega, by show (_ : Nat) ≤ 842; omega⟩ dX2_init_42 rfl ?_
  refine un_cong hX wF_a16 ?_
  refine un_N (N' := 17) rfl ?_
  refine un_putF (k := 0) (j := 4) (ci := 2) (ty := (.array (.object "RemoteMemoryPool$State"))) (q9 := 48) hX (by decide) wF_0 rfl inW2 tyX2_ok nmX2 (by decide) rfl rfl rfl rfl rfl (Nat.le_of_ble_eq_true rfl) kf_X2_27 dX2_init_45 rfl ?_
  refine un_cong hX wF_put ?_
  refine un_aload_n (i := 0) (q := 49) hX dX2_init_48 rfl rfl rfl ?_
  refine un_iconst (v := (0 : Int32)) (q := 50) hX dX2_init_49 rfl rfl ?_
  refine un_put (k := 0) (j := 5) (ci := 2) (ty := .int) (q9 := 53) hX (by decide) wF_0 rfl inW2 tyX2_ok nmX2 (by decide) rfl rfl rfl rfl (Nat.le_of_ble_eq_true rfl) kf_X2_30 dX2_init_50 rfl ?_
  refine un_cong hX wF_put ?_
  refine un_aload_n (i := 0) (q := 54) hX dX2_init_53 rfl rfl rfl ?_
  refine un_bipush (v := nI 80) (q := 56) hX dX2_init_54 rfl rfl ?_
  refine un_newa (atype := .char) (ty := .char) (ia := 0) (N' := 80) (a0 := (80, .inl z0)) (q9 := 58) hX kA_c rfl (fun U cA h => h) (fun _ => rfl) (by decide) rfl (by decide) ⟨by show (_ : Nat) ≤ 74; omega, by show (_ : Nat) ≤ 842; omega⟩ dX2_init_56 rfl ?_
  refine un_cong hX wF_a17 ?_
  refine un_N (N' := 18) rfl ?_
  refine un_putF (k := 0) (j := 6) (ci := 2) (ty := (.array .char)) (q9 := 61) hX (by decide) wF_0 rfl inW2 tyX2_ok nmX2 (by decide) rfl rfl rfl rfl rfl (Nat.le_of_ble_eq_true rfl) kf_X2_33 dX2_init_58 rfl ?_
  refine un_cong hX wF_put ?_
  refine un_aload_n (i := 0) (q := 62) hX dX2_init_61 rfl rfl rfl ?_
  refine un_iconst (v := (0 : Int32)) (q := 63) hX dX2_init_62 rfl rfl ?_
  refine un_put (k := 0) (j := 7) (ci := 2) (ty := .int) (q9 := 66) hX (by decide) wF_0 rfl inW2 tyX2_ok nmX2 (by decide) rfl rfl rfl rfl (Nat.le_of_ble_eq_true rfl) kf_X2_37 dX2_init_63 rfl ?_
  refine un_cong hX wF_put ?_
  refine un_aload_n (i := 0) (q := 67) hX dX2_init_66 rfl rfl rfl ?_
  refine un_new (ci := 0) (fs := fsR) (q9 := 70) hX kC_240 kN_X0 ki_X0 rfl inW0 tyX0_ok df_X0 ⟨by show (_ : Nat) ≤ 74; omega, by show (_ : Nat) ≤ 842; omega⟩ dX2_init_67 rfl ?_
  refine un_dup (q := 71) hX dX2_init_70 rfl rfl ?_
  let fs9 : List Value := (((((((fsP0.set 0 (.ref (sz + 1))).set 1 (.ref (sz + 8))).set 2 (.ref (sz + 15))).set 3 (.int 0)).set 4 (.ref (sz + 16))).set 5 (.int 0)).set 6 (.ref (sz + 17))).set 7 (.int 0)
  refine un_callN (I := I_X0_init) (As := []) (n := 0) (host := RX2) (q9 := 74) hX (i_X0 (r := 18) (wF sz fs9 0 0)) mw_X0_init rfl rfl kl_X2_42 rfl rfl (Nat.le_of_ble_eq_true rfl) ⟨by decide, by decide⟩ rfl dX2_init_71 ⟨by show (_ : Nat) ≤ 74; omega, by show (_ : Nat) ≤ 842; omega⟩ rfl ?_
  refine un_cong hX wF_r18 ?_
  refine un_N (N' := 19) rfl ?_
  refine un_wid hX (c9 := 18) (s9 := 242) rfl rfl ?_
  refine un_putF (k := 0) (j := 8) (ci := 2) (ty := (.object "RemoteMemoryPool$CommandReader")) (q9 := 77) hX (by decide) wF_0 rfl inW2 tyX2_ok nmX2 (by decide) rfl rfl rfl rfl rfl (Nat.le_of_ble_eq_true rfl) kf_X2_43 dX2_init_74 rfl ?_
  refine un_cong hX wF_put ?_
  refine un_cong hX (w' := wF sz (PF sz z0) 0 0 cy) (fun _ _ => rfl) ?_
  refine un_iconst (v := nI 0) (q := 78) hX dX2_init_77 rfl rfl ?_
  refine un_istore_n (i := 1) (q := 79) hX dX2_init_78 rfl (Nat.le_of_ble_eq_true rfl) rfl ?_
  have loop2 : VV 60 692 106 [(0, .ref (sz + 0)), (1, .int (nI 0))] [] (wF sz (PF sz z0) 6 0 cy) 61 := by
    refine down_ind (P := fun k => VV (60 + 7 * k) (692 + 75 * k) 106 [(0, .ref (sz + 0)), (1, .int (nI k))] [] (wF sz (PF sz z0) 6 k cy) (61 + 7 * k)) 2 (fun k hk ih => ?_) ?_
    · refine un_iload_n (i := 1) (q := 107) hX dX2_init_106 rfl rfl rfl ?_
      refine un_iconst (v := nI 2) (q := 108) hX dX2_init_107 rfl rfl ?_
      refine un_icmp_ge (tgt := 130) (q := 111) hX dX2_init_108 (by decide) rfl (fun q => absurd q (ni_nle hk (by decide))) (fun _ => ?_)
      refine un_aload_n (i := 0) (q := 112) hX dX2_init_111 rfl rfl rfl ?_
      refine un_get (k := 0) (j := 4) (ci := 2) (v := .ref (sz + 16)) (q9 := 115) hX (by omega) wF_0 rfl inW2 (by decide) rfl kf_X2_27 dX2_init_112 rfl ?_
      refine un_iload_n (i := 1) (q := 116) hX dX2_init_115 rfl rfl rfl ?_
      refine un_new (ci := 1) (fs := fsD) (q9 := 119) hX kC_29 kN_X1 ki_X1 rfl inW1 tyX1_ok df_X1 ⟨by show (_ : Nat) ≤ 74; omega, by show (_ : Nat) ≤ 842; omega⟩ dX2_init_116 rfl ?_
      refine un_cong hX (wS_in (cy := cy)) ?_
      refine un_dup (q := 120) hX dX2_init_119 rfl rfl ?_
      refine un_callN (I := I_X1_init) (As := []) (n := 0) (host := RX2) (q9 := 123) hX (i_X1 (r := (61 + 7 * k)) (wF sz (PF sz z0) 6 k)) mw_X1_init rfl rfl kl_X2_11 rfl rfl (Nat.le_of_ble_eq_true rfl) ⟨by decide, by decide⟩ rfl dX2_init_120 ⟨by show (_ : Nat) ≤ 74; omega, by show (_ : Nat) ≤ 842; omega⟩ rfl ?_
      refine un_cong hX (wS_out (isB61 hk)) ?_
      refine un_N (N' := (61 + 7 * (k + 1))) (by omega) ?_
      refine un_wid hX (c9 := (60 + 7 * (k + 1))) (s9 := (692 + 75 * (k + 1))) (by omega) (by omega) ?_
      refine un_aast (k := 16) (kq := 61 + 7 * k) (ci := 1) (ia := 2) (n := 2) (i := k) (f := fB sz k) (q9 := 124) hX (by omega) wF_16 rfl (by omega) (wF_st (isB_kd (isB61 hk)).2.2.1) rfl rfl hk (by decide) dX2_init_123 rfl ?_
      refine un_cong hX wF_p16 ?_
      refine un_iinc (i := 1) (v := nI (k + 1)) (q := 127) hX dX2_init_124 rfl (ni_inc _) (Nat.le_of_ble_eq_true rfl) rfl ?_
      exact un_goto (tgt := 106) hX dX2_init_127 (by decide) ih
    · refine un_iload_n (i := 1) (q := 107) hX dX2_init_106 rfl rfl rfl ?_
      refine un_iconst (v := nI 2) (q := 108) hX dX2_init_107 rfl rfl ?_
      refine un_icmp_ge (tgt := 130) (q := 111) hX dX2_init_108 (by decide) rfl (fun _ => ?_) (fun q => absurd (ni_le (by decide) (by decide)) q)
      exact un_ret hE (by decide) (by decide) dX2_init_130 rfl (fun _ _ => rfl)
  refine down_ind (P := fun k => VV (18 + 7 * k) (242 + 75 * k) 79 [(0, .ref (sz + 0)), (1, .int (nI k))] [] (wF sz (PF sz z0) k 0 cy) (19 + 7 * k)) 6 (fun k hk ih => ?_) ?_
  · refine un_iload_n (i := 1) (q := 80) hX dX2_init_79 rfl rfl rfl ?_
    refine un_bipush (v := nI 6) (q := 82) hX dX2_init_80 rfl rfl ?_
    refine un_icmp_ge (tgt := 104) (q := 85) hX dX2_init_82 (by decide) rfl (fun q => absurd q (ni_nle hk (by decide))) (fun _ => ?_)
    refine un_aload_n (i := 0) (q := 86) hX dX2_init_85 rfl rfl rfl ?_
    refine un_get (k := 0) (j := 2) (ci := 2) (v := .ref (sz + 15)) (q9 := 89) hX (by omega) wF_0 rfl inW2 (by decide) rfl kf_X2_19 dX2_init_86 rfl ?_
    refine un_iload_n (i := 1) (q := 90) hX dX2_init_89 rfl rfl rfl ?_
    refine un_new (ci := 1) (fs := fsD) (q9 := 93) hX kC_29 kN_X1 ki_X1 rfl inW1 tyX1_ok df_X1 ⟨by show (_ : Nat) ≤ 74; omega, by show (_ : Nat) ≤ 842; omega⟩ dX2_init_90 rfl ?_
    refine un_cong hX (wS_in (cy := cy)) ?_
    refine un_dup (q := 94) hX dX2_init_93 rfl rfl ?_
    refine un_callN (I := I_X1_init) (As := []) (n := 0) (host := RX2) (q9 := 97) hX (i_X1 (r := (19 + 7 * k)) (wF sz (PF sz z0) k 0)) mw_X1_init rfl rfl kl_X2_11 rfl rfl (Nat.le_of_ble_eq_true rfl) ⟨by decide, by decide⟩ rfl dX2_init_94 ⟨by show (_ : Nat) ≤ 74; omega, by show (_ : Nat) ≤ 842; omega⟩ rfl ?_
    refine un_cong hX (wS_out (isB19 hk)) ?_
    refine un_N (N' := (19 + 7 * (k + 1))) (by omega) ?_
    refine un_wid hX (c9 := (18 + 7 * (k + 1))) (s9 := (242 + 75 * (k + 1))) (by omega) (by omega) ?_
    refine un_aast (k := 15) (kq := 19 + 7 * k) (ci := 1) (ia := 2) (n := 6) (i := k) (f := fA sz k) (q9 := 98) hX (by omega) wF_15 rfl (by omega) (wF_st (isB_kd (isB19 hk)).2.2.1) rfl rfl hk (by decide) dX2_init_97 rfl ?_
    refine un_cong hX wF_p15 ?_
    refine un_iinc (i := 1) (v := nI (k + 1)) (q := 101) hX dX2_init_98 rfl (ni_inc _) (Nat.le_of_ble_eq_true rfl) rfl ?_
    exact un_goto (tgt := 79) hX dX2_init_101 (by decide) ih
  · refine un_iload_n (i := 1) (q := 80) hX dX2_init_79 rfl rfl rfl ?_
    refine un_bipush (v := nI 6) (q := 82) hX dX2_init_80 rfl rfl ?_
    refine un_icmp_ge (tgt := 104) (q := 85) hX dX2_init_82 (by decide) rfl (fun _ => ?_) (fun q => absurd (ni_le (by decide) (by decide)) q)
    refine un_iconst (v := nI 0) (q := 105) hX dX2_init_104 rfl rfl ?_
    refine un_istore_n (i := 1) (q := 106) hX dX2_init_105 rfl (Nat.le_of_ble_eq_true rfl) rfl ?_
    exact loop2
