/-! constructors of State and reader: the words -/
theorem ki_L : Cond.initialized RL ∈ TW := tw_in (List.mem_of_getElem? (i := 12) (by decide +kernel)) (by decide +kernel)
theorem ki_X2 : Cond.initialized RX2 ∈ TW := tw_in (List.mem_of_getElem? (i := 13) (by decide +kernel)) (by decide +kernel)
theorem ki_X1 : Cond.initialized RX1 ∈ TW := tw_in (List.mem_of_getElem? (i := 14) (by decide +kernel)) (by decide +kernel)
theorem ki_X0 : Cond.initialized RX0 ∈ TW := tw_in (List.mem_of_getElem? (i := 15) (by decide +kernel)) (by decide +kernel)
theorem kC_L12 : Cond.classLink RL 12 RX2 ∈ TW := tw_in (List.mem_of_getElem? (i := 24) (by decide +kernel)) (by decide +kernel)
theorem kN_X2 : Cond.instantiable RX2 9 ∈ TW := tw_in (List.mem_of_getElem? (i := 25) (by decide +kernel)) (by decide +kernel)
theorem kO_2 : Cond.methodLink RX2 3 Lib.objectInit ∈ TW := tw_in (List.mem_of_getElem? (i := 29) (by decide +kernel)) (by decide +kernel)
theorem kO_i : Cond.instanceMethod Lib.objectInit ∈ TW := tw_in (List.mem_of_getElem? (i := 30) (by decide +kernel)) (by decide +kernel)
theorem kO_c : Cond.code Lib.objectInit ⟨#[0xb1]⟩ 1 none ∈ TW := tw_in (List.mem_of_getElem? (i := 31) (by decide +kernel)) (by decide +kernel)
theorem kC_29 : Cond.classLink RX2 9 RX1 ∈ TW := tw_in (List.mem_of_getElem? (i := 32) (by decide +kernel)) (by decide +kernel)
theorem kN_X1 : Cond.instantiable RX1 15 ∈ TW := tw_in (List.mem_of_getElem? (i := 33) (by decide +kernel)) (by decide +kernel)
theorem kO_1 : Cond.methodLink RX1 3 Lib.objectInit ∈ TW := tw_in (List.mem_of_getElem? (i := 37) (by decide +kernel)) (by decide +kernel)
theorem kA_i : Cond.arrayClass .int ∈ TW := tw_in (List.mem_of_getElem? (i := 97) (by decide +kernel)) (by decide +kernel)
theorem kC_240 : Cond.classLink RX2 40 RX0 ∈ TW := tw_in (List.mem_of_getElem? (i := 99) (by decide +kernel)) (by decide +kernel)
theorem kN_X0 : Cond.instantiable RX0 4 ∈ TW := tw_in (List.mem_of_getElem? (i := 100) (by decide +kernel)) (by decide +kernel)
theorem kO_0 : Cond.methodLink RX0 3 Lib.objectInit ∈ TW := tw_in (List.mem_of_getElem? (i := 104) (by decide +kernel)) (by decide +kernel)
theorem kA_c : Cond.arrayClass .char ∈ TW := tw_in (List.mem_of_getElem? (i := 118) (by decide +kernel)) (by decide +kernel)
def z0 : Nat → Int32 := fun _ => 0
def gS : Nat → Int32 := fun j => [0, 0, 0, 0, 0, 0, 0, nI 63, 0, nI 5, 0, -1, -1, -1, 0].getD j 0
def gR : Nat → Int32 := fun j => [0, -1, -1, 0].getD j 0
def sM (k : Nat) : Nat → Int32 := fun j => if j = 2 then nI 5 else if j = 4 then -1 else if 8 ≤ j ∧ j < 8 + 4 * k ∧ j % 4 = 1 then nI 1 else 0
def G0 : Nat → Nat → Int32 := fun k => if kd k = 1 then gS else if k = 18 then gR else z0
def M0 : Mem := (G0, ((fun i => 19 + 7 * i), 0))
theorem G0_1 {k : Nat} (h : kd k = 1) : G0 k = gS := by
  unfold G0; rw [if_pos h]
theorem G0_z {k : Nat} (h : k ≠ 76) (h1 : kd k ≠ 1) (h2 : k ≠ 18) : G0 k = z0 := by
  unfold G0; rw [if_neg h1, if_neg h2]
/-- a State that is being made -/
def wS (cy : Nat → ClassId) (w : Nat → va_E) (r : Nat) (fs : List Value) (a : Nat) : Nat → va_E := fun j => if j = r then .inr (1, fs) else if r < j ∧ j ≤ r + a then .inl (cy 1, if j = r + 6 then 30 else 6, .inl z0) else w j
def fsD : List Value := [.null, .null, .null, .null, .null, .null, .int 0, .int 0, .int 0, .int 0, .int 0, .int 0, .int 0, .int 0, .int 0]
theorem wS_new {cy : Nat → ClassId} {w : Nat → va_E} {r : Nat} {fs : List Value} {a n : Nat} (hn : n = if a = 5 then 30 else 6) : ∀ k, k < r + 1 + a + 1 → (if k = r + 1 + a then (Sum.inl (cy 1, n, .inl z0) : va_E) else wS cy w r fs a k) = wS cy w r fs (a + 1) k := by
  intro k hk
  unfold wS
  by_cases e : k = r + 1 + a
  · subst e
    rw [if_pos rfl, if_neg (by omega), if_pos (by omega), hn]
    by_cases e5 : a = 5
    · rw [if_pos e5, if_pos (by omega)]
    · rw [if_neg e5, if_neg (by omega)]
  · rw [if_neg e]
    by_cases e1 : k = r
    · rw [if_pos e1, if_pos e1]
    · rw [if_neg e1, if_neg e1]
      by_cases e2 : r < k ∧ k ≤ r + a
      · have e3 : r < k ∧ k ≤ r + (a + 1) := ⟨e2.1, by omega⟩
        rw [if_pos e2, if_pos e3]
      · have e3 : ¬ (r < k ∧ k ≤ r + (a + 1)) := by omega
        rw [if_neg e2, if_neg e3]
theorem wS_put {cy : Nat → ClassId} {w : Nat → va_E} {r : Nat} {fs fs' : List Value} {a N : Nat} : ∀ k, k < N → (if k = r then (Sum.inr (1, fs') : va_E) else wS cy w r fs a k) = wS cy w r fs' a k := by
  intro k _
  unfold wS
  by_cases e1 : k = r
  · rw [if_pos e1, if_pos e1]
  · rw [if_neg e1, if_neg e1, if_neg e1]
theorem wS_at {cy : Nat → ClassId} {w : Nat → va_E} {r : Nat} {fs : List Value} {a : Nat} : wS cy w r fs a r = .inr (1, fs) := if_pos rfl
theorem c_newI {n : Nat} : ∀ cA : ClassId, vp_cell cA (n, .inl z0) = arrV cA n (fun _ => defaultValue (newarray.typeOf .int)) := fun _ => rfl
theorem i_X1 {sz r : Nat} (w : (Nat → ClassId) → Nat → va_E) : DoesN sz I_X1_init [.ref (sz + r)] (fun cy => wS cy (w cy) r fsD 0) (r + 1) 6 60 (fun cy => wS cy (w cy) r (SF sz r gS) 6) (r + 1 + 6) := by
  refine DoesN.of (L := [(0, .ref (sz + r))]) (by decide) rfl rfl (Nat.le_of_ble_eq_true rfl) rfl ⟨rfl, (by simp), trivial⟩ fun VV D cy hE => ?_
  have hX := hE.c
  refine un_aload_n (i := 0) (q := 1) hX dX1_init_0 rfl rfl rfl ?_
  refine un_obj (q9 := 4) hX kO_1 kO_i kO_c ⟨Nat.le_of_ble_eq_true rfl, Nat.le_of_ble_eq_true rfl⟩ dX1_init_1 rfl ?_
  refine un_aload_n (i := 0) (q := 5) hX dX1_init_4 rfl rfl rfl ?_
  refine un_bipush (v := nI 6) (q := 7) hX dX1_init_5 rfl rfl ?_
  refine un_newa (atype := .int) (ty := .int) (ia := 1) (N' := 6) (a0 := (6, .inl z0)) (q9 := 9) hX kA_i rfl (fun U cA h => h) c_newI (by decide) rfl (by decide) ⟨by show (_ : Nat) ≤ 6; omega, by show (_ : Nat) ≤ 60; omega⟩ dX1_init_7 rfl ?_
  refine un_wid hX (c9 := 1) (s9 := 6) rfl rfl ?_
  refine un_cong hX (wS_new (a := 0) rfl) ?_
  refine un_top (y := .ref (sz + (r + 1))) hX (by congr 1) ?_
  refine un_putF (k := r) (j := 0) (ci := 1) (ty := .array .int) (q9 := 12) hX (by omega) wS_at rfl inW1 tyX1_ok nmX1 (by decide) rfl rfl rfl rfl rfl (Nat.le_of_ble_eq_true rfl) kf_X1_9 dX1_init_9 rfl ?_
  refine un_cong hX wS_put ?_
  refine un_aload_n (i := 0) (q := 13) hX dX1_init_12 rfl rfl rfl ?_
  refine un_bipush (v := nI 6) (q := 15) hX dX1_init_13 rfl rfl ?_
  refine un_newa (atype := .int) (ty := .int) (ia := 1) (N' := 6) (a0 := (6, .inl z0)) (q9 := 17) hX kA_i rfl (fun U cA h => h) c_newI (by decide) rfl (by decide) ⟨by show (_ : Nat) ≤ 6; omega, by show (_ : Nat) ≤ 60; omega⟩ dX1_init_15 rfl ?_
  refine un_wid hX (c9 := 2) (s9 := 12) rfl rfl ?_
  refine un_cong hX (wS_new (a := 1) rfl) ?_
  refine un_top (y := .ref (sz + (r + 2))) hX (by congr 1) ?_
  refine un_putF (k := r) (j := 1) (ci := 1) (ty := .array .int) (q9 := 20) hX (by omega) wS_at rfl inW1 tyX1_ok nmX1 (by decide) rfl rfl rfl rfl rfl (Nat.le_of_ble_eq_true rfl) kf_X1_15 dX1_init_17 rfl ?_
  refine un_cong hX wS_put ?_
  refine un_aload_n (i := 0) (q := 21) hX dX1_init_20 rfl rfl rfl ?_
  refine un_bipush (v := nI 6) (q := 23) hX dX1_init_21 rfl rfl ?_
  refine un_newa (atype := .int) (ty := .int) (ia := 1) (N' := 6) (a0 := (6, .inl z0)) (q9 := 25) hX kA_i rfl (fun U cA h => h) c_newI (by decide) rfl (by decide) ⟨by show (_ : Nat) ≤ 6; omega, by show (_ : Nat) ≤ 60; omega⟩ dX1_init_23 rfl ?_
  refine un_wid hX (c9 := 3) (s9 := 18) rfl rfl ?_
  refine un_cong hX (wS_new (a := 2) rfl) ?_
  refine un_top (y := .ref (sz + (r + 3))) hX (by congr 1) ?_
  refine un_putF (k := r) (j := 2) (ci := 1) (ty := .array .int) (q9 := 28) hX (by omega) wS_at rfl inW1 tyX1_ok nmX1 (by decide) rfl rfl rfl rfl rfl (Nat.le_of_ble_eq_true rfl) kf_X1_18 dX1_init_25 rfl ?_
  refine un_cong hX wS_put ?_
  refine un_aload_n (i := 0) (q := 29) hX dX1_init_28 rfl rfl rfl ?_
  refine un_bipush (v := nI 6) (q := 31) hX dX1_init_29 rfl rfl ?_
  refine un_newa (atype := .int) (ty := .int) (ia := 1) (N' := 6) (a0 := (6, .inl z0)) (q9 := 33) hX kA_i rfl (fun U cA h => h) c_newI (by decide) rfl (by decide) ⟨by show (_ : Nat) ≤ 6; omega, by show (_ : Nat) ≤ 60; omega⟩ dX1_init_31 rfl ?_
  refine un_wid hX (c9 := 4) (s9 := 24) rfl rfl ?_
  refine un_cong hX (wS_new (a := 3) rfl) ?_
  refine un_top (y := .ref (sz + (r + 4))) hX (by congr 1) ?_
  refine un_putF (k := r) (j := 3) (ci := 1) (ty := .array .int) (q9 := 36) hX (by omega) wS_at rfl inW1 tyX1_ok nmX1 (by decide) rfl rfl rfl rfl rfl (Nat.le_of_ble_eq_true rfl) kf_X1_21 dX1_init_33 rfl ?_
  refine un_cong hX wS_put ?_
  refine un_aload_n (i := 0) (q := 37) hX dX1_init_36 rfl rfl rfl ?_
  refine un_bipush (v := nI 6) (q := 39) hX dX1_init_37 rfl rfl ?_
  refine un_newa (atype := .int) (ty := .int) (ia := 1) (N' := 6) (a0 := (6, .inl z0)) (q9 := 41) hX kA_i rfl (fun U cA h => h) c_newI (by decide) rfl (by decide) ⟨by show (_ : Nat) ≤ 6; omega, by show (_ : Nat) ≤ 60; omega⟩ dX1_init_39 rfl ?_
  refine un_wid hX (c9 := 5) (s9 := 30) rfl rfl ?_
  refine un_cong hX (wS_new (a := 4) rfl) ?_
  refine un_top (y := .ref (sz + (r + 5))) hX (by congr 1) ?_
  refine un_putF (k := r) (j := 4) (ci := 1) (ty := .array .int) (q9 := 44) hX (by omega) wS_at rfl inW1 tyX1_ok nmX1 (by decide) rfl rfl rfl rfl rfl (Nat.le_of_ble_eq_true rfl) kf_X1_24 dX1_init_41 rfl ?_
  refine un_cong hX wS_put ?_
  refine un_aload_n (i := 0) (q := 45) hX dX1_init_44 rfl rfl rfl ?_
  refine un_bipush (v := nI 30) (q := 47) hX dX1_init_45 rfl rfl ?_
  refine un_newa (atype := .int) (ty := .int) (ia := 1) (N' := 30) (a0 := (30, .inl z0)) (q9 := 49) hX kA_i rfl (fun U cA h => h) c_newI (by decide) rfl (by decide) ⟨by show (_ : Nat) ≤ 6; omega, by show (_ : Nat) ≤ 60; omega⟩ dX1_init_47 rfl ?_
  refine un_wid hX (c9 := 6) (s9 := 60) rfl rfl ?_
  refine un_cong hX (wS_new (a := 5) rfl) ?_
  refine un_top (y := .ref (sz + (r + 6))) hX (by congr 1) ?_
  refine un_putF (k := r) (j := 5) (ci := 1) (ty := .array .int) (q9 := 52) hX (by omega) wS_at rfl inW1 tyX1_ok nmX1 (by decide) rfl rfl rfl rfl rfl (Nat.le_of_ble_eq_true rfl) kf_X1_27 dX1_init_49 rfl ?_
  refine un_cong hX wS_put ?_
  refine un_aload_n (i := 0) (q := 53) hX dX1_init_52 rfl rfl rfl ?_
  refine un_iconst (v := (0 : Int32)) (q := 54) hX dX1_init_53 rfl rfl ?_
  refine un_put (k := r) (j := 6) (ci := 1) (ty := .int) (q9 := 57) hX (by omega) wS_at rfl inW1 tyX1_ok nmX1 (by decide) rfl rfl rfl rfl (Nat.le_of_ble_eq_true rfl) kf_X1_30 dX1_init_54 rfl ?_
  refine un_cong hX wS_put ?_
  refine un_aload_n (i := 0) (q := 58) hX dX1_init_57 rfl rfl rfl ?_
  refine un_bipush (v := nI 63) (q := 60) hX dX1_init_58 rfl rfl ?_
  refine un_put (k := r) (j := 7) (ci := 1) (ty := .int) (q9 := 63) hX (by omega) wS_at rfl inW1 tyX1_ok nmX1 (by decide) rfl rfl rfl rfl (Nat.le_of_ble_eq_true rfl) kf_X1_34 dX1_init_60 rfl ?_
  refine un_cong hX wS_put ?_
  refine un_aload_n (i := 0) (q := 64) hX dX1_init_63 rfl rfl rfl ?_
  refine un_iconst (v := (0 : Int32)) (q := 65) hX dX1_init_64 rfl rfl ?_
  refine un_put (k := r) (j := 8) (ci := 1) (ty := .int) (q9 := 68) hX (by omega) wS_at rfl inW1 tyX1_ok nmX1 (by decide) rfl rfl rfl rfl (Nat.le_of_ble_eq_true rfl) kf_X1_37 dX1_init_65 rfl ?_
  refine un_cong hX wS_put ?_
  refine un_aload_n (i := 0) (q := 69) hX dX1_init_68 rfl rfl rfl ?_
  refine un_iconst (v := nI 5) (q := 70) hX dX1_init_69 rfl rfl ?_
  refine un_put (k := r) (j := 9) (ci := 1) (ty := .int) (q9 := 73) hX (by omega) wS_at rfl inW1 tyX1_ok nmX1 (by decide) rfl rfl rfl rfl (Nat.le_of_ble_eq_true rfl) kf_X1_40 dX1_init_70 rfl ?_
  refine un_cong hX wS_put ?_
  refine un_aload_n (i := 0) (q := 74) hX dX1_init_73 rfl rfl rfl ?_
  refine un_iconst (v := (0 : Int32)) (q := 75) hX dX1_init_74 rfl rfl ?_
  refine un_put (k := r) (j := 10) (ci := 1) (ty := .int) (q9 := 78) hX (by omega) wS_at rfl inW1 tyX1_ok nmX1 (by decide) rfl rfl rfl rfl (Nat.le_of_ble_eq_true rfl) kf_X1_43 dX1_init_75 rfl ?_
  refine un_cong hX wS_put ?_
  refine un_aload_n (i := 0) (q := 79) hX dX1_init_78 rfl rfl rfl ?_
  refine un_iconst (v := (-1 : Int32)) (q := 80) hX dX1_init_79 rfl rfl ?_
  refine un_put (k := r) (j := 11) (ci := 1) (ty := .int) (q9 := 83) hX (by omega) wS_at rfl inW1 tyX1_ok nmX1 (by decide) rfl rfl rfl rfl (Nat.le_of_ble_eq_true rfl) kf_X1_46 dX1_init_80 rfl ?_
  refine un_cong hX wS_put ?_
  refine un_aload_n (i := 0) (q := 84) hX dX1_init_83 rfl rfl rfl ?_
  refine un_iconst (v := (-1 : Int32)) (q := 85) hX dX1_init_84 rfl rfl ?_
  refine un_put (k := r) (j := 12) (ci := 1) (ty := .int) (q9 := 88) hX (by omega) wS_at rfl inW1 tyX1_ok nmX1 (by decide) rfl rfl rfl rfl (Nat.le_of_ble_eq_true rfl) kf_X1_49 dX1_init_85 rfl ?_
  refine un_cong hX wS_put ?_
  refine un_aload_n (i := 0) (q := 89) hX dX1_init_88 rfl rfl rfl ?_
  refine un_iconst (v := (-1 : Int32)) (q := 90) hX dX1_init_89 rfl rfl ?_
  refine un_put (k := r) (j := 13) (ci := 1) (ty := .int) (q9 := 93) hX (by omega) wS_at rfl inW1 tyX1_ok nmX1 (by decide) rfl rfl rfl rfl (Nat.le_of_ble_eq_true rfl) kf_X1_52 dX1_init_90 rfl ?_
  refine un_cong hX wS_put ?_
  refine un_aload_n (i := 0) (q := 94) hX dX1_init_93 rfl rfl rfl ?_
  refine un_iconst (v := (0 : Int32)) (q := 95) hX dX1_init_94 rfl rfl ?_
  refine un_put (k := r) (j := 14) (ci := 1) (ty := .int) (q9 := 98) hX (by omega) wS_at rfl inW1 tyX1_ok nmX1 (by decide) rfl rfl rfl rfl (Nat.le_of_ble_eq_true rfl) kf_X1_55 dX1_init_95 rfl ?_
  refine un_cong hX wS_put ?_
  exact un_ret hE (by decide) (by decide) dX1_init_98 rfl (fun _ _ => rfl)
def wR (w : Nat → va_E) (r : Nat) (fs : List Value) : Nat → va_E := fun j => if j = r then .inr (0, fs) else w j
def fsR : List Value := [.int 0, .int 0, .int 0, .int 0]
theorem wR_put {w : Nat → va_E} {r : Nat} {fs fs' : List Value} {N : Nat} : ∀ k, k < N → (if k = r then (Sum.inr (0, fs') : va_E) else wR w r fs k) = wR w r fs' k := by
  intro k _
  unfold wR
  by_cases e1 : k = r
  · rw [if_pos e1, if_pos e1]
  · rw [if_neg e1, if_neg e1, if_neg e1]
theorem wR_at {w : Nat → va_E} {r : Nat} {fs : List Value} : wR w r fs r = .inr (0, fs) := if_pos rfl
theorem i_X0 {sz r : Nat} (w : (Nat → ClassId) → Nat → va_E) : DoesN sz I_X0_init [.ref (sz + r)] (fun cy => wR (w cy) r fsR) (r + 1) 0 0 (fun cy => wR (w cy) r (RF gR)) (r + 1) := by
  refine DoesN.of (L := [(0, .ref (sz + r))]) (by decide) rfl rfl (Nat.le_of_ble_eq_true rfl) rfl ⟨rfl, (by simp), trivial⟩ fun VV D cy hE => ?_
  have hX := hE.c
  refine un_aload_n (i := 0) (q := 1) hX dX0_init_0 rfl rfl rfl ?_
  refine un_obj (q9 := 4) hX kO_0 kO_i kO_c ⟨Nat.le_of_ble_eq_true rfl, Nat.le_of_ble_eq_true rfl⟩ dX0_init_1 rfl ?_
  refine un_aload_n (i := 0) (q := 5) hX dX0_init_4 rfl rfl rfl ?_
  refine un_iconst (v := (0 : Int32)) (q := 6) hX dX0_init_5 rfl rfl ?_
  refine un_put (k := r) (j := 0) (ci := 0) (ty := .char) (q9 := 9) hX (by omega) wR_at rfl inW0 tyX0_ok nmX0 (by decide) rfl rfl rfl rfl (Nat.le_of_ble_eq_true rfl) kf_X0_11 dX0_init_6 rfl ?_
  refine un_cong hX wR_put ?_
  refine un_aload_n (i := 0) (q := 10) hX dX0_init_9 rfl rfl rfl ?_
  refine un_iconst (v := (-1 : Int32)) (q := 11) hX dX0_init_10 rfl rfl ?_
  refine un_put (k := r) (j := 1) (ci := 0) (ty := .int) (q9 := 14) hX (by omega) wR_at rfl inW0 tyX0_ok nmX0 (by decide) rfl rfl rfl rfl (Nat.le_of_ble_eq_true rfl) kf_X0_15 dX0_init_11 rfl ?_
  refine un_cong hX wR_put ?_
  refine un_aload_n (i := 0) (q := 15) hX dX0_init_14 rfl rfl rfl ?_
  refine un_iconst (v := (-1 : Int32)) (q := 16) hX dX0_init_15 rfl rfl ?_
  refine un_put (k := r) (j := 2) (ci := 0) (ty := .int) (q9 := 19) hX (by omega) wR_at rfl inW0 tyX0_ok nmX0 (by decide) rfl rfl rfl rfl (Nat.le_of_ble_eq_true rfl) kf_X0_19 dX0_init_16 rfl ?_
  refine un_cong hX wR_put ?_
  refine un_aload_n (i := 0) (q := 20) hX dX0_init_19 rfl rfl rfl ?_
  refine un_iconst (v := (0 : Int32)) (q := 21) hX dX0_init_20 rfl rfl ?_
  refine un_put (k := r) (j := 3) (ci := 0) (ty := .boolean) (q9 := 24) hX (by omega) wR_at rfl inW0 tyX0_ok nmX0 (by decide) rfl rfl rfl rfl (Nat.le_of_ble_eq_true rfl) kf_X0_22 dX0_init_21 rfl ?_
  refine un_cong hX wR_put ?_
  exact un_ret hE (by decide) (by decide) dX0_init_24 rfl (fun _ _ => rfl)
