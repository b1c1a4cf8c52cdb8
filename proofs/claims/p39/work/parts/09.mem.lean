/-! rows that read and write the memory -/
def isB (r : Nat) : Prop := r ∈ [1, 8, 19, 26, 33, 40, 47, 54, 61, 68]
theorem isB_all {P : Nat → Prop} (h : ∀ r ∈ [1, 8, 19, 26, 33, 40, 47, 54, 61, 68], P r) {r : Nat} (hB : isB r) : P r := h r hB
theorem isB_kd {r : Nat} (hB : isB r) : r + 7 ≤ 75 ∧ 1 ≤ r ∧ kd r = 1 ∧ ∀ a, a < 6 → kd (r + (a + 1)) = 5 ∧ ln (r + (a + 1)) = if a = 5 then 30 else 6 :=
  isB_all (P := fun r => r + 7 ≤ 75 ∧ 1 ≤ r ∧ kd r = 1 ∧ ∀ a, a < 6 → kd (r + (a + 1)) = 5 ∧ ln (r + (a + 1)) = if a = 5 then 30 else 6) (by decide +kernel) hB
def SF (sz r : Nat) (f : Nat → Int32) : List Value := [.ref (sz + (r + 1)), .ref (sz + (r + 2)), .ref (sz + (r + 3)), .ref (sz + (r + 4)), .ref (sz + (r + 5)), .ref (sz + (r + 6)), .int (f 6), .int (f 7), .int (f 8), .int (f 9), .int (f 10), .int (f 11), .int (f 12), .int (f 13), .int (f 14)]
def PF (sz : Nat) (f : Nat → Int32) : List Value := [.ref (sz + 1), .ref (sz + 8), .ref (sz + 15), .int (f 3), .ref (sz + 16), .int (f 5), .ref (sz + 17), .int (f 7), .ref (sz + 18)]
def RF (f : Nat → Int32) : List Value := [.int (f 0), .int (f 1), .int (f 2), .int (f 3)]
theorem cell1 {cy : Nat → ClassId} {sz r : Nat} {M : Mem} (h : kd r = 1) : cellOf cy sz M r = .inr (1, SF sz r (M.1 r)) := by simp only [cellOf, h]; rfl
theorem cell0 {cy : Nat → ClassId} {sz r : Nat} {M : Mem} (h : kd r = 0) : cellOf cy sz M r = .inr (0, RF (M.1 r)) := by simp only [cellOf, h]; rfl
theorem cell2 {cy : Nat → ClassId} {sz r : Nat} {M : Mem} (h : kd r = 2) : cellOf cy sz M r = .inr (2, PF sz (M.1 r)) := by simp only [cellOf, h]; rfl
theorem cell4 {cy : Nat → ClassId} {sz r : Nat} {M : Mem} (h : kd r = 4) : cellOf cy sz M r = .inl (cy 0, ln r, .inl (M.1 r)) := by simp only [cellOf, h]
theorem cell5 {cy : Nat → ClassId} {sz r : Nat} {M : Mem} (h : kd r = 5) : cellOf cy sz M r = .inl (cy 1, ln r, .inl (M.1 r)) := by simp only [cellOf, h]
theorem inW0 : ∀ w ∈ u_ws RX0 TX0 4, w ∈ TW := fun w hw => tw_in (inX0 w hw) (List.all_eq_true.mp (show (u_ws RX0 TX0 4).all goodX = true by decide +kernel) w hw)
theorem inW1 : ∀ w ∈ u_ws RX1 TX1 15, w ∈ TW := fun w hw => tw_in (inX1 w hw) (List.all_eq_true.mp (show (u_ws RX1 TX1 15).all goodX = true by decide +kernel) w hw)
theorem inW2 : ∀ w ∈ u_ws RX2 TX2 9, w ∈ TW := fun w hw => tw_in (inX2 w hw) (List.all_eq_true.mp (show (u_ws RX2 TX2 9).all goodX = true by decide +kernel) w hw)
theorem vp_in_n {i : Int32} {n N : Nat} (hi : i = nI n) (hn : n < N) (hN : N < 2 ^ 31) : vp_in i N := by
  subst hi; exact vp_in_nI hn hN
section MEM
variable {VV : VT} {sz : Nat} {own : String} {cc : ByteArray} {R : Room} {nL cells slots pc q9 : Nat} {L : List (Nat × Value)} {st : List Value} {M : Mem} {G : Nat → Nat → Int32} {T : (Nat → Nat) × Int64} {f : Nat → Nat → Int32}
theorem ro_getV {index k j ci : Nat} {C : String} {TT : u_T} {N : Nat} {fs : List Value} {v : Value} (h : Ctx VV sz own cc R nL) (hk : k < 75) (hcell : ∀ cy, cellOf cy sz M k = .inr (ci, fs)) (hcl : vwCl[ci]? = some (C, TT, N)) (hin : ∀ w ∈ u_ws C TT N, w ∈ TW) (hj : j < N) (hv : fs[j]? = some v) (hlink : Cond.fieldLink own index (TT j).1 (TT j).2.1 (TT j).2.2.1 ∈ TW) (hdg : decode cc pc = .ok (.getfield index, 3)) (hq : pc + 3 = q9) (kk : VV cells slots q9 L (v :: st) M) : VV cells slots pc L (.ref (sz + k) :: st) M := by
  obtain ⟨p, l, e, s, m, args, below, meth, c, D, cy, Q, hx, hb, hml, hown, hts, hE, hfl, rfl⟩ := h
  subst hq
  intro H locs ls hl hc hP hS
  exact va_get hx hb hts hin hown hE.2.1 hP k (by rw [wl_get hk, hcell cy]) hcl j hj (hts _ hlink) (fun _ h9 => h9) hv hdg (kk H locs ls hl hc hP hS)
theorem ro_putV {index k j ci : Nat} {C : String} {TT : u_T} {N : Nat} {fs : List Value} {v : Int32} {ty : FieldType} {ty0 : Nat → FieldType} (h : Ctx VV sz own cc R nL) (hk : k < 75) (hcell : ∀ cy, cellOf cy sz (G, T) k = .inr (ci, fs)) (hcl : vwCl[ci]? = some (C, TT, N)) (hin : ∀ w ∈ u_ws C TT N, w ∈ TW) (hty : ∀ k, k < N → parseFieldDescriptor (TT k).2.2.1 = some (ty0 k)) (hnm : ∀ a, a < N → ∀ b, b < N → a ≠ b → (TT a).2.1 ≠ (TT b).2.1) (hj : j < N) (hfin : (TT j).2.2.2 = false) (hd : ty0 j = ty) (hn : narrow ty (.int v) = .int v) (hfit : fits ty (.int v) = true) (hl9 : j < fs.length) (hset : ∀ cy, cellOf cy sz (put G k j v, T) k = .inr (ci, fs.set j (.int v))) (hlink : Cond.fieldLink own index (TT j).1 (TT j).2.1 (TT j).2.2.1 ∈ TW) (hdg : decode cc pc = .ok (.putfield index, 3)) (hq : pc + 3 = q9) (kk : VV cells slots q9 L st (put G k j v, T)) : VV cells slots pc L (.int v :: .ref (sz + k) :: st) (G, T) := by
  obtain ⟨p, l, e, s, m, args, below, meth, c, D, cy, Q, hx, hb, hml, hown, hts, hE, hfl, rfl⟩ := h
  subst hq
  intro H locs ls hl hc hP hS
  refine va_put hx hb hts hin ty0 hty hnm hown hE.2.1 hP wl_D hS k (by rw [wl_get hk, hcell cy]) hcl j hj (hts _ hlink) (fun _ h9 => h9) hfin (by rw [hty j hj, hd]) hn hfit hl9 hdg (fun H1 locs1 hP1 hD1 hS1 => ?_)
  rw [wl_put (hset cy)] at hP1
  exact kk H1 locs1 ls hl hc hP1 hS1
theorem ro_iald {k n : Nat} {i : Int32} (h : Ctx VV sz own cc R nL) (hk : k < 75) (hkd : kd k = 5) (hi : i = nI n) (hn : n < ln k) (hdg : decode cc pc = .ok (.iaload, 1)) (hq : pc + 1 = q9) (kk : VV cells slots q9 L (.int (M.1 k n) :: st) M) : VV cells slots pc L (.int i :: .ref (sz + k) :: st) M := by
  obtain ⟨p, l, e, s, m, args, below, meth, c, D, cy, Q, hx, hb, hml, hown, hts, hE, hfl, rfl⟩ := h
  subst hq
  intro H locs ls hl hc hP hS
  have hN : ln k < 2 ^ 31 := by
    have : ∀ k, k < 75 → ln k < 2 ^ 31 := by decide +kernel
    exact this k hk
  have hcl : i.toNatClampNeg = n := by rw [hi]; exact nI_clamp (Nat.lt_trans hn hN)
  have k1 := kk H locs ls hl hc hP hS
  rw [← hcl] at k1
  exact va_iald hx hb hE.2.1 hP k 1 (by rw [wl_get hk, cell5 hkd]) rfl (vp_in_n hi hn hN) hdg k1
theorem ro_iast {k n : Nat} {i x : Int32} (h : Ctx VV sz own cc R nL) (hk : k < 75) (hkd : kd k = 5) (hi : i = nI n) (hn : n < ln k) (hdg : decode cc pc = .ok (.iastore, 1)) (hq : pc + 1 = q9) (kk : VV cells slots q9 L st (put G k n x, T)) : VV cells slots pc L (.int x :: .int i :: .ref (sz + k) :: st) (G, T) := by
  obtain ⟨p, l, e, s, m, args, below, meth, c, D, cy, Q, hx, hb, hml, hown, hts, hE, hfl, rfl⟩ := h
  subst hq
  intro H locs ls hl hc hP hS
  have hN : ln k < 2 ^ 31 := by
    have : ∀ k, k < 75 → ln k < 2 ^ 31 := by decide +kernel
    exact this k hk
  have hcl : i.toNatClampNeg = n := by rw [hi]; exact nI_clamp (Nat.lt_trans hn hN)
  refine va_iast hx hb hE.2.1 hP wl_D hS k 1 (by rw [wl_get hk, cell5 hkd]) rfl (vp_in_n hi hn hN) hdg (fun H1 locs1 hP1 hD1 hS1 => ?_)
  rw [wl_put (j := n) (v := x) (by rw [cell5 hkd, show (put G k n x, T).1 k = upd (G k) n x from put_s, hcl])] at hP1
  exact kk H1 locs1 ls hl hc hP1 hS1
theorem ro_cald {k n : Nat} {i : Int32} (h : Ctx VV sz own cc R nL) (hk : k < 75) (hkd : kd k = 4) (hi : i = nI n) (hn : n < ln k) (hdg : decode cc pc = .ok (.caload, 1)) (hq : pc + 1 = q9) (kk : VV cells slots q9 L (.int (M.1 k n) :: st) M) : VV cells slots pc L (.int i :: .ref (sz + k) :: st) M := by
  obtain ⟨p, l, e, s, m, args, below, meth, c, D, cy, Q, hx, hb, hml, hown, hts, hE, hfl, rfl⟩ := h
  subst hq
  intro H locs ls hl hc hP hS
  have hN : ln k < 2 ^ 31 := by
    have : ∀ k, k < 75 → ln k < 2 ^ 31 := by decide +kernel
    exact this k hk
  have hcl : i.toNatClampNeg = n := by rw [hi]; exact nI_clamp (Nat.lt_trans hn hN)
  have k1 := kk H locs ls hl hc hP hS
  rw [← hcl] at k1
  exact va_cald hx hb hE.2.1 hP k 0 (by rw [wl_get hk, cell4 hkd]) rfl (vp_in_n hi hn hN) hdg k1
theorem ro_cast {k n : Nat} {i x : Int32} (h : Ctx VV sz own cc R nL) (hk : k < 75) (hkd : kd k = 4) (hi : i = nI n) (hn : n < ln k) (hx9 : vp_nar .char x = x) (hdg : decode cc pc = .ok (.castore, 1)) (hq : pc + 1 = q9) (kk : VV cells slots q9 L st (put G k n x, T)) : VV cells slots pc L (.int x :: .int i :: .ref (sz + k) :: st) (G, T) := by
  obtain ⟨p, l, e, s, m, args, below, meth, c, D, cy, Q, hx, hb, hml, hown, hts, hE, hfl, rfl⟩ := h
  subst hq
  intro H locs ls hl hc hP hS
  have hN : ln k < 2 ^ 31 := by
    have : ∀ k, k < 75 → ln k < 2 ^ 31 := by decide +kernel
    exact this k hk
  have hcl : i.toNatClampNeg = n := by rw [hi]; exact nI_clamp (Nat.lt_trans hn hN)
  refine va_cast hx hb hE.2.1 hP wl_D hS k 0 (by rw [wl_get hk, cell4 hkd]) rfl (vp_in_n hi hn hN) hdg (fun H1 locs1 hP1 hD1 hS1 => ?_)
  rw [hx9, wl_put (j := n) (v := x) (by rw [cell4 hkd, show (put G k n x, T).1 k = upd (G k) n x from put_s, hcl])] at hP1
  exact kk H1 locs1 ls hl hc hP1 hS1
/-- the saved states and the slots -/
theorem ro_aald {n : Nat} {i : Int32} (h : Ctx VV sz own cc R nL) (hi : i = nI n) (hn : n < 6) (hdg : decode cc pc = .ok (.aaload, 1)) (hq : pc + 1 = q9) (kk : VV cells slots q9 L (.ref (sz + M.2.1 n) :: st) M) : VV cells slots pc L (.int i :: .ref (sz + 15) :: st) M := by
  obtain ⟨p, l, e, s, m, args, below, meth, c, D, cy, Q, hx, hb, hml, hown, hts, hE, hfl, rfl⟩ := h
  subst hq
  intro H locs ls hl hc hP hS
  have hcl : i.toNatClampNeg = n := by rw [hi]; exact nI_clamp (by omega)
  have k1 := kk H locs ls hl hc hP hS
  rw [← hcl] at k1
  exact va_aldq (C := RX1) (n := 6) (f := fun i => some (sz + M.2.1 i)) hx hb hE.2.1 hP 15 2 (by rw [wl_get (by decide)]; rfl) rfl (vp_in_n hi hn (by decide)) hdg k1
theorem ro_aald2 {n : Nat} {i : Int32} (h : Ctx VV sz own cc R nL) (hi : i = nI n) (hn : n < 2) (hdg : decode cc pc = .ok (.aaload, 1)) (hq : pc + 1 = q9) (kk : VV cells slots q9 L (.ref (sz + (61 + 7 * n)) :: st) M) : VV cells slots pc L (.int i :: .ref (sz + 16) :: st) M := by
  obtain ⟨p, l, e, s, m, args, below, meth, c, D, cy, Q, hx, hb, hml, hown, hts, hE, hfl, rfl⟩ := h
  subst hq
  intro H locs ls hl hc hP hS
  have hcl : i.toNatClampNeg = n := by rw [hi]; exact nI_clamp (by omega)
  have k1 := kk H locs ls hl hc hP hS
  rw [← hcl] at k1
  exact va_aldq (C := RX1) (n := 2) (f := fun i => some (sz + (61 + 7 * i))) hx hb hE.2.1 hP 16 2 (by rw [wl_get (by decide)]; rfl) rfl (vp_in_n hi hn (by decide)) hdg k1
theorem ro_aast {n k : Nat} {i : Int32} (h : Ctx VV sz own cc R nL) (hi : i = nI n) (hn : n < 6) (hB : isB k) (hdg : decode cc pc = .ok (.aastore, 1)) (hq : pc + 1 = q9) (kk : VV cells slots q9 L st (G, (va_up T.1 n k, T.2))) : VV cells slots pc L (.ref (sz + k) :: .int i :: .ref (sz + 15) :: st) (G, T) := by
  obtain ⟨p, l, e, s, m, args, below, meth, c, D, cy, Q, hx, hb, hml, hown, hts, hE, hfl, rfl⟩ := h
  subst hq
  intro H locs ls hl hc hP hS
  have hcl : i.toNatClampNeg = n := by rw [hi]; exact nI_clamp (by omega)
  obtain ⟨b1, b2, b3, b4⟩ := isB_kd hB
  refine va_astq (ci := 1) (r := (RX1, TX1, 15)) (n := 6) (f := fun i => some (sz + T.1 i)) hx hb hE.2.1 hP wl_D hS 15 2 k (by rw [wl_get (by decide)]; rfl) rfl (by rw [wl_get (by omega), cell1 b3]) rfl (vp_in_n hi hn (by decide)) hdg (fun H1 locs1 hP1 hD1 hS1 => ?_)
  rw [wl_set (M' := (G, (va_up T.1 n k, T.2))) (fun j hj => by
    by_cases hk : j = 15
    · subst hk
      rw [if_pos rfl]
      show _ = Sum.inl (cy 2, 6, Sum.inr (Sum.inr (Sum.inr (Sum.inr (va_up (fun i => some (sz + T.1 i)) i.toNatClampNeg (some (sz + k)))))))
      show Sum.inl (cy 2, 6, Sum.inr (Sum.inr (Sum.inr (Sum.inr (fun i => some (sz + va_up T.1 n k i)))))) = _
      congr 1
      congr 1
      congr 1
      congr 1
      congr 1
      congr 1
      congr 1
      funext i9
      rw [hcl]
      by_cases hq : i9 = n
      · simp [va_up, hq]
      · simp [va_up, hq]
    · rw [if_neg hk]
      have hk7 : kd j ≠ 7 := by
        have : ∀ j, j < 75 → j ≠ 15 → kd j ≠ 7 := by decide +kernel
        exact this j hj hk
      unfold cellOf
      split <;> first | rfl | (rename_i e9; exact absurd e9 hk7))] at hP1
  exact kk H1 locs1 ls hl hc hP1 hS1
/-! a State at r, its seven cells f -/
theorem cellS {cy : Nat → ClassId} {r : Nat} (hB : isB r) : cellOf cy sz (patch G r 7 f, T) r = .inr (1, SF sz r (f 0)) := by
  rw [cell1 (isB_kd hB).2.2.1]
  rw [show (patch G r 7 f, T).1 r = f 0 from patch_in (a := 0) (by decide)]
theorem ro_Sgi {r j index : Nat} (hj : 6 ≤ j ∧ j < 15) (h : Ctx VV sz own cc R nL) (hB : isB r) (hlink : Cond.fieldLink own index (TX1 j).1 (TX1 j).2.1 (TX1 j).2.2.1 ∈ TW) (hdg : decode cc pc = .ok (.getfield index, 3)) (hq : pc + 3 = q9) (kk : VV cells slots q9 L (.int (f 0 j) :: st) (patch G r 7 f, T)) : VV cells slots pc L (.ref (sz + r) :: st) (patch G r 7 f, T) := by
  refine ro_getV h (Nat.lt_of_lt_of_le (Nat.lt_of_lt_of_le (Nat.lt_add_of_pos_right (by decide : 0 < 7)) (isB_kd hB).1) (by decide)) (fun cy => cellS hB) rfl inW1 hj.2 (v := .int (f 0 j)) ?_ hlink hdg hq kk
  obtain ⟨h1, h2⟩ := hj
  have : j = 6 ∨ j = 7 ∨ j = 8 ∨ j = 9 ∨ j = 10 ∨ j = 11 ∨ j = 12 ∨ j = 13 ∨ j = 14 := by omega
  rcases this with rfl | rfl | rfl | rfl | rfl | rfl | rfl | rfl | rfl <;> rfl
theorem ro_Sga {r j a index : Nat} (hj : j < 6 ∧ a = j + 1) (h : Ctx VV sz own cc R nL) (hB : isB r) (hlink : Cond.fieldLink own index (TX1 j).1 (TX1 j).2.1 (TX1 j).2.2.1 ∈ TW) (hdg : decode cc pc = .ok (.getfield index, 3)) (hq : pc + 3 = q9) (kk : VV cells slots q9 L (.ref (sz + (r + a)) :: st) (patch G r 7 f, T)) : VV cells slots pc L (.ref (sz + r) :: st) (patch G r 7 f, T) := by
  obtain ⟨h1, rfl⟩ := hj
  refine ro_getV h (Nat.lt_of_lt_of_le (Nat.lt_of_lt_of_le (Nat.lt_add_of_pos_right (by decide : 0 < 7)) (isB_kd hB).1) (by decide)) (fun cy => cellS hB) rfl inW1 (by omega) (v := .ref (sz + (r + (j + 1)))) ?_ hlink hdg hq kk
  have : j = 0 ∨ j = 1 ∨ j = 2 ∨ j = 3 ∨ j = 4 ∨ j = 5 := by omega
  rcases this with rfl | rfl | rfl | rfl | rfl | rfl <;> rfl
theorem ro_Spi {r j index : Nat} {v : Int32} (hj : 6 ≤ j ∧ j < 15) (h : Ctx VV sz own cc R nL) (hB : isB r) (hlink : Cond.fieldLink own index (TX1 j).1 (TX1 j).2.1 (TX1 j).2.2.1 ∈ TW) (hdg : decode cc pc = .ok (.putfield index, 3)) (hq : pc + 3 = q9) (kk : VV cells slots q9 L st (patch G r 7 (put f 0 j v), T)) : VV cells slots pc L (.int v :: .ref (sz + r) :: st) (patch G r 7 f, T) := by
  have e0 : put (patch G r 7 f) r j v = patch G r 7 (put f 0 j v) := patch_put (a := 0) (by decide)
  obtain ⟨h1, h2⟩ := hj
  have hj' : j = 6 ∨ j = 7 ∨ j = 8 ∨ j = 9 ∨ j = 10 ∨ j = 11 ∨ j = 12 ∨ j = 13 ∨ j = 14 := by omega
  refine ro_putV (ty := .int) h (Nat.lt_of_lt_of_le (Nat.lt_of_lt_of_le (Nat.lt_add_of_pos_right (by decide : 0 < 7)) (isB_kd hB).1) (by decide)) (fun cy => cellS hB) rfl inW1 tyX1_ok nmX1 h2 ?_ ?_ rfl rfl ?_ (fun cy => ?_) hlink hdg hq (by rw [e0]; exact kk)
  · rcases hj' with rfl | rfl | rfl | rfl | rfl | rfl | rfl | rfl | rfl <;> rfl
  · rcases hj' with rfl | rfl | rfl | rfl | rfl | rfl | rfl | rfl | rfl <;> rfl
  · show j < 15
    exact h2
  · rw [e0, cellS hB, put_s]
    rcases hj' with rfl | rfl | rfl | rfl | rfl | rfl | rfl | rfl | rfl <;> rfl
def lnS (a : Nat) : Nat := if a = 6 then 30 else 6
theorem isB_arr {r a : Nat} (hB : isB r) (ha : 1 ≤ a ∧ a < 7) : r + a < 75 ∧ kd (r + a) = 5 ∧ ln (r + a) = lnS a := by
  obtain ⟨b1, b2, b3, b4⟩ := isB_kd hB
  obtain ⟨a', rfl⟩ : ∃ a', a = a' + 1 := ⟨a - 1, by omega⟩
  obtain ⟨h1, h2⟩ := b4 a' (by omega)
  refine ⟨by omega, h1, ?_⟩
  rw [h2]
  by_cases h5 : a' = 5
  · subst h5; rfl
  · rw [if_neg h5, lnS, if_neg (by omega)]
theorem ro_Sald {r a n : Nat} {i : Int32} (ha : 1 ≤ a ∧ a < 7) (h : Ctx VV sz own cc R nL) (hB : isB r) (hi : i = nI n) (hn : n < lnS a) (hdg : decode cc pc = .ok (.iaload, 1)) (hq : pc + 1 = q9) (kk : VV cells slots q9 L (.int (f a n) :: st) (patch G r 7 f, T)) : VV cells slots pc L (.int i :: .ref (sz + (r + a)) :: st) (patch G r 7 f, T) := by
  obtain ⟨b1, b2, b3⟩ := isB_arr hB ha
  refine ro_iald h b1 b2 hi (by rw [b3]; exact hn) hdg hq ?_
  rw [show (patch G r 7 f, T).1 (r + a) = f a from patch_in ha.2]
  exact kk
theorem ro_Sast {r a n : Nat} {i x : Int32} (ha : 1 ≤ a ∧ a < 7) (h : Ctx VV sz own cc R nL) (hB : isB r) (hi : i = nI n) (hn : n < lnS a) (hdg : decode cc pc = .ok (.iastore, 1)) (hq : pc + 1 = q9) (kk : VV cells slots q9 L st (patch G r 7 (put f a n x), T)) : VV cells slots pc L (.int x :: .int i :: .ref (sz + (r + a)) :: st) (patch G r 7 f, T) := by
  obtain ⟨b1, b2, b3⟩ := isB_arr hB ha
  refine ro_iast h b1 b2 hi (by rw [b3]; exact hn) hdg hq ?_
  rw [patch_put ha.2]
  exact kk

theorem cellR {cy : Nat → ClassId} : cellOf cy sz (patch G 18 1 f, T) 18 = .inr (0, RF (f 0)) := by
  rw [cell0 (by decide +kernel), show (patch G 18 1 f, T).1 18 = f 0 from patch_in (g := G) (f := f) (r := 18) (w := 1) (a := 0) (by decide)]
theorem ro_Rgi {j index : Nat} (hj : j = 0 ∨ j = 1 ∨ j = 2 ∨ j = 3) (h : Ctx VV sz own cc R nL) (hlink : Cond.fieldLink own index (TX0 j).1 (TX0 j).2.1 (TX0 j).2.2.1 ∈ TW) (hdg : decode cc pc = .ok (.getfield index, 3)) (hq : pc + 3 = q9) (kk : VV cells slots q9 L (.int (f 0 j) :: st) (patch G 18 1 f, T)) : VV cells slots pc L (.ref (sz + 18) :: st) (patch G 18 1 f, T) := by
  refine ro_getV h (by decide) (fun cy => cellR) rfl inW0 (by omega) (v := .int (f 0 j)) ?_ hlink hdg hq kk
  rcases hj with rfl | rfl | rfl | rfl <;> rfl
theorem ro_Rpi {j index : Nat} {v : Int32} {ty : FieldType} (hj : j = 0 ∨ j = 1 ∨ j = 2 ∨ j = 3) (h : Ctx VV sz own cc R nL) (hd : tyX0 j = ty) (hn : narrow ty (.int v) = .int v) (hfit : fits ty (.int v) = true) (hlink : Cond.fieldLink own index (TX0 j).1 (TX0 j).2.1 (TX0 j).2.2.1 ∈ TW) (hdg : decode cc pc = .ok (.putfield index, 3)) (hq : pc + 3 = q9) (kk : VV cells slots q9 L st (patch G 18 1 (put f 0 j v), T)) : VV cells slots pc L (.int v :: .ref (sz + 18) :: st) (patch G 18 1 f, T) := by
  have e0 : put (patch G 18 1 f) 18 j v = patch G 18 1 (put f 0 j v) := patch_put (r := 18) (a := 0) (by decide)
  refine ro_putV (ty := ty) h (by decide) (fun cy => cellR) rfl inW0 tyX0_ok nmX0 (by omega) ?_ hd hn hfit ?_ (fun cy => ?_) hlink hdg hq (by rw [e0]; exact kk)
  · rcases hj with rfl | rfl | rfl | rfl <;> rfl
  · show j < 4
    omega
  · rw [e0, cellR, put_s]
    rcases hj with rfl | rfl | rfl | rfl <;> rfl
theorem cellP {cy : Nat → ClassId} : cellOf cy sz (G, T) 0 = .inr (2, PF sz (G 0)) := cell2 (by decide +kernel)
theorem ro_Pgi {j index : Nat} (hj : j = 3 ∨ j = 5 ∨ j = 7) (h : Ctx VV sz own cc R nL) (hlink : Cond.fieldLink own index (TX2 j).1 (TX2 j).2.1 (TX2 j).2.2.1 ∈ TW) (hdg : decode cc pc = .ok (.getfield index, 3)) (hq : pc + 3 = q9) (kk : VV cells slots q9 L (.int (G 0 j) :: st) (G, T)) : VV cells slots pc L (.ref (sz + 0) :: st) (G, T) := by
  refine ro_getV h (by decide) (fun cy => cellP) rfl inW2 (by omega) (v := .int (G 0 j)) ?_ hlink hdg hq kk
  rcases hj with rfl | rfl | rfl <;> rfl
theorem ro_Pga0 {index : Nat} (h : Ctx VV sz own cc R nL) (hlink : Cond.fieldLink own index (TX2 0).1 (TX2 0).2.1 (TX2 0).2.2.1 ∈ TW) (hdg : decode cc pc = .ok (.getfield index, 3)) (hq : pc + 3 = q9) (kk : VV cells slots q9 L (.ref (sz + 1) :: st) (G, T)) : VV cells slots pc L (.ref (sz + 0) :: st) (G, T) :=
  ro_getV (j := 0) h (by decide) (fun cy => cellP) rfl inW2 (by decide) (v := .ref (sz + 1)) rfl hlink hdg hq kk
theorem ro_Pga1 {index : Nat} (h : Ctx VV sz own cc R nL) (hlink : Cond.fieldLink own index (TX2 1).1 (TX2 1).2.1 (TX2 1).2.2.1 ∈ TW) (hdg : decode cc pc = .ok (.getfield index, 3)) (hq : pc + 3 = q9) (kk : VV cells slots q9 L (.ref (sz + 8) :: st) (G, T)) : VV cells slots pc L (.ref (sz + 0) :: st) (G, T) :=
  ro_getV (j := 1) h (by decide) (fun cy => cellP) rfl inW2 (by decide) (v := .ref (sz + 8)) rfl hlink hdg hq kk
theorem ro_Pga2 {index : Nat} (h : Ctx VV sz own cc R nL) (hlink : Cond.fieldLink own index (TX2 2).1 (TX2 2).2.1 (TX2 2).2.2.1 ∈ TW) (hdg : decode cc pc = .ok (.getfield index, 3)) (hq : pc + 3 = q9) (kk : VV cells slots q9 L (.ref (sz + 15) :: st) (G, T)) : VV cells slots pc L (.ref (sz + 0) :: st) (G, T) :=
  ro_getV (j := 2) h (by decide) (fun cy => cellP) rfl inW2 (by decide) (v := .ref (sz + 15)) rfl hlink hdg hq kk
theorem ro_Pga4 {index : Nat} (h : Ctx VV sz own cc R nL) (hlink : Cond.fieldLink own index (TX2 4).1 (TX2 4).2.1 (TX2 4).2.2.1 ∈ TW) (hdg : decode cc pc = .ok (.getfield index, 3)) (hq : pc + 3 = q9) (kk : VV cells slots q9 L (.ref (sz + 16) :: st) (G, T)) : VV cells slots pc L (.ref (sz + 0) :: st) (G, T) :=
  ro_getV (j := 4) h (by decide) (fun cy => cellP) rfl inW2 (by decide) (v := .ref (sz + 16)) rfl hlink hdg hq kk
theorem ro_Pga6 {index : Nat} (h : Ctx VV sz own cc R nL) (hlink : Cond.fieldLink own index (TX2 6).1 (TX2 6).2.1 (TX2 6).2.2.1 ∈ TW) (hdg : decode cc pc = .ok (.getfield index, 3)) (hq : pc + 3 = q9) (kk : VV cells slots q9 L (.ref (sz + 17) :: st) (G, T)) : VV cells slots pc L (.ref (sz + 0) :: st) (G, T) :=
  ro_getV (j := 6) h (by decide) (fun cy => cellP) rfl inW2 (by decide) (v := .ref (sz + 17)) rfl hlink hdg hq kk
theorem ro_Pga8 {index : Nat} (h : Ctx VV sz own cc R nL) (hlink : Cond.fieldLink own index (TX2 8).1 (TX2 8).2.1 (TX2 8).2.2.1 ∈ TW) (hdg : decode cc pc = .ok (.getfield index, 3)) (hq : pc + 3 = q9) (kk : VV cells slots q9 L (.ref (sz + 18) :: st) (G, T)) : VV cells slots pc L (.ref (sz + 0) :: st) (G, T) :=
  ro_getV (j := 8) h (by decide) (fun cy => cellP) rfl inW2 (by decide) (v := .ref (sz + 18)) rfl hlink hdg hq kk
theorem ro_Ppi {j index : Nat} {v : Int32} {ty : FieldType} (hj : j = 3 ∨ j = 5 ∨ j = 7) (h : Ctx VV sz own cc R nL) (hd : tyX2 j = ty) (hn : narrow ty (.int v) = .int v) (hfit : fits ty (.int v) = true) (hlink : Cond.fieldLink own index (TX2 j).1 (TX2 j).2.1 (TX2 j).2.2.1 ∈ TW) (hdg : decode cc pc = .ok (.putfield index, 3)) (hq : pc + 3 = q9) (kk : VV cells slots q9 L st (put G 0 j v, T)) : VV cells slots pc L (.int v :: .ref (sz + 0) :: st) (G, T) := by
  refine ro_putV (ty := ty) h (by decide) (fun cy => cellP) rfl inW2 tyX2_ok nmX2 (by omega) ?_ hd hn hfit ?_ (fun cy => ?_) hlink hdg hq kk
  · rcases hj with rfl | rfl | rfl <;> rfl
  · show j < 9
    omega
  · rw [cellP, put_s]
    rcases hj with rfl | rfl | rfl <;> rfl
end MEM
