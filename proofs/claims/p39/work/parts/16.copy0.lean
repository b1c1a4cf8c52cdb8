/-! the copy of a State: rows over the plain memory -/
def setRow (g : Nat → Nat → Int32) (k : Nat) (f : Nat → Int32) : Nat → Nat → Int32 := fun k' => if k' = k then f else g k'
def Rel (G G' : Nat → Nat → Int32) : Prop := ∀ k, k < 75 → G k = G' k ∨ (kd k = 1 ∧ ∀ j, 6 ≤ j → j < 15 → G k j = G' k j) ∨ (kd k = 5 ∧ ∀ j, j < ln k → G k j = G' k j)
theorem arr_cong {cA : ClassId} {N : Nat} {f g : Nat → Int32} (h : ∀ j, j < N → f j = g j) : vp_cell cA (N, .inl f) = vp_cell cA (N, .inl g) := by
  rw [vp_cell_i, vp_cell_i]
  unfold arrV
  congr 1
  apply Array.ext
  · simp
  · intro i h1 h2
    have hi : i < N := by simpa using h1
    simp [h i hi]
theorem wl_rel {D : va_G} {cy : Nat → ClassId} {sz : Nat} {G G' : Nat → Nat → Int32} {T : (Nat → Nat) × Int64} {H : Heap} (hR : Rel G G') (h : va_P D vwCl (wl cy sz (G, T)) H) : va_P D vwCl (wl cy sz (G', T)) H := by
  intro k q hq
  obtain ⟨hk, rfl⟩ := wl_get' hq
  have h1 := h k _ (wl_get hk)
  rcases hR k hk with e | ⟨e1, e2⟩ | ⟨e1, e2⟩
  · rw [← cellOf_cong (M := (G, T)) (M' := (G', T)) e rfl]
    exact h1
  · rw [cell1 e1] at h1 ⊢
    have e3 : SF sz k ((G', T).1 k) = SF sz k ((G, T).1 k) := by
      show SF sz k (G' k) = SF sz k (G k)
      simp only [SF, e2 6 (by decide) (by decide), e2 7 (by decide) (by decide), e2 8 (by decide) (by decide), e2 9 (by decide) (by decide), e2 10 (by decide) (by decide), e2 11 (by decide) (by decide), e2 12 (by decide) (by decide), e2 13 (by decide) (by decide), e2 14 (by decide) (by decide)]
    rw [e3]
    exact h1
  · rw [cell5 e1] at h1 ⊢
    have h2 : H[sz + k]? = some (vp_cell (cy 1) (ln k, .inl (G k))) := h1
    show H[sz + k]? = some (vp_cell (cy 1) (ln k, .inl (G' k)))
    rw [← arr_cong e2]
    exact h2
section COPY
variable {VV : VT} {sz : Nat} {own : String} {cc : ByteArray} {R : Room} {nL cells slots pc q9 : Nat} {L : List (Nat × Value)} {st : List Value} {G G' : Nat → Nat → Int32} {T : (Nat → Nat) × Int64}
theorem vv_rel (h : Ctx VV sz own cc R nL) (hR : Rel G G') (kk : VV cells slots pc L st (G', T)) : VV cells slots pc L st (G, T) := by
  obtain ⟨p, l, e, s, m, args, below, meth, c, D, cy, Q, hx, hb, hml, hown, hts, hE, hfl, rfl⟩ := h
  intro H locs ls hl hc hP hS
  exact kk H locs ls hl hc (wl_rel hR hP) hS
theorem ro_Gga {k j a index : Nat} (hj : j < 6 ∧ a = j + 1) (h : Ctx VV sz own cc R nL) (hB : isB k) (hlink : Cond.fieldLink own index (TX1 j).1 (TX1 j).2.1 (TX1 j).2.2.1 ∈ TW) (hdg : decode cc pc = .ok (.getfield index, 3)) (hq : pc + 3 = q9) (kk : VV cells slots q9 L (.ref (sz + (k + a)) :: st) (G, T)) : VV cells slots pc L (.ref (sz + k) :: st) (G, T) := by
  obtain ⟨h1, rfl⟩ := hj
  refine ro_getV h (isB_lt hB) (fun cy => cell1 (isB_kd hB).2.2.1) rfl inW1 (by omega) (v := .ref (sz + (k + (j + 1)))) ?_ hlink hdg hq kk
  have : j = 0 ∨ j = 1 ∨ j = 2 ∨ j = 3 ∨ j = 4 ∨ j = 5 := by omega
  rcases this with rfl | rfl | rfl | rfl | rfl | rfl <;> rfl
theorem ro_Ggi {k j index : Nat} (hj : 6 ≤ j ∧ j < 15) (h : Ctx VV sz own cc R nL) (hB : isB k) (hlink : Cond.fieldLink own index (TX1 j).1 (TX1 j).2.1 (TX1 j).2.2.1 ∈ TW) (hdg : decode cc pc = .ok (.getfield index, 3)) (hq : pc + 3 = q9) (kk : VV cells slots q9 L (.int (G k j) :: st) (G, T)) : VV cells slots pc L (.ref (sz + k) :: st) (G, T) := by
  refine ro_getV h (isB_lt hB) (fun cy => cell1 (isB_kd hB).2.2.1) rfl inW1 hj.2 (v := .int (G k j)) ?_ hlink hdg hq kk
  obtain ⟨h1, h2⟩ := hj
  have : j = 6 ∨ j = 7 ∨ j = 8 ∨ j = 9 ∨ j = 10 ∨ j = 11 ∨ j = 12 ∨ j = 13 ∨ j = 14 := by omega
  rcases this with rfl | rfl | rfl | rfl | rfl | rfl | rfl | rfl | rfl <;> rfl
theorem ro_Gpi {k j index : Nat} {v : Int32} (hj : 6 ≤ j ∧ j < 15) (h : Ctx VV sz own cc R nL) (hB : isB k) (hlink : Cond.fieldLink own index (TX1 j).1 (TX1 j).2.1 (TX1 j).2.2.1 ∈ TW) (hdg : decode cc pc = .ok (.putfield index, 3)) (hq : pc + 3 = q9) (kk : VV cells slots q9 L st (put G k j v, T)) : VV cells slots pc L (.int v :: .ref (sz + k) :: st) (G, T) := by
  obtain ⟨h1, h2⟩ := hj
  have hj' : j = 6 ∨ j = 7 ∨ j = 8 ∨ j = 9 ∨ j = 10 ∨ j = 11 ∨ j = 12 ∨ j = 13 ∨ j = 14 := by omega
  refine ro_putV (ty := .int) h (isB_lt hB) (fun cy => cell1 (isB_kd hB).2.2.1) rfl inW1 tyX1_ok nmX1 h2 ?_ ?_ rfl rfl ?_ (fun cy => ?_) hlink hdg hq kk
  · rcases hj' with rfl | rfl | rfl | rfl | rfl | rfl | rfl | rfl | rfl <;> rfl
  · rcases hj' with rfl | rfl | rfl | rfl | rfl | rfl | rfl | rfl | rfl <;> rfl
  · show j < 15
    exact h2
  · rw [cell1 (isB_kd hB).2.2.1, show (put G k j v, T).1 k = upd (G k) j v from put_s]
    rcases hj' with rfl | rfl | rfl | rfl | rfl | rfl | rfl | rfl | rfl <;> rfl
theorem ro_copy {k1 k2 N index : Nat} (h : Ctx VV sz own cc R nL) (hk1 : k1 < 75) (hk2 : k2 < 75) (h5 : kd k1 = 5) (h6 : kd k2 = 5) (hl1 : ln k1 = N) (hl2 : ln k2 = N) (hN : N < 2 ^ 31) (hlink : Cond.methodLink own index arraycopyName ∈ TW) (hnat : Cond.native arraycopyName ∈ TW) (hstat : Cond.static arraycopyName ∈ TW) (hini : Cond.initialized "java/lang/System" ∈ TW) (hfr : 1 ≤ R.frames) (hlo : (st.map fun v => v.category).sum + (nativeFrameWords "java/lang/System" "arraycopy" 5 + 11) ≤ R.locals) (hdg : decode cc pc = .ok (.invokestatic index, 3)) (hq : pc + 3 = q9) (kk : VV cells slots q9 L st (setRow G k2 (va_cpy (G k1) (G k2) 0 0 N), T)) : VV cells slots pc L (.int (nI N) :: .int (nI 0) :: .ref (sz + k2) :: .int (nI 0) :: .ref (sz + k1) :: st) (G, T) := by
  obtain ⟨p, l, e, s, m, args, below, meth, c, D, cy, Q, hx, hb, hml, hown, hts, hE, hfl, rfl⟩ := h
  subst hq
  intro H locs ls hl hc hP hS
  have e0 : (nI 0).toNatClampNeg = 0 := nI_clamp (by decide)
  have eN : (nI N).toNatClampNeg = N := nI_clamp hN
  refine va_copyi hx hb (hml.trans hl.1.symm) hown (hts _ hlink) (hts _ hnat) (hts _ hstat) (hts _ hini) hE.2.1 hP wl_D hS k1 k2 1 1 (by rw [wl_get hk1, cell5 h5]) (by rw [wl_get hk2, cell5 h6]) rfl rfl rfl (nI_pos (by decide)) (nI_pos (by decide)) (nI_pos hN) (by rw [e0, eN]; omega) (by rw [e0, eN]; omega) (fun _ _ => rfl) hfr hlo hdg (fun H1 locs1 hP1 hD1 hS1 => ?_)
  rw [e0, eN, wl_set (M' := (setRow G k2 (va_cpy (G k1) (G k2) 0 0 N), T)) (fun j hj => by
    by_cases hk : j = k2
    · subst hk
      rw [if_pos rfl, cell5 h6]
      show Sum.inl (cy 1, ln j, Sum.inl (setRow G j _ j)) = _
      rw [setRow, if_pos rfl]
    · rw [if_neg hk]
      exact cellOf_cong (show setRow G k2 _ j = G j by rw [setRow, if_neg hk]) rfl)] at hP1
  exact kk H1 locs1 ls hl hc hP1 hS1
end COPY
theorem isB_apart {r1 r2 : Nat} (h1 : isB r1) (h2 : isB r2) (hn : r1 ≠ r2) : r1 + 7 ≤ r2 ∨ r2 + 7 ≤ r1 := by
  have key : ∀ a ∈ [1, 8, 19, 26, 33, 40, 47, 54, 61, 68], ∀ b ∈ [1, 8, 19, 26, 33, 40, 47, 54, 61, 68], a ≠ b → a + 7 ≤ b ∨ b + 7 ≤ a := by decide
  exact key r1 h1 r2 h2 hn
theorem setRow_at {g : Nat → Nat → Int32} {k k' : Nat} {f : Nat → Int32} : setRow g k f k' = if k' = k then f else g k' := rfl
theorem kl_X1_58 : Cond.methodLink RX1 58 arraycopyName ∈ TW := tw_in (List.mem_of_getElem? (i := 280) (by decide +kernel)) (by decide +kernel)
theorem acNat : Cond.native arraycopyName ∈ TW := tw_in (List.mem_of_getElem? (i := 282) (by decide +kernel)) (by decide +kernel)
theorem acSta : Cond.static arraycopyName ∈ TW := tw_in (List.mem_of_getElem? (i := 281) (by decide +kernel)) (by decide +kernel)
theorem acIni : Cond.initialized "java/lang/System" ∈ TW := tw_in (List.mem_of_getElem? (i := 22) (by decide +kernel)) (by decide +kernel)
theorem avG_stop {e : Int32} {g : SV} (h : e ≤ g 0 8) : ∀ m, avG e m g = g := by
  intro m
  cases m with
  | zero => rfl
  | succ m => rw [avG, if_pos h]
theorem avG_step {e : Int32} {g : SV} {n k : Nat} (h : ¬ e ≤ g 0 8) (hk : k < n) : avG e (n - k) g = avG e (n - (k + 1)) (evG g e) := by
  have e1 : n - k = (n - (k + 1)) + 1 := by omega
  rw [e1, avG, if_neg h]
