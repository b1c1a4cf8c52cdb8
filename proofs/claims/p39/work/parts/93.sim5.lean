/-! what the choice of a transfer looks at -/
def Cg (s s' : NV) (b : Nat) : Prop := ∀ j, j ≥ 8 ∨ j = 4 ∨ j = 6 → s (b + j) = s' (b + j)
section
variable {s s' : NV} {b : Nat}
theorem ofM_cg (h : Cg s s' b) {k w : Nat} : ofM s b k w = ofM s' b k w := by
  unfold ofM
  have := h (8 + 4 * k + w) (Or.inl (by omega))
  rw [← Nat.add_assoc, ← Nat.add_assoc] at this
  exact this
theorem rpM_cg (h : Cg s s' b) {k p : Nat} : rpM s b k p = rpM s' b k p := by
  unfold rpM
  have := h (92 + 30 * k + p) (Or.inl (by omega))
  rw [← Nat.add_assoc, ← Nat.add_assoc] at this
  exact this
theorem cpML_cg (h : Cg s s' b) {p : Nat} : ∀ k, cpML s b p k = cpML s' b p k := by
  intro k
  induction k with
  | zero => rfl
  | succ k ih => rw [cpML, cpML, ih, cpMb, cpMb, ofM_cg h, rpM_cg h]
theorem hdL_cg (h : Cg s s' b) {k : Nat} : ∀ p, hdL s b k p = hdL s' b k p := by
  intro p
  induction p with
  | zero => rfl
  | succ p ih => rw [hdL, hdL, ih, rpM_cg h]
theorem feM_cg (h : Cg s s' b) {k : Nat} : feM s b k = feM s' b k := by
  unfold feM leM usM hdM
  rw [ofM_cg h, ofM_cg h, ofM_cg h, hdL_cg h, h 4 (by omega), h 6 (by omega)]
theorem bhM_cg (h : Cg s s' b) {p : Nat} : ∀ k, bhM s b p k = bhM s' b p k := by
  intro k
  induction k with
  | zero => rfl
  | succ k ih => rw [bhM, bhM, ih, rbM, rbM, rpM_cg h, feM_cg h]
theorem clsM_cg (h : Cg s s' b) {p k : Nat} : clsM s b p k = clsM s' b p k := by
  unfold clsM cpM boM
  rw [cpML_cg h, bhM_cg h, ofM_cg h]
theorem Cg_57 {v : Int32} {j : Nat} (hj : j = 5 ∨ j = 7) : Cg (upd s (b + j) v) s b := by
  intro i hi
  unfold upd
  rw [if_neg (by omega)]
theorem Cg_tr {s'' : NV} (h1 : Cg s s' b) (h2 : Cg s' s'' b) : Cg s s'' b := fun j hj => (h1 j hj).trans (h2 j hj)
theorem chM_cg : ∀ k, Cg (chM s b k).2 s b := by
  intro k
  induction k with
  | zero => exact fun _ _ => rfl
  | succ k ih =>
    rw [chM]
    split
    · exact Cg_tr (Cg_57 (Or.inr rfl)) (Cg_tr (Cg_57 (Or.inl rfl)) ih)
    · exact ih
end
