/-! truth values, loops, path ends -/
def bi (b : Bool) : Int32 := nI (bif b then 1 else 0)
theorem bi_0 {b : Bool} : bi b = 0 ↔ b = false := by cases b <;> decide
theorem bi_n {b : Bool} : ¬ bi b = 0 ↔ b = true := by cases b <;> decide
theorem bi_nar (b : Bool) : narrow .boolean (.int (bi b)) = .int (bi b) := by cases b <;> rfl
theorem down_ind {P : Nat → Prop} (N : Nat) (hs : ∀ k, k < N → P (k + 1) → P k) (hN : P N) : P 0 := by
  have key : ∀ j, j ≤ N → P (N - j) := by
    intro j
    induction j with
    | zero => intro _; exact hN
    | succ j ih =>
      intro hj
      have h1 := hs (N - (j + 1)) (by omega)
      have h2 : N - (j + 1) + 1 = N - j := by omega
      rw [h2] at h1
      exact h1 (ih (by omega))
  have h := key N (Nat.le_refl N)
  rw [Nat.sub_self] at h
  exact h
theorem down_from {P : Nat → Prop} (a N : Nat) (ha : a ≤ N) (hs : ∀ k, a ≤ k → k < N → P (k + 1) → P k) (hN : P N) : P a := by
  have h := down_ind (P := fun k => P (a + k)) (N - a) (fun k hk h => hs (a + k) (by omega) (by omega) h) (by show P (a + (N - a)); rw [Nat.add_sub_cancel' ha]; exact hN)
  exact h
theorem nI_lit_le {a b : Nat} (h : b < a) (ha : a < 2 ^ 31) : ¬ nI a ≤ nI b := by
  rw [nI_leI ha (by omega)]; omega
theorem nI_add' {x y : Int32} {a b : Nat} (hx : x = nI a) (hy : y = nI b) : x + y = nI (a + b) := by rw [hx, hy, nI_add]
theorem nI_mul' {x y : Int32} {a b : Nat} (hx : x = nI a) (hy : y = nI b) : x * y = nI (a * b) := by rw [hx, hy, pk_mul]
theorem ni_inc (k : Nat) : nI k + Int32.ofInt 1 = nI (k + 1) := nI_1 k
theorem ni_le {a b : Nat} (h : a ≤ b) (hb : b < 2147483648) : nI a ≤ nI b := nI_le h hb
theorem ni_lt {a b : Nat} (h : a < b) (hb : b < 2147483648) : nI a < nI b := nI_lt h hb
theorem ni_nle {a b : Nat} (h : b < a) (ha : a < 2147483648) : ¬ nI a ≤ nI b := nI_lit_le h ha
theorem ni_nlt {a b : Nat} (h : b ≤ a) (ha : a < 2147483648) : ¬ nI a < nI b := nI_nlt h ha
theorem isB_lt {r : Nat} (hB : isB r) : r < 75 := by have := (isB_kd hB).1; omega
section TOOLS
variable {VV : VT} {sz : Nat} {own : String} {cc : ByteArray} {R : Room} {nL cells slots pc mc ms : Nat} {L L' : List (Nat × Value)} {st : List Value} {M M' : Mem}
theorem ro_ifb_eq {b : Bool} {off : Int} {tgt q : Nat} (h : Ctx VV sz own cc R nL) (hdg : decode cc pc = .ok (.ifCond .eq off, 3)) (ht : (pc : Int) + off = (tgt : Int)) (hq : pc + 3 = q) (kt : b = false → VV cells slots tgt L st M) (kf : b = true → VV cells slots q L st M) : VV cells slots pc L (.int (bi b) :: st) M :=
  ro_if_eq h hdg ht hq (fun e => kt (bi_0.mp e)) (fun e => kf (bi_n.mp e))
theorem ro_ifb_ne {b : Bool} {off : Int} {tgt q : Nat} (h : Ctx VV sz own cc R nL) (hdg : decode cc pc = .ok (.ifCond .ne off, 3)) (ht : (pc : Int) + off = (tgt : Int)) (hq : pc + 3 = q) (kt : b = true → VV cells slots tgt L st M) (kf : b = false → VV cells slots q L st M) : VV cells slots pc L (.int (bi b) :: st) M :=
  ro_if_ne h hdg ht hq (fun e => kt (bi_n.mp e)) (fun e => kf (bi_0.mp e))
theorem vv_LM (eL : L = L') (eM : M = M') (k : VV cells slots pc L' st M') : VV cells slots pc L st M := by rw [eL, eM]; exact k
theorem fin_i {x y : Int32} (h : CtxF VV sz own cc (some .int) R nL (.inl (some y)) M' mc ms) (h1 : cells ≤ mc) (h2 : slots ≤ ms) (hdg : decode cc pc = .ok (.ireturn, 1)) (e : x = y) (eM : M = M') : VV cells slots pc L [.int x] M := by
  subst e; subst eM
  exact ro_ireturn h h1 h2 hdg
theorem fin_z {x y : Int32} (h : CtxF VV sz own cc (some .boolean) R nL (.inl (some y)) M' mc ms) (h1 : cells ≤ mc) (h2 : slots ≤ ms) (hdg : decode cc pc = .ok (.ireturn, 1)) (hn : narrow .boolean (.int x) = .int x) (e : x = y) (eM : M = M') : VV cells slots pc L [.int x] M := by
  subst e; subst eM
  exact ro_zreturn h hn h1 h2 hdg
theorem fin_v (h : CtxF VV sz own cc none R nL (.inl none) M' mc ms) (h1 : cells ≤ mc) (h2 : slots ≤ ms) (hdg : decode cc pc = .ok (.return_, 1)) (eM : M = M') : VV cells slots pc L [] M := by
  subst eM
  exact ro_return h h1 h2 hdg
end TOOLS
theorem ni_ne {a b : Nat} (h : a ≠ b) (ha : a < 2147483648) (hb : b < 2147483648) : ¬ nI a = nI b := by rw [nI_eq ha hb]; exact h
def oN (o : Option Nat) : Int32 := match o with
  | none => -1
  | some h => nI h
theorem oN_none {o : Option Nat} (h : ∀ k, o = some k → k < 1000) : oN o = -1 ↔ o = none := by
  cases o with
  | none => simp [oN]
  | some k =>
    have hk := h k rfl
    have h1 : ¬ nI k = -1 := by
      intro e
      have h2 : (nI k).toInt = -1 := by rw [e]; rfl
      rw [nI_toInt (by omega)] at h2
      omega
    simp [oN, h1]
theorem setL_s {t : List (Nat × Value)} {i : Nat} {v w : Value} : setL ((i, w) :: t) i v = (i, v) :: t := by rw [setL, Nat.beq_refl]; rfl
theorem setL_t {t : List (Nat × Value)} {i j : Nat} {v w : Value} (h : ¬ j = i) : setL ((j, w) :: t) i v = (j, w) :: setL t i v := by
  have hb : Nat.beq j i = false := by
    cases hb : Nat.beq j i with
    | false => rfl
    | true => exact absurd (Nat.eq_of_beq_eq_true hb) h
  rw [setL, hb]; rfl
theorem setL_0 {i : Nat} {v : Value} : setL [] i v = [(i, v)] := rfl
theorem dropL_0 {ks : List Nat} : dropL [] ks = [] := rfl
theorem dropL_c {t : List (Nat × Value)} {j : Nat} {w : Value} {ks : List Nat} : dropL ((j, w) :: t) ks = if j ∈ ks then dropL t ks else (j, w) :: dropL t ks := by
  unfold dropL
  by_cases h : j ∈ ks
  · have h1 : (ks.all fun k => !(Nat.beq j k)) = false := by
      rw [List.all_eq_false]
      exact ⟨j, h, by simp⟩
    rw [List.filter_cons, if_neg (by rw [h1]; decide), if_pos h]
  · have h1 : (ks.all fun k => !(Nat.beq j k)) = true := by
      rw [List.all_eq_true]
      intro k hk
      have hn : j ≠ k := fun e => h (e ▸ hk)
      have hb : Nat.beq j k = false := by
        cases hb : Nat.beq j k with
        | false => rfl
        | true => exact absurd (Nat.eq_of_beq_eq_true hb) hn
      rw [hb]; rfl
    rw [List.filter_cons, if_pos h1, if_neg h]
theorem ni_m1 {k : Nat} (hk : k < 2147483648) : ¬ nI k = -1 := by
  intro e
  have h2 : (nI k).toInt = -1 := by rw [e]; rfl
  rw [nI_toInt hk] at h2
  omega
theorem put_at {g : Nat → Nat → Int32} {k j k2 j2 : Nat} {v : Int32} : put g k j v k2 j2 = if k2 = k ∧ j2 = j then v else g k2 j2 := by
  unfold put upd
  by_cases h1 : k2 = k
  · subst h1
    by_cases h2 : j2 = j <;> simp [h2]
  · simp [h1]
theorem ni_le0 {a : Nat} (h : a < 2147483648) : nI a ≤ 0 ↔ a = 0 := by
  rw [← nI_0, nI_leI h (by decide)]; omega
