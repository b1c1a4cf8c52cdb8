/-! a text run, both ways -/
theorem exeT_y {f : SV} {c p : Nat} {y y' : Int32} (ht : tOK c p) (h : c = 115 ∨ c = 119 ∨ c = 108 ∨ c = 114 → y = y') : exeT f c p y = exeT f c p y' := by
  rcases ht with ⟨rfl | rfl | rfl, hp⟩ | ⟨rfl | rfl | rfl | rfl | rfl, hp⟩ | ⟨rfl, hp⟩
  · rw [h (by decide)]
  · rw [h (by decide)]
  · rw [exeT_100, exeT_100]
  · rw [h (by decide)]
  · rw [h (by decide)]
  · rw [exeT_99, exeT_99]
  · rw [exeT_111, exeT_111]
  · rw [exeT_120, exeT_120]
  · rw [exeT_116, exeT_116]
theorem two_y {f : SV} {c : Nat} (h : f 0 0 = nI c) (hc : c = 115 ∨ c = 119 ∨ c = 108 ∨ c = 114) : rTwo f = true := by
  rcases hc with rfl | rfl | rfl | rfl
  · exact (ls_115.2.2.2.2 f h).1
  · exact (ls_119.2.2.2.2 f h).1
  · exact (ls_108.2.2.2.2 f h).1
  · exact (ls_114.2.2.2.2 f h).1
theorem tOK_c {c p : Nat} (h : tOK c p) : c ≤ 120 ∧ p ≤ 600 := by
  unfold tOK at h
  omega
section
variable {g2 f0 : SV} {s0 : NV} {L B0 K : Nat} {tx : Nat → Nat} {l x y : Int32}
/-- alive ahead of command j -/
def AlvT (L : Nat) (tx : Nat → Nat) (l x y : Int32) (f0 g2 : SV) (s0 : NV) (B0 : Nat) (q j : Nat) : Prop :=
  ∃ f g, ruP L tx f0 g2 q = (f, g, j) ∧ RFr g ∧ OpA f (sqT L tx l x y s0 j) s0 (B0 + j) 1000000 ∧ (∀ k, k < q → L ≤ k ∨ tx k = 59 → cmP (ruP L tx f0 g2 k) true) ∧ (∀ k, k < j → ruC L tx l x y s0 k) ∧ cnT L tx l x y s0 j = j ∧
    (∀ k, k < j → cN (rd2 L tx l x y k).2.2.1 = 116 → ∀ i, i < cN (rd2 L tx l x y k).2.2.2.1 → trOK (tkM (spL (sqT L tx l x y s0 k) 0 i) 0) 0)
def EndT (L : Nat) (tx : Nat → Nat) (l x y : Int32) (f0 g2 : SV) (s0 : NV) (B0 : Nat) : Prop :=
  ∃ K9 KM, K9 ≤ L + 1 ∧ KM ≤ 82 ∧ (∀ k, k < K9 → L ≤ k ∨ tx k = 59 → cmP (ruP L tx f0 g2 k) true) ∧ (K9 = L + 1 ∨ (K9 = L ∧ cmP (ruP L tx f0 g2 K9) false) ∨ (K9 < L ∧ tx K9 = 59 ∧ cmP (ruP L tx f0 g2 K9) false)) ∧
    (∀ k, k < KM → ruC L tx l x y s0 k) ∧ ¬ ruC L tx l x y s0 KM ∧ cnT L tx l x y s0 KM = KM ∧ (ruP L tx f0 g2 K9).2.2 = KM ∧ OpA (ruP L tx f0 g2 K9).1 (sqT L tx l x y s0 KM) s0 (B0 + 82) 1000000 ∧
    (∀ k, k < KM → cN (rd2 L tx l x y k).2.2.1 = 116 → ∀ i, i < cN (rd2 L tx l x y k).2.2.2.1 → trOK (tkM (spL (sqT L tx l x y s0 k) 0 i) 0) 0)
/-- between two commands the reader alone moves -/
theorem ru_go {f g : SV} {P B j : Nat} (hP : ruP L tx f0 g2 P = (f, g, j)) (hB : B ≤ L) (hn : ∀ i, P + i < B → tx (P + i) ≠ 59) : ∀ i, P + i ≤ B → ruP L tx f0 g2 (P + i) = (f, rnG g tx P i, j) := by
  intro i
  induction i with
  | zero => intro _; exact hP
  | succ i ih =>
    intro hi
    have h1 := ih (by omega)
    have h2 := ruP_a (L := L) (tx := tx) (f := f0) (g := g2) (k := P + i) (by omega) (hn i (by omega))
    rw [h1] at h2
    exact h2
/-- one command more, or the end -/
theorem alv_step {P j : Nat} (hL : L ≤ 80) (hB0 : B0 + 100 < 1000000) (hj : j ≤ 81) (hPL : P ≤ L) (hP : (h2T L tx l x y j).2.1 = P) (hok : (rd2 L tx l x y j).1 = true) (hend : (rd2 L tx l x y j).2.1 = L ∨ ((rd2 L tx l x y j).2.1 < L ∧ tx (rd2 L tx l x y j).2.1 = 59)) (ha : AlvT L tx l x y f0 g2 s0 B0 P j) :
    AlvT L tx l x y f0 g2 s0 B0 ((rd2 L tx l x y j).2.1 + 1) (j + 1) ∨ EndT L tx l x y f0 g2 s0 B0 := by
  obtain ⟨f, g, a1, a2, a3, a4, a5, a6, a7⟩ := ha
  have hK : CmK L tx g P (rd2 L tx l x y j) := by
    have := rc_K (tx := tx) (x := (h2T L tx l x y j).2.2.2.1) (y := (h2T L tx l x y j).2.2.2.2) hL hPL a2
    rw [← hP] at this ⊢
    exact this
  obtain ⟨c, p, r1, r2, r3⟩ := rcT_ok hok
  obtain ⟨y1, y2⟩ := rcT_y hok
  obtain ⟨tc, tp⟩ := tOK_c r3
  have r1 : (rd2 L tx l x y j).2.2.1 = nI c := r1
  have r2 : (rd2 L tx l x y j).2.2.2.1 = nI p := r2
  have ey : (rd2 L tx l x y j).2.2.2.2 = (rcT L tx (h2T L tx l x y j).2.1 (h2T L tx l x y j).2.2.2.1 (h2T L tx l x y j).2.2.2.2).2.2.2.2 := rfl
  have el : (rd2 L tx l x y j).2.2.1 = (rcT L tx (h2T L tx l x y j).2.1 (h2T L tx l x y j).2.2.2.1 (h2T L tx l x y j).2.2.2.2).2.2.1 := rfl
  rw [← ey, ← el] at y1 y2
  have esq : sqT L tx l x y s0 (j + 1) = dsT (sqT L tx l x y s0 j) c p (rd2 L tx l x y j).2.2.2.2 := by
    rw [sqT, r1, r2, cN_n (by omega), cN_n (by omega)]
  have ecn : cnT L tx l x y s0 (j + 1) = cnT L tx l x y s0 j + (if dvT (sqT L tx l x y s0 j) c p (rd2 L tx l x y j).2.2.2.2 < 0 then 0 else 1) := by
    rw [cnT, r1, r2, cN_n (by omega), cN_n (by omega)]
  have eru : ruC L tx l x y s0 j ↔ canT (sqT L tx l x y s0 j) c p = true := by
    unfold ruC
    rw [r1, r2, cN_n (by omega), cN_n (by omega)]
    exact ⟨fun z => z.2, fun z => ⟨hok, z⟩⟩
  have etr : (cN (rd2 L tx l x y j).2.2.1 = 116 → c = 116) ∧ cN (rd2 L tx l x y j).2.2.2.1 = p := by
    rw [r1, r2, cN_n (by omega), cN_n (by omega)]
    exact ⟨fun z => z, rfl⟩
  generalize hr : rd2 L tx l x y j = r at hok hend hK r1 r2 y1 y2 esq ecn etr ⊢
  obtain ⟨k1, k2, k3, -, k5⟩ := hK
  obtain ⟨d1, d2, d3, d4, d5, -⟩ := k5 hok
  have hgo := ru_go a1 k2 (fun i hi => (k3 i hi).2) (r.2.1 - P) (by omega)
  rw [show P + (r.2.1 - P) = r.2.1 by omega] at hgo
  generalize rnG g tx P (r.2.1 - P) = gB at d1 d2 d3 d4 d5 hgo
  obtain ⟨s1, s2, s3, s4⟩ := a3
  have hyc : c = 108 → ∃ q, 1 ≤ q ∧ q ≤ 20 ∧ r.2.2.2.2 = nI q := fun e => y1 (by rw [r1, e])
  have hyd : c = 114 → ∃ q, 1 ≤ q ∧ q ≤ 600 ∧ r.2.2.2.2 = nI q := fun e => y2 (by rw [r1, e])
  obtain ⟨e1, e2⟩ := cmd_all (by omega) s1 s2 s3 r3 hyc hyd
  have hcm : ∀ b, canT (sqT L tx l x y s0 j) c p = b → cmP (ruP L tx f0 g2 r.2.1) b := fun b hb => by
    rw [hgo]
    exact ⟨c, p, d3.trans r1, d4.trans r2, r3, e1.trans hb⟩
  have hcommon : ∀ k, k < r.2.1 → L ≤ k ∨ tx k = 59 → cmP (ruP L tx f0 g2 k) true := fun k hk hx => by
    by_cases z : k < P
    · exact a4 k z hx
    · exfalso
      have := (k3 (k - P) (by omega)).2
      rw [show P + (k - P) = k by omega] at this
      rcases hx with q | q
      · omega
      · exact this q
  cases hcan : canT (sqT L tx l x y s0 j) c p with
  | true =>
    left
    obtain ⟨o1, o2, o3⟩ := e2 hcan
    have hstop : L ≤ r.2.1 ∨ tx r.2.1 = 59 := by
      rcases hend with q | q
      · exact Or.inl (by omega)
      · exact Or.inr q.2
    have hex := ruP_e (L := L) (tx := tx) (f := f0) (g := g2) (k := r.2.1) (c := c) (p := p) hstop (by rw [hgo]; exact d3.trans r1) (by rw [hgo]; exact d4.trans r2) r3
    rw [hgo] at hex
    have hyy : exeT f c p (gB 0 2) = exeT f c p r.2.2.2.2 := exeT_y r3 fun hc => d5 (two_y (d3.trans r1) hc)
    refine ⟨_, _, hex, rRes_fr, ?_, fun k hk hx => ?_, fun k hk => ?_, ?_, fun k hk hx i hi => ?_⟩
    · show OpA (exeT f c p (gB 0 2)) _ _ _ _
      rw [hyy, esq]
      exact o1.tr s4
    · by_cases z : k < r.2.1
      · exact hcommon k z hx
      · have : k = r.2.1 := by omega
        rw [this]; exact hcm true hcan
    · by_cases z : k < j
      · exact a5 k z
      · have : k = j := by omega
        rw [this]; exact eru.mpr hcan
    · rw [ecn, if_neg o2, a6]
    · by_cases z : k < j
      · exact a7 k z hx i hi
      · have : k = j := by omega
        subst this
        rw [hr] at hx hi
        rw [etr.2] at hi
        exact o3 (etr.1 hx) i hi
  | false =>
    right
    refine ⟨r.2.1, j, by omega, by omega, hcommon, ?_, a5, fun z => ?_, a6, by rw [hgo], ?_, a7⟩
    · rcases hend with q | q
      · exact Or.inr (Or.inl ⟨q, hcm false hcan⟩)
      · exact Or.inr (Or.inr ⟨q.1, q.2, hcm false hcan⟩)
    · rw [eru.mp z] at hcan; cases hcan
    · rw [hgo]
      exact OpA.mono (B := B0 + j) ⟨s1, s2, s3, s4⟩ (by omega)
end
/-- the second reading finds the commands where the first one did -/
theorem pos_2 {L : Nat} {tx : Nat → Nat} {l x y l' x' y' : Int32} : ∀ k, k ≤ vaK L tx l x y → (h2T L tx l' x' y' k).2.1 = (hdT L tx l x y k).2.1 := by
  intro k
  induction k with
  | zero => intro _; rfl
  | succ k ih =>
    intro hk
    have h1 := ih (by omega)
    obtain ⟨v1, v2, v3⟩ := vaK_c (L := L) (tx := tx) (l := l) (x := x) (y := y) (k := k) (by omega)
    have e : (rd2 L tx l' x' y' k).2.1 = (rdT L tx l x y k).2.1 := by
      show (rcT L tx (h2T L tx l' x' y' k).2.1 _ _).2.1 = _
      rw [h1]; exact rcT_xy.2
    show (if sgT L tx (rd2 L tx l' x' y' k).2.1 = 59 then (rd2 L tx l' x' y' k).2.1 + 1 else (rd2 L tx l' x' y' k).2.1) = (rdT L tx l x y k).2.1 + 1
    rw [e, if_pos v3]
/-- the whole run -/
theorem run_all {f0 g2 : SV} {s0 : NV} {L B0 : Nat} {tx : Nat → Nat} {l x y l' x' y' : Int32} (hL : L ≤ 80) (hB0 : B0 + 100 < 1000000) (hv : vaT L tx l x y = true) (hS : Sim f0 s0 0) (hJ : JJ s0 0 B0 1000000) (h6 : J6 s0 0) : EndT L tx l' x' y' f0 g2 s0 B0 := by
  have hp2 := fun k hk => pos_2 (L := L) (tx := tx) (l := l) (x := x) (y := y) (l' := l') (x' := x') (y' := y') k hk
  have hd := hdT_le (L := L) (tx := tx) (l := l) (x := x) (y := y) hL (fun k hk => vaK_c hk)
  have hd2 := err_hd (g := g2) (L := L) (tx := tx) (l := l) (x := x) (y := y) hL
  have hvc := fun k hk => vaK_c (L := L) (tx := tx) (l := l) (x := x) (y := y) (k := k) hk
  have hvK : (rdT L tx l x y (vaK L tx l x y)).1 = true ∧ (rdT L tx l x y (vaK L tx l x y)).2.1 = L := by
    have e : vaT L tx l x y = ((rdT L tx l x y (vaK L tx l x y)).1 && decide ((rdT L tx l x y (vaK L tx l x y)).2.1 = L)) := rfl
    rw [e, Bool.and_eq_true, decide_eq_true_eq] at hv
    exact hv
  generalize vaK L tx l x y = K at hp2 hd hd2 hvc hvK
  have hK80 : K ≤ 80 := by have := hd K (Nat.le_refl K); omega
  have hr : ∀ k, k ≤ K → (rd2 L tx l' x' y' k).1 = (rdT L tx l x y k).1 ∧ (rd2 L tx l' x' y' k).2.1 = (rdT L tx l x y k).2.1 := fun k hk => by
    show (rcT L tx (h2T L tx l' x' y' k).2.1 _ _).1 = _ ∧ (rcT L tx (h2T L tx l' x' y' k).2.1 _ _).2.1 = _
    rw [hp2 k hk]; exact rcT_xy
  have key : ∀ d j, j + d = K → AlvT L tx l' x' y' f0 g2 s0 B0 (h2T L tx l' x' y' j).2.1 j → EndT L tx l' x' y' f0 g2 s0 B0 := by
    intro d
    induction d with
    | zero =>
      intro j hj ha
      have ej : j = K := by omega
      subst ej
      have e1 : (rd2 L tx l' x' y' j).2.1 = L := (hr j (Nat.le_refl j)).2.trans hvK.2
      rcases alv_step hL hB0 (by omega) (by rw [hp2 j (Nat.le_refl j)]; exact (hd2 j (Nat.le_refl j)).1) rfl ((hr j (Nat.le_refl j)).1.trans hvK.1) (Or.inl e1) ha with h | h
      · rw [e1] at h
        obtain ⟨f, g, a1, a2, a3, a4, a5, a6, a7⟩ := h
        refine ⟨L + 1, j + 1, Nat.le_refl _, by omega, a4, Or.inl rfl, a5, fun z => ?_, a6, by rw [a1], by rw [a1]; exact a3.mono (by omega), a7⟩
        have hz : (rd2 L tx l' x' y' (j + 1)).1 = true := z.1
        have e2 : (h2T L tx l' x' y' (j + 1)).2.1 = L := by
          have s0L : sgT L tx L = 0 := by unfold sgT; rw [if_pos (Nat.le_refl L)]
          show (if sgT L tx (rd2 L tx l' x' y' j).2.1 = 59 then (rd2 L tx l' x' y' j).2.1 + 1 else (rd2 L tx l' x' y' j).2.1) = L
          rw [e1, s0L, if_neg (by decide)]
        have e3 : (rcT L tx (h2T L tx l' x' y' (j + 1)).2.1 (h2T L tx l' x' y' (j + 1)).2.2.2.1 (h2T L tx l' x' y' (j + 1)).2.2.2.2).1 = true := hz
        rw [e2] at e3
        unfold rcT at e3
        have s0L : sgT L tx L = 0 := by unfold sgT; rw [if_pos (Nat.le_refl L)]
        simp only [s0L] at e3
        rw [if_neg (by decide), if_neg (by decide), if_neg (by decide), if_neg (by decide), if_neg (by decide), if_neg (by decide)] at e3
        cases e3
      · exact h
    | succ d ih =>
      intro j hj ha
      have hjK : j < K := by omega
      obtain ⟨v1, v2, v3⟩ := hvc j hjK
      obtain ⟨q1, q2⟩ := hr j (by omega)
      obtain ⟨w1, w2⟩ := sg_in (L := L) (A := (rdT L tx l x y j).2.1) (tx := tx) (by omega)
      rcases alv_step hL hB0 (by omega) (by rw [hp2 j (by omega)]; exact (hd2 j (by omega)).1) rfl (q1.trans v1) (Or.inr ⟨by rw [q2]; exact w1, by rw [q2]; omega⟩) ha with h | h
      · have e2 : (h2T L tx l' x' y' (j + 1)).2.1 = (rd2 L tx l' x' y' j).2.1 + 1 := by
          show (if sgT L tx (rd2 L tx l' x' y' j).2.1 = 59 then (rd2 L tx l' x' y' j).2.1 + 1 else (rd2 L tx l' x' y' j).2.1) = _
          rw [q2, if_pos v3]
        rw [← e2] at h
        exact ih (j + 1) (by omega) h
      · exact h
  refine key K 0 (by omega) ⟨f0, rRes g2, rfl, rRes_fr, ⟨hS, hJ, h6, fun _ _ => rfl⟩, fun k hk => absurd hk (Nat.not_lt_zero k), fun k hk => absurd hk (Nat.not_lt_zero k), rfl, fun k hk => absurd hk (Nat.not_lt_zero k)⟩
