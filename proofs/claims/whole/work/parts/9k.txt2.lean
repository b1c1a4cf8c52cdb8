/-! the error position, both ways -/
theorem ac_rn {g : SV} {tx : Nat → Nat} (P : Nat) : ∀ i, acG g tx (P + i) = rnG (acG g tx P) tx P i := by
  intro i
  induction i with
  | zero => rfl
  | succ i ih =>
    show rAccP (acG g tx (P + i)) (tx (P + i)) = rAccP (rnG (acG g tx P) tx P i) (tx (P + i))
    rw [ih]
theorem at_59 {f : SV} (h0 : ¬ f 0 0 = 0) (hc : rCmp f = true) : rAccB f 59 = true ∧ rAccP f 59 = rRes f := by
  have n1 : ¬ (48 ≤ 59 ∧ 59 ≤ 57) := by decide
  have n2 : ¬ ((59 : Nat) = 44 ∧ rTwo f = true ∧ ¬ f 0 1 = -1 ∧ f 0 3 = 0) := fun z => absurd z.1 (by decide)
  have n3 : (59 : Nat) = 59 ∧ rCmp f = true := ⟨rfl, hc⟩
  unfold rAccB rAccP
  rw [if_neg h0, if_neg n1, if_neg n2, if_pos n3, if_neg h0, if_neg n1, if_neg n2, if_pos n3]
  exact ⟨rfl, rfl⟩
section
variable {g : SV} {L : Nat} {tx : Nat → Nat} {l x y : Int32}
theorem err_hd (hL : L ≤ 80) : ∀ k, k ≤ vaK L tx l x y → (hdT L tx l x y k).2.1 ≤ L ∧ RFr (acG g tx (hdT L tx l x y k).2.1) ∧ ∀ i, i < (hdT L tx l x y k).2.1 → rAccB (acG g tx i) (tx i) = true := by
  intro k
  induction k with
  | zero => intro _; exact ⟨Nat.zero_le _, rRes_fr, fun i hi => absurd hi (Nat.not_lt_zero i)⟩
  | succ k ih =>
    intro hk
    obtain ⟨i1, i2, i3⟩ := ih (by omega)
    obtain ⟨v1, v2, v3⟩ := vaK_c (L := L) (tx := tx) (l := l) (x := x) (y := y) (k := k) (by omega)
    have hK : CmK L tx (acG g tx (hdT L tx l x y k).2.1) (hdT L tx l x y k).2.1 (rdT L tx l x y k) := rc_K hL i1 i2
    have e : (hdT L tx l x y (k + 1)).2.1 = (rdT L tx l x y k).2.1 + 1 := rfl
    rw [e]
    generalize hr : rdT L tx l x y k = r at v1 v2 v3 hK ⊢
    generalize hP : (hdT L tx l x y k).2.1 = P at i1 i2 i3 hK
    obtain ⟨c1, c2, c3, -, c5⟩ := hK
    obtain ⟨d1, d2, -⟩ := c5 v1
    obtain ⟨s1, s2⟩ := sg_in (L := L) (A := r.2.1) (tx := tx) (by omega)
    have t59 : tx r.2.1 = 59 := by omega
    have eB : acG g tx r.2.1 = rnG (acG g tx P) tx P (r.2.1 - P) := by
      rw [← ac_rn, show P + (r.2.1 - P) = r.2.1 by omega]
    obtain ⟨q1, q2⟩ := at_59 d2 d1
    refine ⟨by omega, ?_, fun i hi => ?_⟩
    · show RFr (rAccP (acG g tx r.2.1) (tx r.2.1))
      rw [eB, t59, q2]; exact rRes_fr
    · by_cases z : i < P
      · exact i3 i z
      · by_cases z2 : i < r.2.1
        · have := (c3 (i - P) (by omega)).1
          rw [← ac_rn, show P + (i - P) = i by omega] at this
          exact this
        · have : i = r.2.1 := by omega
          rw [this, eB, t59]; exact q1
theorem err_all (hL : L ≤ 80) : ∃ B, B ≤ L ∧ (rdT L tx l x y (vaK L tx l x y)).2.1 = B ∧ (∀ i, i < B → rAccB (acG g tx i) (tx i) = true) ∧
    ((vaT L tx l x y = true ∧ B = L ∧ rCmp (acG g tx L) = true) ∨ (vaT L tx l x y = false ∧ ((B < L ∧ rAccB (acG g tx B) (tx B) = false) ∨ (B = L ∧ rCmp (acG g tx L) = false)))) := by
  obtain ⟨i1, i2, i3⟩ := err_hd (g := g) (L := L) (tx := tx) (l := l) (x := x) (y := y) hL _ (Nat.le_refl _)
  have hn := vaK_n (tx := tx) (l := l) (x := x) (y := y) hL
  have hK : CmK L tx (acG g tx (hdT L tx l x y (vaK L tx l x y)).2.1) (hdT L tx l x y (vaK L tx l x y)).2.1 (rdT L tx l x y (vaK L tx l x y)) := rc_K hL i1 i2
  have hv : vaT L tx l x y = ((rdT L tx l x y (vaK L tx l x y)).1 && decide ((rdT L tx l x y (vaK L tx l x y)).2.1 = L)) := rfl
  rw [hv]
  unfold vaC at hn
  generalize rdT L tx l x y (vaK L tx l x y) = r at hn hK ⊢
  generalize (hdT L tx l x y (vaK L tx l x y)).2.1 = P at i1 i2 i3 hK
  obtain ⟨c1, c2, c3, c4, c5⟩ := hK
  have eB : rnG (acG g tx P) tx P (r.2.1 - P) = acG g tx r.2.1 := by
    rw [← ac_rn, show P + (r.2.1 - P) = r.2.1 by omega]
  rw [eB] at c4 c5
  refine ⟨r.2.1, c2, rfl, fun i hi => ?_, ?_⟩
  · by_cases z : i < P
    · exact i3 i z
    · have := (c3 (i - P) (by omega)).1
      rw [← ac_rn, show P + (i - P) = i by omega] at this
      exact this
  · cases h1 : r.1 with
    | false =>
      right
      refine ⟨rfl, ?_⟩
      obtain ⟨d1, d2⟩ := c4 h1
      by_cases q : r.2.1 < L
      · exact Or.inl ⟨q, d2 q⟩
      · have e : r.2.1 = L := by omega
        exact Or.inr ⟨e, by rw [← e]; exact d1⟩
    | true =>
      obtain ⟨d1, d2, -, -, -, d6⟩ := c5 h1
      by_cases q : r.2.1 = L
      · left
        exact ⟨by rw [decide_eq_true q]; rfl, q, by rw [← q]; exact d1⟩
      · right
        refine ⟨by rw [decide_eq_false q]; rfl, Or.inl ⟨by omega, d6 (by omega) fun z => hn ⟨h1, q, ?_⟩⟩⟩
        rw [sg_at (by omega)]; exact z
end
/-! the commands, done both ways -/
theorem nuV_ge {L : Nat} {tx : Nat → Nat} {lo hi A : Nat} (ho : nuO L tx lo hi A) : ∀ k, k ≤ nuN L tx hi A → lo ≤ nuV L tx A k := by
  intro k
  induction k with
  | zero =>
    intro _
    show lo ≤ sgT L tx A - 48
    have := ho.1.1
    omega
  | succ k ih =>
    intro hk
    have h1 := ih (by omega)
    have h2 := (nuN_c (L := L) (tx := tx) (hi := hi) (A := A) (k := k) (by omega)).2.1.1
    show lo ≤ 10 * nuV L tx A k + sgT L tx (A + 1 + k) - 48
    omega
theorem nuR_ge {L : Nat} {tx : Nat → Nat} {lo hi A k : Nat} (h : nuR L tx lo hi A = some k) : lo ≤ k := by
  unfold nuR at h
  split at h
  · rename_i ho
    cases h
    exact nuV_ge ho _ (Nat.le_refl _)
  · cases h
theorem r2T_y {L : Nat} {tx : Nat → Nat} {m1 l2 m2 A : Nat} {l y : Int32} (h : (r2T L tx m1 l2 m2 A l y).1 = true) : ∃ q, l2 ≤ q ∧ q ≤ m2 ∧ (r2T L tx m1 l2 m2 A l y).2.2.2.2 = nI q := by
  unfold r2T at h ⊢
  split at h
  · cases h
  · rename_i h1
    rw [if_neg h1]
    split at h
    · rename_i h2
      rw [if_pos h2]
      cases hn : nuR L tx l2 m2 (nuA L tx 0 m1 A + 1) with
      | none =>
        have h9 : (nuR L tx l2 m2 (nuA L tx 0 m1 A + 1)).isSome = true := h
        rw [hn] at h9; cases h9
      | some q => exact ⟨q, nuR_ge hn, nuR_le hn, rfl⟩
    · cases h
theorem rcT_y {L : Nat} {tx : Nat → Nat} {A : Nat} {x y : Int32} (h : (rcT L tx A x y).1 = true) : ((rcT L tx A x y).2.2.1 = nI 108 → ∃ q, 1 ≤ q ∧ q ≤ 20 ∧ (rcT L tx A x y).2.2.2.2 = nI q) ∧ ((rcT L tx A x y).2.2.1 = nI 114 → ∃ q, 1 ≤ q ∧ q ≤ 600 ∧ (rcT L tx A x y).2.2.2.2 = nI q) := by
  by_cases c4 : sgT L tx A = 108
  · have e : rcT L tx A x y = r2T L tx 5 1 20 (A + 1) (nI 108) y := by unfold rcT; simp only [c4]; rfl
    rw [e] at h ⊢
    obtain ⟨p, e1, -⟩ := r2T_ok h
    rw [e1]
    exact ⟨fun _ => r2T_y h, fun z => absurd z (by decide)⟩
  by_cases c5 : sgT L tx A = 114
  · have e : rcT L tx A x y = r2T L tx 5 1 600 (A + 1) (nI 114) y := by unfold rcT; simp only [c5]; rfl
    rw [e] at h ⊢
    obtain ⟨p, e1, -⟩ := r2T_ok h
    rw [e1]
    exact ⟨fun z => absurd z (by decide), fun _ => r2T_y h⟩
  have hno : ∀ c : Nat, c < 2000000000 → c ≠ 108 → c ≠ 114 → ∀ z : Int32, z = nI c → ¬ z = nI 108 ∧ ¬ z = nI 114 := fun c h1 h2 h3 z hz => by
    rw [hz]; exact ⟨ni_ne h2 (by omega) (by decide), ni_ne h3 (by omega) (by decide)⟩
  have hl : ¬ (rcT L tx A x y).2.2.1 = nI 108 ∧ ¬ (rcT L tx A x y).2.2.1 = nI 114 := by
    by_cases c1 : sgT L tx A = 115
    · have e : rcT L tx A x y = r2T L tx 29 0 9999 (A + 1) (nI 115) y := by unfold rcT; simp only [c1]; rfl
      rw [e] at h ⊢
      obtain ⟨p, e1, -⟩ := r2T_ok h
      exact hno 115 (by decide) (by decide) (by decide) _ e1
    by_cases c2 : sgT L tx A = 119
    · have e : rcT L tx A x y = r2T L tx 29 0 9999 (A + 1) (nI 119) y := by unfold rcT; simp only [c2]; rfl
      rw [e] at h ⊢
      obtain ⟨p, e1, -⟩ := r2T_ok h
      exact hno 119 (by decide) (by decide) (by decide) _ e1
    by_cases c3 : sgT L tx A = 100
    · have e : rcT L tx A x y = r1T L tx 0 29 (A + 1) (nI 100) y := by unfold rcT; simp only [c3]; rfl
      rw [e]; exact hno 100 (by decide) (by decide) (by decide) _ rfl
    by_cases c6 : sgT L tx A = 99
    · have e : rcT L tx A x y = r1T L tx 0 5 (A + 1) (nI 99) y := by unfold rcT; simp only [c6]; rfl
      rw [e]; exact hno 99 (by decide) (by decide) (by decide) _ rfl
    by_cases c7 : sgT L tx A = 111
    · have e : rcT L tx A x y = r1T L tx 0 5 (A + 1) (nI 111) y := by unfold rcT; simp only [c7]; rfl
      rw [e]; exact hno 111 (by decide) (by decide) (by decide) _ rfl
    by_cases c8 : sgT L tx A = 120
    · have e : rcT L tx A x y = r1T L tx 0 5 (A + 1) (nI 120) y := by unfold rcT; simp only [c8]; rfl
      rw [e]; exact hno 120 (by decide) (by decide) (by decide) _ rfl
    by_cases c9 : sgT L tx A = 116
    · have e : rcT L tx A x y = r1T L tx 1 600 (A + 1) (nI 116) y := by unfold rcT; simp only [c9]; rfl
      rw [e]; exact hno 116 (by decide) (by decide) (by decide) _ rfl
    exfalso
    have e : rcT L tx A x y = (false, A, nI (sgT L tx A), x, y) := by
      unfold rcT
      simp only
      rw [if_neg (by omega), if_neg (by omega), if_neg (by omega), if_neg (by omega), if_neg (by omega), if_neg (by omega)]
    rw [e] at h; cases h
  exact ⟨fun z => absurd z hl.1, fun z => absurd z hl.2⟩
theorem rcT_xy {L : Nat} {tx : Nat → Nat} {A : Nat} {x y x' y' : Int32} : (rcT L tx A x y).1 = (rcT L tx A x' y').1 ∧ (rcT L tx A x y).2.1 = (rcT L tx A x' y').2.1 := by
  unfold rcT
  simp only
  (repeat' split) <;> exact ⟨rfl, rfl⟩
theorem OpA.mono {f' : SV} {s' s : NV} {B B' M : Nat} (h : OpA f' s' s B M) (hB : B ≤ B') : OpA f' s' s B' M := ⟨h.1, h.2.1.mono hB, h.2.2.1, h.2.2.2⟩
theorem OpA.tr {f' : SV} {s'' s' s : NV} {B M : Nat} (h : OpA f' s'' s' B M) (g : Frm s' s 0) : OpA f' s'' s B M := ⟨h.1, h.2.1, h.2.2.1, h.2.2.2.tr g⟩
theorem onM_p {x : Int32} : ¬ onM x < 0 := by
  obtain ⟨c, c1, c2⟩ := onM_n (x := x)
  rw [c2]; exact nI_pos (by omega)
theorem hd_p {s : NV} {b h : Nat} : ¬ nI (hdM s b h) < 0 := by
  have := hdM_le (s := s) (b := b) (h := h)
  exact nI_pos (by omega)
/-! each letter's own case -/
theorem calT_115 {f : SV} {p : Nat} : calT f 115 p = caddS f p := by
  unfold calT
  rw [if_pos rfl]
theorem calT_119 {f : SV} {p : Nat} : calT f 119 p = reS f p := by
  unfold calT
  rw [if_neg (by decide), if_pos rfl]
theorem calT_100 {f : SV} {p : Nat} : calT f 100 p = exS f p := by
  unfold calT
  rw [if_neg (by decide), if_neg (by decide), if_pos rfl]
theorem calT_108 {f : SV} {p : Nat} : calT f 108 p = cbegS f p := by
  unfold calT
  rw [if_neg (by decide), if_neg (by decide), if_neg (by decide), if_pos rfl]
theorem calT_114 {f : SV} {p : Nat} : calT f 114 p = opS f p := by
  unfold calT
  rw [if_neg (by decide), if_neg (by decide), if_neg (by decide), if_neg (by decide), if_pos rfl]
theorem calT_111 {f : SV} {p : Nat} : calT f 111 p = cdetS f p := by
  unfold calT
  rw [if_neg (by decide), if_neg (by decide), if_neg (by decide), if_neg (by decide), if_neg (by decide), if_pos rfl]
theorem calT_99 {f : SV} {p : Nat} : calT f 99 p = cattS f p := by
  unfold calT
  rw [if_neg (by decide), if_neg (by decide), if_neg (by decide), if_neg (by decide), if_neg (by decide), if_neg (by decide), if_pos rfl]
theorem calT_120 {f : SV} {p : Nat} : calT f 120 p = cbrkS f p := by
  unfold calT
  rw [if_neg (by decide), if_neg (by decide), if_neg (by decide), if_neg (by decide), if_neg (by decide), if_neg (by decide), if_neg (by decide), if_pos rfl]
theorem calT_116 {f : SV} {p : Nat} : calT f 116 p = cadvS f (nI p) := by
  unfold calT
  rw [if_neg (by decide), if_neg (by decide), if_neg (by decide), if_neg (by decide), if_neg (by decide), if_neg (by decide), if_neg (by decide), if_neg (by decide)]
theorem exeT_115 {f : SV} {p : Nat} {y : Int32} : exeT f 115 p y = seS (adG f p y) := by
  unfold exeT
  rw [if_pos rfl]
theorem exeT_119 {f : SV} {p : Nat} {y : Int32} : exeT f 119 p y = owG f p y := by
  unfold exeT
  rw [if_neg (by decide), if_pos rfl]
theorem exeT_100 {f : SV} {p : Nat} {y : Int32} : exeT f 100 p y = drG f p := by
  unfold exeT
  rw [if_neg (by decide), if_neg (by decide), if_pos rfl]
theorem exeT_108 {f : SV} {p : Nat} {y : Int32} : exeT f 108 p y = seS (beG f p y) := by
  unfold exeT
  rw [if_neg (by decide), if_neg (by decide), if_neg (by decide), if_pos rfl]
theorem exeT_114 {f : SV} {p : Nat} {y : Int32} : exeT f 114 p y = cbG f p y := by
  unfold exeT
  rw [if_neg (by decide), if_neg (by decide), if_neg (by decide), if_neg (by decide), if_pos rfl]
theorem exeT_111 {f : SV} {p : Nat} {y : Int32} : exeT f 111 p y = deG f p := by
  unfold exeT
  rw [if_neg (by decide), if_neg (by decide), if_neg (by decide), if_neg (by decide), if_neg (by decide), if_pos rfl]
theorem exeT_99 {f : SV} {p : Nat} {y : Int32} : exeT f 99 p y = atG f p := by
  unfold exeT
  rw [if_neg (by decide), if_neg (by decide), if_neg (by decide), if_neg (by decide), if_neg (by decide), if_neg (by decide), if_pos rfl]
theorem exeT_120 {f : SV} {p : Nat} {y : Int32} : exeT f 120 p y = brG f p := by
  unfold exeT
  rw [if_neg (by decide), if_neg (by decide), if_neg (by decide), if_neg (by decide), if_neg (by decide), if_neg (by decide), if_neg (by decide), if_pos rfl]
theorem exeT_116 {f : SV} {p : Nat} {y : Int32} : exeT f 116 p y = avG (f 0 8 + nI p) p f := by
  unfold exeT
  rw [if_neg (by decide), if_neg (by decide), if_neg (by decide), if_neg (by decide), if_neg (by decide), if_neg (by decide), if_neg (by decide), if_neg (by decide)]
theorem canT_115 {s : NV} {p : Nat} : canT s 115 p = csM s p := by
  unfold canT
  rw [if_pos rfl]
theorem canT_119 {s : NV} {p : Nat} : canT s 119 p = cwM s p := by
  unfold canT
  rw [if_neg (by decide), if_pos rfl]
theorem canT_100 {s : NV} {p : Nat} : canT s 100 p = thM s 0 p := by
  unfold canT
  rw [if_neg (by decide), if_neg (by decide), if_pos rfl]
theorem canT_108 {s : NV} {p : Nat} : canT s 108 p = clB s p := by
  unfold canT
  rw [if_neg (by decide), if_neg (by decide), if_neg (by decide), if_pos rfl]
theorem canT_114 {s : NV} {p : Nat} : canT s 114 p = crB s p := by
  unfold canT
  rw [if_neg (by decide), if_neg (by decide), if_neg (by decide), if_neg (by decide), if_pos rfl]
theorem canT_111 {s : NV} {p : Nat} : canT s 111 p = cdB s p := by
  unfold canT
  rw [if_neg (by decide), if_neg (by decide), if_neg (by decide), if_neg (by decide), if_neg (by decide), if_pos rfl]
theorem canT_99 {s : NV} {p : Nat} : canT s 99 p = decide (ofM s 0 p 1 = 0) := by
  unfold canT
  rw [if_neg (by decide), if_neg (by decide), if_neg (by decide), if_neg (by decide), if_neg (by decide), if_neg (by decide), if_pos rfl]
theorem canT_120 {s : NV} {p : Nat} : canT s 120 p = decide (¬ ofM s 0 p 0 = 0) := by
  unfold canT
  rw [if_neg (by decide), if_neg (by decide), if_neg (by decide), if_neg (by decide), if_neg (by decide), if_neg (by decide), if_neg (by decide), if_pos rfl]
theorem canT_116 {s : NV} {p : Nat} : canT s 116 p = decide (¬ nI 1000000 < s 0 + nI p) := by
  unfold canT
  rw [if_neg (by decide), if_neg (by decide), if_neg (by decide), if_neg (by decide), if_neg (by decide), if_neg (by decide), if_neg (by decide), if_neg (by decide)]
theorem dvT_115 {s : NV} {p : Nat} {y : Int32} : dvT s 115 p y = onM (cpM (st2 s p y) 0 p) := by
  unfold dvT
  rw [if_pos rfl]
theorem dvT_119 {s : NV} {p : Nat} {y : Int32} : dvT s 119 p y = onM (cpM (st1 s p y) 0 p) := by
  unfold dvT
  rw [if_neg (by decide), if_pos rfl]
theorem dvT_100 {s : NV} {p : Nat} {y : Int32} : dvT s 100 p y = onM (cpM s 0 p) := by
  unfold dvT
  rw [if_neg (by decide), if_neg (by decide), if_pos rfl]
theorem dvT_108 {s : NV} {p : Nat} {y : Int32} : dvT s 108 p y = leL (le1 s p y) 6 := by
  unfold dvT
  rw [if_neg (by decide), if_neg (by decide), if_neg (by decide), if_pos rfl]
theorem dvT_114 {s : NV} {p : Nat} {y : Int32} : dvT s 114 p y = nI (hdM (re1 s p y) 0 p) := by
  unfold dvT
  rw [if_neg (by decide), if_neg (by decide), if_neg (by decide), if_neg (by decide), if_pos rfl]
theorem dvT_111 {s : NV} {p : Nat} {y : Int32} : dvT s 111 p y = nI (hdM (di1 s p) 0 p) := by
  unfold dvT
  rw [if_neg (by decide), if_neg (by decide), if_neg (by decide), if_neg (by decide), if_neg (by decide), if_pos rfl]
theorem dvT_99 {s : NV} {p : Nat} {y : Int32} : dvT s 99 p y = nI (rcL (rc1 s p) p 30).2 := by
  unfold dvT
  rw [if_neg (by decide), if_neg (by decide), if_neg (by decide), if_neg (by decide), if_neg (by decide), if_neg (by decide), if_pos rfl]
theorem dvT_120 {s : NV} {p : Nat} {y : Int32} : dvT s 120 p y = nI (hdM s 0 p) := by
  unfold dvT
  rw [if_neg (by decide), if_neg (by decide), if_neg (by decide), if_neg (by decide), if_neg (by decide), if_neg (by decide), if_neg (by decide), if_pos rfl]
theorem dvT_116 {s : NV} {p : Nat} {y : Int32} : dvT s 116 p y = spL s 0 p 3 - s 3 := by
  unfold dvT
  rw [if_neg (by decide), if_neg (by decide), if_neg (by decide), if_neg (by decide), if_neg (by decide), if_neg (by decide), if_neg (by decide), if_neg (by decide)]
theorem dsT_115 {s : NV} {p : Nat} {y : Int32} : dsT s 115 p y = seM (st2 s p y) 0 := by
  unfold dsT
  rw [if_pos rfl]
theorem dsT_119 {s : NV} {p : Nat} {y : Int32} : dsT s 119 p y = wrM s p y := by
  unfold dsT
  rw [if_neg (by decide), if_pos rfl]
theorem dsT_100 {s : NV} {p : Nat} {y : Int32} : dsT s 100 p y = rvM s p := by
  unfold dsT
  rw [if_neg (by decide), if_neg (by decide), if_pos rfl]
theorem dsT_108 {s : NV} {p : Nat} {y : Int32} : dsT s 108 p y = seM (le1 s p y) 0 := by
  unfold dsT
  rw [if_neg (by decide), if_neg (by decide), if_neg (by decide), if_pos rfl]
theorem dsT_114 {s : NV} {p : Nat} {y : Int32} : dsT s 114 p y = seM (re1 s p y) 0 := by
  unfold dsT
  rw [if_neg (by decide), if_neg (by decide), if_neg (by decide), if_neg (by decide), if_pos rfl]
theorem dsT_111 {s : NV} {p : Nat} {y : Int32} : dsT s 111 p y = seM (di1 s p) 0 := by
  unfold dsT
  rw [if_neg (by decide), if_neg (by decide), if_neg (by decide), if_neg (by decide), if_neg (by decide), if_pos rfl]
theorem dsT_99 {s : NV} {p : Nat} {y : Int32} : dsT s 99 p y = seM (rcL (rc1 s p) p 30).1 0 := by
  unfold dsT
  rw [if_neg (by decide), if_neg (by decide), if_neg (by decide), if_neg (by decide), if_neg (by decide), if_neg (by decide), if_pos rfl]
theorem dsT_120 {s : NV} {p : Nat} {y : Int32} : dsT s 120 p y = seM (cr1 s p) 0 := by
  unfold dsT
  rw [if_neg (by decide), if_neg (by decide), if_neg (by decide), if_neg (by decide), if_neg (by decide), if_neg (by decide), if_neg (by decide), if_pos rfl]
theorem dsT_116 {s : NV} {p : Nat} {y : Int32} : dsT s 116 p y = spL s 0 p := by
  unfold dsT
  rw [if_neg (by decide), if_neg (by decide), if_neg (by decide), if_neg (by decide), if_neg (by decide), if_neg (by decide), if_neg (by decide), if_neg (by decide)]
/-- one command, allowed and done -/
theorem cmd_all {f : SV} {s : NV} {c p B : Nat} {y : Int32} (hB : B < 1000000) (hS : Sim f s 0) (hJ : JJ s 0 B 1000000) (h6 : J6 s 0) (ht : tOK c p) (h108 : c = 108 → ∃ q, 1 ≤ q ∧ q ≤ 20 ∧ y = nI q) (h114 : c = 114 → ∃ q, 1 ≤ q ∧ q ≤ 600 ∧ y = nI q) :
    calT f c p = canT s c p ∧ (canT s c p = true → OpA (exeT f c p y) (dsT s c p y) s (B + 1) 1000000 ∧ ¬ dvT s c p y < 0 ∧ (c = 116 → ∀ j, j < p → trOK (tkM (spL s 0 j) 0) 0)) := by
  have hM : 1000000 ≤ 1000600 := by decide
  rcases ht with ⟨rfl | rfl | rfl, hp⟩ | ⟨rfl | rfl | rfl | rfl | rfl, hp⟩ | ⟨rfl, hp⟩
  · rw [calT_115, canT_115, exeT_115, dsT_115, dvT_115]
    exact ⟨sim_cadd hS hp, fun hc => ⟨(op_store hM hB hS hJ hp hc).1, onM_p, fun e => absurd e (by decide)⟩⟩
  · rw [calT_119, canT_119, exeT_119, dsT_119, dvT_119]
    exact ⟨sim_re hS hJ.2.1 hp, fun hc => ⟨(op_write hM hB hS hJ hp hc).1, onM_p, fun e => absurd e (by decide)⟩⟩
  · rw [calT_100, canT_100, exeT_100, dsT_100, dvT_100]
    exact ⟨sim_ex hS hp, fun hc => ⟨(op_remove hM hS hJ hp hc).1.mono (by omega), onM_p, fun e => absurd e (by decide)⟩⟩
  · rw [calT_108, canT_108, exeT_108, dsT_108, dvT_108]
    refine ⟨sim_cbeg hS hp, fun hc => ?_⟩
    obtain ⟨a1, a2, a3⟩ := op_lend (y := y) hM hS hJ hp hc (h108 rfl)
    obtain ⟨-, n, n1, n2⟩ := sum_le a2 a3 6 (Nat.le_refl 6)
    refine ⟨a1.mono (by omega), ?_, fun e => absurd e (by decide)⟩
    rw [n2]; exact nI_pos (by omega)
  · rw [calT_114, canT_114, exeT_114, dsT_114, dvT_114]
    refine ⟨sim_opn hS hp, fun hc => ?_⟩
    obtain ⟨q, q1, q2, rfl⟩ := h114 rfl
    exact ⟨(op_recall hM hS hJ hp hc ⟨q1, q2⟩).1.mono (by omega), hd_p, fun e => absurd e (by decide)⟩
  · rw [calT_99, canT_99, exeT_99, dsT_99, dvT_99]
    refine ⟨?_, fun hc => ?_⟩
    · rw [sim_catt hS hp]
      rcases (hJ.c.2.2.2 p hp).1 with e | e
      · rw [e]; decide
      · rw [e]; decide
    · have hd : ¬ ofM s 0 p 1 = nI 1 := by rw [of_decide_eq_true hc]; decide
      obtain ⟨a1, a2⟩ := op_recon hM hS hJ hp hd
      refine ⟨a1.mono (by omega), ?_, fun e => absurd e (by decide)⟩
      rw [(rcL_at (s := rc1 s p) hp 30 (Nat.le_refl 30)).2]
      have := fb_ct_le (goM (rc1 s p) p) 30
      exact nI_pos (by omega)
  · rw [calT_111, canT_111, exeT_111, dsT_111, dvT_111]
    exact ⟨sim_cdet hS hp, fun hc => ⟨(op_disc hM hS hJ hp hc).1.mono (by omega), hd_p, fun e => absurd e (by decide)⟩⟩
  · rw [calT_120, canT_120, exeT_120, dsT_120, dvT_120]
    exact ⟨sim_cbrk hS hp, fun hc => ⟨(op_crash hM hS hJ hp).mono (by omega), hd_p, fun e => absurd e (by decide)⟩⟩
  · rw [calT_116, canT_116, exeT_116, dsT_116, dvT_116]
    obtain ⟨t, l, t1, t2, -⟩ := hJ.t
    obtain ⟨b1, b2, b3⟩ := adv_iff (k := p) hS t2 t1 hp
    refine ⟨?_, fun hc => ?_⟩
    · apply b_iff
      rw [b1, decide_eq_true_eq, b3]
    · obtain ⟨a1, a2, d, d1, d2⟩ := op_pass (k := p) hM hS hJ h6 t2 (b3.mp (of_decide_eq_true hc))
      refine ⟨a1.mono (by omega), ?_, fun _ => a2⟩
      rw [d2, show s 3 + nI d - s 3 = nI d by rw [Int32.add_comm, Int32.add_sub_cancel]]
      exact nI_pos (by omega)
