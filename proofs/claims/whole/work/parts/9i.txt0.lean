/-! a text, read sign by sign and read by commands -/
def rnG (g : SV) (tx : Nat → Nat) (A : Nat) : Nat → SV
  | 0 => g
  | k + 1 => rAccP (rnG g tx A k) (tx (A + k))
theorem rn_add {g : SV} {tx : Nat → Nat} {A : Nat} (i : Nat) : ∀ j, rnG g tx A (i + j) = rnG (rnG g tx A i) tx (A + i) j := by
  intro j
  induction j with
  | zero => rfl
  | succ j ih =>
    show rAccP (rnG g tx A (i + j)) (tx (A + (i + j))) = rAccP (rnG (rnG g tx A i) tx (A + i) j) (tx (A + i + j))
    rw [ih, Nat.add_assoc]
def RFr (g : SV) : Prop := g 0 0 = 0 ∧ g 0 1 = -1 ∧ g 0 2 = -1 ∧ g 0 3 = 0
theorem rRes_fr {g : SV} : RFr (rRes g) := by
  unfold RFr rRes
  simp only [put_at]
  exact ⟨rfl, rfl, rfl, rfl⟩
def sSl (f : SV) (v : Int32) : SV := if f 0 3 = 0 then put f 0 1 v else put f 0 2 v
section
variable {f : SV} {v w d : Int32}
theorem sS_0 : sSl f v 0 0 = f 0 0 := by
  unfold sSl
  split <;> exact put_o (by omega)
theorem sS_3 : sSl f v 0 3 = f 0 3 := by
  unfold sSl
  split <;> exact put_o (by omega)
theorem sS_b : rBef (sSl f v) = v := by
  unfold rBef
  rw [sS_3]
  unfold sSl
  by_cases h : f 0 3 = 0
  · rw [if_pos h, if_pos h]; exact put_e rfl rfl
  · rw [if_neg h, if_neg h]; exact put_e rfl rfl
theorem put_put {g : SV} {k j : Nat} {x y : Int32} : put (put g k j x) k j y = put g k j y := by
  funext a b
  simp only [put_at]
  split <;> rfl
theorem sS_s : sSl (sSl f v) w = sSl f w := by
  have h3 : sSl f v 0 3 = f 0 3 := sS_3
  unfold sSl at h3 ⊢
  by_cases h : f 0 3 = 0
  · rw [if_pos h] at h3 ⊢
    rw [if_pos (h3.trans h), if_pos h, put_put]
  · rw [if_neg h] at h3 ⊢
    rw [if_neg (fun z => h (h3.symm.trans z)), if_neg h, put_put]
theorem sS_two : rTwo (sSl f v) = rTwo f := by unfold rTwo; rw [sS_0]
theorem sS_page : rPage (sSl f v) = rPage f := by unfold rPage; rw [sS_0]
theorem sS_le : rLeast (sSl f v) = rLeast f := by unfold rLeast; rw [sS_0, sS_3, sS_page]
theorem sS_mo : rMost (sSl f v) = rMost f := by unfold rMost; rw [sS_0, sS_3, sS_page]
theorem rDigP_s : rDigP f d = sSl f (rNum f d) := rfl
end
/-- a figure, looked at -/
theorem dig_B {f : SV} {c : Nat} (h0 : ¬ f 0 0 = 0) (hc : 48 ≤ c ∧ c ≤ 57) : rAccB f c = rDig f (nI (c - 48)) ∧ (rDig f (nI (c - 48)) = true → rAccP f c = sSl f (rNum f (nI (c - 48)))) := by
  have e : nI c - nI 48 = nI (c - 48) := pk_sub hc.1
  unfold rAccB rAccP
  rw [if_neg h0, if_pos hc, if_neg h0, if_pos hc, e]
  refine ⟨rfl, fun h => ?_⟩
  rw [h, if_pos rfl, rDigP_s]
theorem dig_1 {f : SV} {d lo hi : Nat} (hb : rBef f = -1) (hlo : rLeast f = nI lo) (hhi : rMost f = nI hi) (hd : d ≤ 9) (h1 : lo ≤ 1) (h2 : hi ≤ 9999) : rDig f (nI d) = decide (lo ≤ d ∧ d ≤ hi) ∧ rNum f (nI d) = nI d := by
  have e : rNum f (nI d) = nI d := by unfold rNum; rw [if_pos hb]
  refine ⟨?_, e⟩
  unfold rDig
  rw [e, hb, hlo, hhi, if_neg (by decide)]
  by_cases q : d < lo
  · rw [if_pos (ni_lt q (by omega)), decide_eq_false (by omega)]
  · rw [if_neg (ni_nlt (by omega) (by omega))]
    by_cases q2 : d ≤ hi
    · rw [if_pos (ni_le q2 (by omega)), decide_eq_true (by omega)]
    · rw [if_neg (ni_nle (by omega) (by omega)), decide_eq_false (by omega)]
theorem dig_2 {f : SV} {d v lo hi : Nat} (hb : rBef f = nI v) (hlo : rLeast f = nI lo) (hhi : rMost f = nI hi) (hd : d ≤ 9) (hv : v ≤ 9999) (h1 : lo ≤ 1) (h2 : hi ≤ 9999) : rDig f (nI d) = decide (0 < v ∧ 10 * v + d ≤ hi) ∧ rNum f (nI d) = nI (10 * v + d) := by
  have e : rNum f (nI d) = nI (10 * v + d) := by
    unfold rNum
    rw [hb, if_neg (ni_m1 (by omega)), pk_mul, nI_add]
  refine ⟨?_, e⟩
  unfold rDig
  rw [e, hb, hlo, hhi]
  by_cases q0 : v = 0
  · subst q0
    rw [if_pos (show nI 0 = 0 from rfl), decide_eq_false (by omega)]
  · rw [if_neg (nI_ne0 (by omega) (by omega)), if_neg (ni_nlt (by omega) (by omega))]
    by_cases q2 : 10 * v + d ≤ hi
    · rw [if_pos (ni_le q2 (by omega)), decide_eq_true (by omega)]
    · rw [if_neg (ni_nle (by omega) (by omega)), decide_eq_false (by omega)]
theorem sg_in {L A : Nat} {tx : Nat → Nat} (h : sgT L tx A ≠ 0) : A < L ∧ sgT L tx A = tx A := by
  unfold sgT at h ⊢
  by_cases q : L ≤ A
  · rw [if_pos q] at h; exact absurd rfl h
  · rw [if_neg q]; exact ⟨by omega, rfl⟩
theorem sg_at {L A : Nat} {tx : Nat → Nat} (h : A < L) : sgT L tx A = tx A := by
  unfold sgT; rw [if_neg (by omega)]
/-- a number read, both ways -/
theorem num_y {f : SV} {L A lo hi : Nat} {tx : Nat → Nat} (hL : L ≤ 80) (h0 : ¬ f 0 0 = 0) (hb : rBef f = -1) (hlo : rLeast f = nI lo) (hhi : rMost f = nI hi) (h1 : lo ≤ 1) (h2 : hi ≤ 9999) (ho : nuO L tx lo hi A) :
    (∀ k, k ≤ nuN L tx hi A → rAccB (rnG f tx A k) (tx (A + k)) = true ∧ tx (A + k) ≠ 59 ∧ A + k < L ∧ rnG f tx A (k + 1) = sSl f (nI (nuV L tx A k)) ∧ nuV L tx A k ≤ hi ∧ lo ≤ nuV L tx A k) ∧
    (A + 1 + nuN L tx hi A < L → 48 ≤ tx (A + 1 + nuN L tx hi A) → tx (A + 1 + nuN L tx hi A) ≤ 57 → rAccB (sSl f (nI (nuV L tx A (nuN L tx hi A)))) (tx (A + 1 + nuN L tx hi A)) = false) := by
  obtain ⟨⟨o1, o2⟩, o3⟩ := ho
  obtain ⟨a1, a2⟩ := sg_in (L := L) (A := A) (tx := tx) (by omega)
  have key : ∀ k, k ≤ nuN L tx hi A → rAccB (rnG f tx A k) (tx (A + k)) = true ∧ tx (A + k) ≠ 59 ∧ A + k < L ∧ rnG f tx A (k + 1) = sSl f (nI (nuV L tx A k)) ∧ nuV L tx A k ≤ hi ∧ lo ≤ nuV L tx A k := by
    intro k
    induction k with
    | zero =>
      intro _
      obtain ⟨d1, d2⟩ := dig_B (f := f) (c := tx A) h0 (by omega)
      obtain ⟨d3, d4⟩ := dig_1 (f := f) (d := tx A - 48) hb hlo hhi (by omega) h1 h2
      have d5 : rDig f (nI (tx A - 48)) = true := by rw [d3, decide_eq_true]; omega
      have ev : nuV L tx A 0 = tx A - 48 := by show sgT L tx A - 48 = _; rw [a2]
      refine ⟨d1.trans d5, ?_, a1, ?_, ?_, ?_⟩
      · show tx (A + 0) ≠ 59
        rw [Nat.add_zero]; omega
      · show rAccP f (tx (A + 0)) = _
        rw [Nat.add_zero, d2 d5, d4, ev]
      · rw [ev]; omega
      · rw [ev]; omega
    | succ k ih =>
      intro hk
      obtain ⟨i1, i2, i3, i4, i5, i6⟩ := ih (by omega)
      obtain ⟨c1, c2, c3⟩ := nuN_c (L := L) (tx := tx) (hi := hi) (A := A) (k := k) (by omega)
      have es : A + 1 + k = A + (k + 1) := by omega
      rw [es] at c2 c3
      obtain ⟨b1, b2⟩ := sg_in (L := L) (A := A + (k + 1)) (tx := tx) (by omega)
      rw [b2] at c2 c3
      have ev : nuV L tx A (k + 1) = 10 * nuV L tx A k + (tx (A + (k + 1)) - 48) := by
        show 10 * nuV L tx A k + sgT L tx (A + 1 + k) - 48 = _
        rw [es, b2]; omega
      rw [i4]
      obtain ⟨d1, d2⟩ := dig_B (f := sSl f (nI (nuV L tx A k))) (c := tx (A + (k + 1))) (by rw [sS_0]; exact h0) c2
      obtain ⟨d3, d4⟩ := dig_2 (f := sSl f (nI (nuV L tx A k))) (d := tx (A + (k + 1)) - 48) (lo := lo) (hi := hi) sS_b (by rw [sS_le]; exact hlo) (by rw [sS_mo]; exact hhi) (by omega) (by omega) h1 h2
      have d5 : rDig (sSl f (nI (nuV L tx A k))) (nI (tx (A + (k + 1)) - 48)) = true := by rw [d3, decide_eq_true]; omega
      refine ⟨d1.trans d5, by omega, b1, ?_, by omega, by omega⟩
      show rAccP (rnG f tx A (k + 1)) (tx (A + (k + 1))) = _
      rw [i4, d2 d5, d4, sS_s, ev]
  refine ⟨key, fun q1 q2 q3 => ?_⟩
  obtain ⟨-, -, -, -, i5, i6⟩ := key _ (Nat.le_refl _)
  have hn := nuN_n (tx := tx) (hi := hi) (A := A) hL
  obtain ⟨d1, -⟩ := dig_B (f := sSl f (nI (nuV L tx A (nuN L tx hi A)))) (c := tx (A + 1 + nuN L tx hi A)) (by rw [sS_0]; exact h0) ⟨q2, q3⟩
  obtain ⟨d3, -⟩ := dig_2 (f := sSl f (nI (nuV L tx A (nuN L tx hi A)))) (d := tx (A + 1 + nuN L tx hi A) - 48) (lo := lo) (hi := hi) sS_b (by rw [sS_le]; exact hlo) (by rw [sS_mo]; exact hhi) (by omega) (by omega) h1 h2
  rw [d1, d3, decide_eq_false]
  intro hh
  apply hn
  unfold nuC
  rw [sg_at q1]
  exact ⟨hh.1, ⟨q2, q3⟩, by omega⟩
theorem num_n {f : SV} {L A lo hi : Nat} {tx : Nat → Nat} (h0 : ¬ f 0 0 = 0) (hb : rBef f = -1) (hlo : rLeast f = nI lo) (hhi : rMost f = nI hi) (h1 : lo ≤ 1) (h2 : hi ≤ 9999) (ho : ¬ nuO L tx lo hi A) (hA : A < L) (q2 : 48 ≤ tx A) (q3 : tx A ≤ 57) : rAccB f (tx A) = false := by
  obtain ⟨d1, -⟩ := dig_B (f := f) (c := tx A) h0 ⟨q2, q3⟩
  obtain ⟨d3, -⟩ := dig_1 (f := f) (d := tx A - 48) hb hlo hhi (by omega) h1 h2
  rw [d1, d3, decide_eq_false]
  intro hh
  apply ho
  unfold nuO
  rw [sg_at hA]
  omega
/-- a sign that is no figure -/
theorem oth_B {f : SV} {c : Nat} (h0 : ¬ f 0 0 = 0) (hn : ¬ (48 ≤ c ∧ c ≤ 57)) : rAccB f c = (decide (c = 44 ∧ rTwo f = true ∧ ¬ f 0 1 = -1 ∧ f 0 3 = 0) || decide (c = 59 ∧ rCmp f = true)) := by
  unfold rAccB
  rw [if_neg h0, if_neg hn]
  by_cases q1 : c = 44 ∧ rTwo f = true ∧ ¬ f 0 1 = -1 ∧ f 0 3 = 0
  · rw [if_pos q1, decide_eq_true q1]; rfl
  · rw [if_neg q1, decide_eq_false q1, Bool.false_or]
    by_cases q2 : c = 59 ∧ rCmp f = true
    · rw [if_pos q2, decide_eq_true q2]
    · rw [if_neg q2, decide_eq_false q2]
/-- what a letter bids -/
def LtS (c : Nat) (two : Bool) (lo1 hi1 lo2 hi2 : Nat) : Prop := isLet c = true ∧ c ≠ 0 ∧ c < 128 ∧ c ≠ 59 ∧ ∀ f : SV, f 0 0 = nI c → rTwo f = two ∧ (f 0 3 = 0 → rLeast f = nI lo1 ∧ rMost f = nI hi1) ∧ (f 0 3 = nI 1 → two = true → rLeast f = nI lo2 ∧ rMost f = nI hi2)
theorem ls_115 : LtS 115 true 0 29 0 9999 := ⟨by decide, by decide, by decide, by decide, fun f h => by unfold rLeast rMost rPage rTwo; rw [h]; exact ⟨by decide, fun e => by rw [e]; exact ⟨by decide, by decide⟩, fun e _ => by rw [e]; exact ⟨by decide, by decide⟩⟩⟩
theorem ls_119 : LtS 119 true 0 29 0 9999 := ⟨by decide, by decide, by decide, by decide, fun f h => by unfold rLeast rMost rPage rTwo; rw [h]; exact ⟨by decide, fun e => by rw [e]; exact ⟨by decide, by decide⟩, fun e _ => by rw [e]; exact ⟨by decide, by decide⟩⟩⟩
theorem ls_108 : LtS 108 true 0 5 1 20 := ⟨by decide, by decide, by decide, by decide, fun f h => by unfold rLeast rMost rPage rTwo; rw [h]; exact ⟨by decide, fun e => by rw [e]; exact ⟨by decide, by decide⟩, fun e _ => by rw [e]; exact ⟨by decide, by decide⟩⟩⟩
theorem ls_114 : LtS 114 true 0 5 1 600 := ⟨by decide, by decide, by decide, by decide, fun f h => by unfold rLeast rMost rPage rTwo; rw [h]; exact ⟨by decide, fun e => by rw [e]; exact ⟨by decide, by decide⟩, fun e _ => by rw [e]; exact ⟨by decide, by decide⟩⟩⟩
theorem ls_100 : LtS 100 false 0 29 0 0 := ⟨by decide, by decide, by decide, by decide, fun f h => by unfold rLeast rMost rPage rTwo; rw [h]; exact ⟨by decide, fun e => by rw [e]; exact ⟨by decide, by decide⟩, fun _ e => Bool.noConfusion e⟩⟩
theorem ls_99 : LtS 99 false 0 5 0 0 := ⟨by decide, by decide, by decide, by decide, fun f h => by unfold rLeast rMost rPage rTwo; rw [h]; exact ⟨by decide, fun e => by rw [e]; exact ⟨by decide, by decide⟩, fun _ e => Bool.noConfusion e⟩⟩
theorem ls_111 : LtS 111 false 0 5 0 0 := ⟨by decide, by decide, by decide, by decide, fun f h => by unfold rLeast rMost rPage rTwo; rw [h]; exact ⟨by decide, fun e => by rw [e]; exact ⟨by decide, by decide⟩, fun _ e => Bool.noConfusion e⟩⟩
theorem ls_120 : LtS 120 false 0 5 0 0 := ⟨by decide, by decide, by decide, by decide, fun f h => by unfold rLeast rMost rPage rTwo; rw [h]; exact ⟨by decide, fun e => by rw [e]; exact ⟨by decide, by decide⟩, fun _ e => Bool.noConfusion e⟩⟩
theorem ls_116 : LtS 116 false 1 600 0 0 := ⟨by decide, by decide, by decide, by decide, fun f h => by unfold rLeast rMost rPage rTwo; rw [h]; exact ⟨by decide, fun e => by rw [e]; exact ⟨by decide, by decide⟩, fun _ e => Bool.noConfusion e⟩⟩
/-- a command read both ways -/
def CmK (L : Nat) (tx : Nat → Nat) (g : SV) (A : Nat) (r : RC) : Prop :=
  A ≤ r.2.1 ∧ r.2.1 ≤ L ∧ (∀ i, A + i < r.2.1 → rAccB (rnG g tx A i) (tx (A + i)) = true ∧ tx (A + i) ≠ 59) ∧
  (r.1 = false → rCmp (rnG g tx A (r.2.1 - A)) = false ∧ (r.2.1 < L → rAccB (rnG g tx A (r.2.1 - A)) (tx r.2.1) = false)) ∧
  (r.1 = true → rCmp (rnG g tx A (r.2.1 - A)) = true ∧ ¬ rnG g tx A (r.2.1 - A) 0 0 = 0 ∧ rnG g tx A (r.2.1 - A) 0 0 = r.2.2.1 ∧ rnG g tx A (r.2.1 - A) 0 1 = r.2.2.2.1 ∧ (rTwo (rnG g tx A (r.2.1 - A)) = true → rnG g tx A (r.2.1 - A) 0 2 = r.2.2.2.2) ∧ (r.2.1 < L → tx r.2.1 ≠ 59 → rAccB (rnG g tx A (r.2.1 - A)) (tx r.2.1) = false))
