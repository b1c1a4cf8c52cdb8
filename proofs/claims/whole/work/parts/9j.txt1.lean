/-! each command, read both ways -/
section
variable {g : SV} {L A c lo hi lo2 hi2 : Nat} {tx : Nat → Nat} {y l : Int32}
/-- behind the letter -/
theorem let_1 (hg : RFr g) (ht : tx A = c) {two : Bool} {lo1 hi1 : Nat} (hl : LtS c two lo1 hi1 lo2 hi2) : rAccB g (tx A) = true ∧ tx A ≠ 59 ∧ rnG g tx A 1 = put g 0 0 (nI c) ∧ put g 0 0 (nI c) 0 0 = nI c ∧ put g 0 0 (nI c) 0 1 = -1 ∧ put g 0 0 (nI c) 0 2 = -1 ∧ put g 0 0 (nI c) 0 3 = 0 ∧ ¬ nI c = 0 := by
  obtain ⟨h1, h2, h3, h4, -⟩ := hl
  obtain ⟨g0, g1, g2, g3⟩ := hg
  refine ⟨?_, by omega, ?_, put_e rfl rfl, by rw [put_o (by omega)]; exact g1, by rw [put_o (by omega)]; exact g2, by rw [put_o (by omega)]; exact g3, nI_ne0 (by omega) (by omega)⟩
  · unfold rAccB
    rw [if_pos g0, ht]; exact h1
  · show rAccP g (tx (A + 0)) = _
    rw [Nat.add_zero, ht]
    unfold rAccP
    rw [if_pos g0, h1, if_pos rfl]
theorem cmp_1 {f : SV} (h : rTwo f = false) : rCmp f = decide (¬ f 0 1 = -1) := by
  unfold rCmp
  rw [h, if_neg Bool.false_ne_true]
  by_cases q : f 0 1 = -1
  · rw [if_pos q, dnn q]
  · rw [if_neg q, decide_eq_true q]
theorem cmp_2 {f : SV} (h : rTwo f = true) : rCmp f = decide (¬ f 0 2 = -1) := by
  unfold rCmp
  rw [h, if_pos rfl]
  by_cases q : f 0 2 = -1
  · rw [if_pos q, dnn q]
  · rw [if_neg q, decide_eq_true q]
/-- no sign but the semicolon goes on -/
theorem stop_B {f : SV} {d : Nat} (h0 : ¬ f 0 0 = 0) (hd : 48 ≤ d → d ≤ 57 → rAccB f d = false) (h44 : d = 44 → ¬ (rTwo f = true ∧ ¬ f 0 1 = -1 ∧ f 0 3 = 0)) (h59 : d = 59 → rCmp f = false) : rAccB f d = false := by
  by_cases q : 48 ≤ d ∧ d ≤ 57
  · exact hd q.1 q.2
  · rw [oth_B h0 q, decide_eq_false (fun z => h44 z.1 z.2), Bool.false_or, decide_eq_false]
    rintro ⟨z1, z2⟩
    rw [h59 z1] at z2; cases z2
theorem sS1 {f : SV} {v : Int32} (h3 : f 0 3 = 0) : sSl f v 0 1 = v ∧ sSl f v 0 2 = f 0 2 := by
  unfold sSl
  rw [if_pos h3]
  exact ⟨put_e rfl rfl, put_o (by omega)⟩
theorem sS2 {f : SV} {v : Int32} (h3 : ¬ f 0 3 = 0) : sSl f v 0 2 = v ∧ sSl f v 0 1 = f 0 1 := by
  unfold sSl
  rw [if_neg h3]
  exact ⟨put_e rfl rfl, put_o (by omega)⟩
theorem one_K (hL : L ≤ 80) (hA : A < L) (hg : RFr g) (ht : tx A = c) (hl : LtS c false lo hi lo2 hi2) (h1 : lo ≤ 1) (h2 : hi ≤ 9999) : CmK L tx g A (r1T L tx lo hi (A + 1) (nI c) y) := by
  obtain ⟨a1, a2, a3, b0, b1, b2, b3, b4⟩ := let_1 hg ht hl
  obtain ⟨-, l2, l3, l4, l5⟩ := hl
  generalize hf : put g 0 0 (nI c) = f at a3 b0 b1 b2 b3
  obtain ⟨t1, t2, -⟩ := l5 f b0
  obtain ⟨t3, t4⟩ := t2 b3
  have h0 : ¬ f 0 0 = 0 := by rw [b0]; exact b4
  have hb : rBef f = -1 := by unfold rBef; rw [if_pos b3]; exact b1
  by_cases ho : nuO L tx lo hi (A + 1)
  · obtain ⟨k1, k2⟩ := num_y hL h0 hb t3 t4 h1 h2 ho
    have eR : nuR L tx lo hi (A + 1) = some (nuV L tx (A + 1) (nuN L tx hi (A + 1))) := if_pos ho
    have eA : nuA L tx lo hi (A + 1) = A + 1 + 1 + nuN L tx hi (A + 1) := if_pos ho
    have er : r1T L tx lo hi (A + 1) (nI c) y = (true, A + 1 + 1 + nuN L tx hi (A + 1), nI c, nI (nuV L tx (A + 1) (nuN L tx hi (A + 1))), y) := by
      unfold r1T; rw [eR, eA]; rfl
    rw [er]
    obtain ⟨-, -, m3, m4, m5, m6⟩ := k1 _ (Nat.le_refl _)
    have eB : rnG g tx A (A + 1 + 1 + nuN L tx hi (A + 1) - A) = sSl f (nI (nuV L tx (A + 1) (nuN L tx hi (A + 1)))) := by
      rw [show A + 1 + 1 + nuN L tx hi (A + 1) - A = 1 + (nuN L tx hi (A + 1) + 1) by omega, rn_add, a3]
      exact m4
    refine ⟨by show A ≤ A + 1 + 1 + _; omega, by show A + 1 + 1 + _ ≤ L; omega, fun i hi9 => ?_, fun e => Bool.noConfusion e, fun _ => ?_⟩
    · have hi9 : A + i < A + 1 + 1 + nuN L tx hi (A + 1) := hi9
      cases i with
      | zero => exact ⟨a1, a2⟩
      | succ i =>
        obtain ⟨m1, m2, -⟩ := k1 i (by omega)
        rw [show i + 1 = 1 + i by omega, rn_add, a3, ← Nat.add_assoc]
        exact ⟨m1, m2⟩
    · show rCmp (rnG g tx A (A + 1 + 1 + nuN L tx hi (A + 1) - A)) = true ∧ ¬ rnG g tx A (A + 1 + 1 + nuN L tx hi (A + 1) - A) 0 0 = 0 ∧ rnG g tx A (A + 1 + 1 + nuN L tx hi (A + 1) - A) 0 0 = nI c ∧ rnG g tx A (A + 1 + 1 + nuN L tx hi (A + 1) - A) 0 1 = nI (nuV L tx (A + 1) (nuN L tx hi (A + 1))) ∧ (rTwo (rnG g tx A (A + 1 + 1 + nuN L tx hi (A + 1) - A)) = true → _) ∧ (A + 1 + 1 + nuN L tx hi (A + 1) < L → tx (A + 1 + 1 + nuN L tx hi (A + 1)) ≠ 59 → rAccB (rnG g tx A (A + 1 + 1 + nuN L tx hi (A + 1) - A)) (tx (A + 1 + 1 + nuN L tx hi (A + 1))) = false)
      rw [eB]
      have ht : rTwo (sSl f (nI (nuV L tx (A + 1) (nuN L tx hi (A + 1))))) = false := by rw [sS_two]; exact t1
      have e1 := (sS1 (v := nI (nuV L tx (A + 1) (nuN L tx hi (A + 1)))) b3).1
      have h0' : ¬ sSl f (nI (nuV L tx (A + 1) (nuN L tx hi (A + 1)))) 0 0 = 0 := by rw [sS_0]; exact h0
      refine ⟨?_, h0', by rw [sS_0]; exact b0, e1, fun e => (by rw [ht] at e; cases e), fun q1 q2 => stop_B h0' (fun z1 z2 => k2 q1 z1 z2) (fun _ z => by rw [ht] at z; cases z.1) (fun z => absurd z q2)⟩
      rw [cmp_1 ht, e1, decide_eq_true (ni_m1 (by omega))]
  · have eR : nuR L tx lo hi (A + 1) = none := if_neg ho
    have eA : nuA L tx lo hi (A + 1) = A + 1 := if_neg ho
    have er : r1T L tx lo hi (A + 1) (nI c) y = (false, A + 1, nI c, -1, y) := by
      unfold r1T; rw [eR, eA]; rfl
    rw [er]
    have eB : rnG g tx A (A + 1 - A) = f := by rw [show A + 1 - A = 1 by omega]; exact a3
    refine ⟨Nat.le_succ A, hA, fun i hi9 => ?_, fun _ => ?_, fun e => Bool.noConfusion e⟩
    · have hi9 : A + i < A + 1 := hi9
      have : i = 0 := by omega
      subst this; exact ⟨a1, a2⟩
    · show rCmp (rnG g tx A (A + 1 - A)) = false ∧ (A + 1 < L → rAccB (rnG g tx A (A + 1 - A)) (tx (A + 1)) = false)
      rw [eB]
      have hc : rCmp f = false := by rw [cmp_1 t1, b1]; decide
      exact ⟨hc, fun q => stop_B h0 (fun z1 z2 => num_n h0 hb t3 t4 h1 h2 ho q z1 z2) (fun _ z => by rw [t1] at z; cases z.1) (fun _ => hc)⟩
theorem two_K (hL : L ≤ 80) (hA : A < L) (hg : RFr g) (ht : tx A = c) (hl : LtS c true 0 hi lo2 hi2) (h2 : hi ≤ 9999) (h3 : lo2 ≤ 1) (h4 : hi2 ≤ 9999) : CmK L tx g A (r2T L tx hi lo2 hi2 (A + 1) (nI c) y) := by
  obtain ⟨a1, a2, a3, b0, b1, b2, b3, b4⟩ := let_1 hg ht hl
  obtain ⟨-, l2, l3, l4, l5⟩ := hl
  generalize hf : put g 0 0 (nI c) = f at a3 b0 b1 b2 b3
  obtain ⟨t1, t2, -⟩ := l5 f b0
  obtain ⟨t3, t4⟩ := t2 b3
  have h0 : ¬ f 0 0 = 0 := by rw [b0]; exact b4
  have hb : rBef f = -1 := by unfold rBef; rw [if_pos b3]; exact b1
  by_cases ho : nuO L tx 0 hi (A + 1)
  · obtain ⟨k1, k2⟩ := num_y hL h0 hb t3 t4 (by decide) h2 ho
    obtain ⟨-, -, m3, m4, m5, m6⟩ := k1 _ (Nat.le_refl _)
    have eR : nuR L tx 0 hi (A + 1) = some (nuV L tx (A + 1) (nuN L tx hi (A + 1))) := if_pos ho
    have eA : nuA L tx 0 hi (A + 1) = A + 1 + 1 + nuN L tx hi (A + 1) := if_pos ho
    have hB0 : rnG g tx A (1 + (nuN L tx hi (A + 1) + 1)) = sSl f (nI (nuV L tx (A + 1) (nuN L tx hi (A + 1)))) := by
      rw [rn_add, a3]; exact m4
    have hpre : ∀ i, A + i < A + 1 + 1 + nuN L tx hi (A + 1) → rAccB (rnG g tx A i) (tx (A + i)) = true ∧ tx (A + i) ≠ 59 := fun i hi9 => by
      cases i with
      | zero => exact ⟨a1, a2⟩
      | succ i =>
        obtain ⟨m1, m2, -⟩ := k1 i (by omega)
        rw [show i + 1 = 1 + i by omega, rn_add, a3, ← Nat.add_assoc]
        exact ⟨m1, m2⟩
    generalize hv : nuV L tx (A + 1) (nuN L tx hi (A + 1)) = v at *
    generalize hB : A + 1 + 1 + nuN L tx hi (A + 1) = B at *
    have eN : 1 + (nuN L tx hi (A + 1) + 1) = B - A := by omega
    rw [eN] at hB0
    have hBL : B ≤ L := by omega
    have f0 : ¬ sSl f (nI v) 0 0 = 0 := by rw [sS_0]; exact h0
    have ft : rTwo (sSl f (nI v)) = true := by rw [sS_two]; exact t1
    have f1 : sSl f (nI v) 0 1 = nI v := (sS1 b3).1
    have f2 : sSl f (nI v) 0 2 = -1 := by rw [(sS1 b3).2]; exact b2
    have f3 : sSl f (nI v) 0 3 = 0 := by rw [sS_3]; exact b3
    have fc : rCmp (sSl f (nI v)) = false := by rw [cmp_2 ft, f2]; decide
    by_cases h44 : sgT L tx B = 44
    · obtain ⟨s1, s2⟩ := sg_in (L := L) (A := B) (tx := tx) (by omega)
      have t44 : tx B = 44 := by omega
      have c44 : (44 : Nat) = 44 ∧ rTwo (sSl f (nI v)) = true ∧ ¬ sSl f (nI v) 0 1 = -1 ∧ sSl f (nI v) 0 3 = 0 := ⟨rfl, ft, by rw [f1]; exact ni_m1 (by omega), f3⟩
      have hacc : rAccB (sSl f (nI v)) (tx B) = true := by
        rw [t44, oth_B f0 (by decide), decide_eq_true c44]; rfl
      have hstp : rAccP (sSl f (nI v)) (tx B) = put (sSl f (nI v)) 0 3 (nI 1) := by
        rw [t44]
        unfold rAccP
        rw [if_neg f0, if_neg (by decide), if_pos c44]
      generalize hf2 : put (sSl f (nI v)) 0 3 (nI 1) = f' at hstp
      have g0 : f' 0 0 = nI c := by rw [← hf2, put_o (by omega), sS_0]; exact b0
      have g1 : f' 0 1 = nI v := by rw [← hf2, put_o (by omega)]; exact f1
      have g2 : f' 0 2 = -1 := by rw [← hf2, put_o (by omega)]; exact f2
      have g3 : f' 0 3 = nI 1 := by rw [← hf2]; exact put_e rfl rfl
      have g3n : ¬ f' 0 3 = 0 := by rw [g3]; decide
      obtain ⟨u1, -, u2⟩ := l5 f' g0
      obtain ⟨u3, u4⟩ := u2 g3 rfl
      have g0n : ¬ f' 0 0 = 0 := by rw [g0]; exact b4
      have gb : rBef f' = -1 := by unfold rBef; rw [if_neg g3n]; exact g2
      have hB1 : rnG g tx A (B - A + 1) = f' := by
        show rAccP (rnG g tx A (B - A)) (tx (A + (B - A))) = f'
        rw [hB0, show A + (B - A) = B by omega, hstp]
      have hpre2 : ∀ i, A + i < B + 1 → rAccB (rnG g tx A i) (tx (A + i)) = true ∧ tx (A + i) ≠ 59 := fun i hi9 => by
        by_cases q : A + i < B
        · exact hpre i q
        · have : i = B - A := by omega
          rw [this, hB0, show A + (B - A) = B by omega]
          exact ⟨hacc, by omega⟩
      by_cases ho2 : nuO L tx lo2 hi2 (B + 1)
      · obtain ⟨n1, n2⟩ := num_y hL g0n gb u3 u4 h3 h4 ho2
        have eR2 : nuR L tx lo2 hi2 (B + 1) = some (nuV L tx (B + 1) (nuN L tx hi2 (B + 1))) := if_pos ho2
        have eA2 : nuA L tx lo2 hi2 (B + 1) = B + 1 + 1 + nuN L tx hi2 (B + 1) := if_pos ho2
        have er : r2T L tx hi lo2 hi2 (A + 1) (nI c) y = (true, B + 1 + 1 + nuN L tx hi2 (B + 1), nI c, nI v, nI (nuV L tx (B + 1) (nuN L tx hi2 (B + 1)))) := by
          unfold r2T
          rw [eR, eA, if_neg (fun e => by cases e), if_pos h44, eR2, eA2]; rfl
        rw [er]
        obtain ⟨-, -, w3, w4, w5, w6⟩ := n1 _ (Nat.le_refl _)
        have eB : rnG g tx A (B + 1 + 1 + nuN L tx hi2 (B + 1) - A) = sSl f' (nI (nuV L tx (B + 1) (nuN L tx hi2 (B + 1)))) := by
          rw [show B + 1 + 1 + nuN L tx hi2 (B + 1) - A = (B - A + 1) + (nuN L tx hi2 (B + 1) + 1) by omega, rn_add, hB1, show A + (B - A + 1) = B + 1 by omega]
          exact w4
        refine ⟨by show A ≤ B + 1 + 1 + _; omega, by show B + 1 + 1 + _ ≤ L; omega, fun i hi9 => ?_, fun e => Bool.noConfusion e, fun _ => ?_⟩
        · have hi9 : A + i < B + 1 + 1 + nuN L tx hi2 (B + 1) := hi9
          by_cases q : A + i < B + 1
          · exact hpre2 i q
          · obtain ⟨w1, w2, -⟩ := n1 (A + i - (B + 1)) (by omega)
            have ei : i = (B - A + 1) + (A + i - (B + 1)) := by omega
            have e1 : rnG g tx A i = rnG f' tx (B + 1) (A + i - (B + 1)) := by
              rw [ei, rn_add, hB1, show A + (B - A + 1) = B + 1 by omega, ← ei]
            rw [e1, show A + i = B + 1 + (A + i - (B + 1)) by omega]
            rw [show B + 1 + (A + i - (B + 1)) - (B + 1) = A + i - (B + 1) by omega]
            exact ⟨w1, w2⟩
        · show rCmp (rnG g tx A (B + 1 + 1 + nuN L tx hi2 (B + 1) - A)) = true ∧ ¬ rnG g tx A (B + 1 + 1 + nuN L tx hi2 (B + 1) - A) 0 0 = 0 ∧ rnG g tx A (B + 1 + 1 + nuN L tx hi2 (B + 1) - A) 0 0 = nI c ∧ rnG g tx A (B + 1 + 1 + nuN L tx hi2 (B + 1) - A) 0 1 = nI v ∧ (rTwo (rnG g tx A (B + 1 + 1 + nuN L tx hi2 (B + 1) - A)) = true → rnG g tx A (B + 1 + 1 + nuN L tx hi2 (B + 1) - A) 0 2 = nI (nuV L tx (B + 1) (nuN L tx hi2 (B + 1)))) ∧ (B + 1 + 1 + nuN L tx hi2 (B + 1) < L → tx (B + 1 + 1 + nuN L tx hi2 (B + 1)) ≠ 59 → rAccB (rnG g tx A (B + 1 + 1 + nuN L tx hi2 (B + 1) - A)) (tx (B + 1 + 1 + nuN L tx hi2 (B + 1))) = false)
          rw [eB]
          have x0 : ¬ sSl f' (nI (nuV L tx (B + 1) (nuN L tx hi2 (B + 1)))) 0 0 = 0 := by rw [sS_0]; exact g0n
          have x2 := (sS2 (v := nI (nuV L tx (B + 1) (nuN L tx hi2 (B + 1)))) g3n).1
          have xt : rTwo (sSl f' (nI (nuV L tx (B + 1) (nuN L tx hi2 (B + 1))))) = true := by rw [sS_two]; exact u1
          refine ⟨?_, x0, by rw [sS_0]; exact g0, by rw [(sS2 g3n).2]; exact g1, fun _ => x2, fun q1 q2 => stop_B x0 (fun z1 z2 => n2 q1 z1 z2) (fun _ z => g3n (by rw [← sS_3 (f := f')]; exact z.2.2)) (fun z => absurd z q2)⟩
          rw [cmp_2 xt, x2, decide_eq_true (ni_m1 (by omega))]
      · have eR2 : nuR L tx lo2 hi2 (B + 1) = none := if_neg ho2
        have eA2 : nuA L tx lo2 hi2 (B + 1) = B + 1 := if_neg ho2
        have er : r2T L tx hi lo2 hi2 (A + 1) (nI c) y = (false, B + 1, nI c, nI v, -1) := by
          unfold r2T
          rw [eR, eA, if_neg (fun e => by cases e), if_pos h44, eR2, eA2]; rfl
        rw [er]
        have eB : rnG g tx A (B + 1 - A) = f' := by rw [show B + 1 - A = B - A + 1 by omega]; exact hB1
        refine ⟨by show A ≤ B + 1; omega, s1, hpre2, fun _ => ?_, fun e => Bool.noConfusion e⟩
        show rCmp (rnG g tx A (B + 1 - A)) = false ∧ (B + 1 < L → rAccB (rnG g tx A (B + 1 - A)) (tx (B + 1)) = false)
        rw [eB]
        have hc : rCmp f' = false := by rw [cmp_2 u1, g2]; decide
        exact ⟨hc, fun q => stop_B g0n (fun z1 z2 => num_n g0n gb u3 u4 h3 h4 ho2 q z1 z2) (fun _ z => g3n z.2.2) (fun _ => hc)⟩
    · have er : r2T L tx hi lo2 hi2 (A + 1) (nI c) y = (false, B, nI c, nI v, -1) := by
        unfold r2T
        rw [eR, eA, if_neg (fun e => by cases e), if_neg h44]; rfl
      rw [er]
      refine ⟨by show A ≤ B; omega, hBL, hpre, fun _ => ?_, fun e => Bool.noConfusion e⟩
      show rCmp (rnG g tx A (B - A)) = false ∧ (B < L → rAccB (rnG g tx A (B - A)) (tx B) = false)
      rw [hB0]
      refine ⟨fc, fun q => stop_B f0 (fun z1 z2 => k2 q z1 z2) (fun z => ?_) (fun _ => fc)⟩
      rw [sg_at q] at h44
      exact absurd z h44
  · have eR : nuR L tx 0 hi (A + 1) = none := if_neg ho
    have eA : nuA L tx 0 hi (A + 1) = A + 1 := if_neg ho
    have er : r2T L tx hi lo2 hi2 (A + 1) (nI c) y = (false, A + 1, nI c, -1, -1) := by
      unfold r2T; rw [if_pos eR, eA]
    rw [er]
    have eB : rnG g tx A (A + 1 - A) = f := by rw [show A + 1 - A = 1 by omega]; exact a3
    refine ⟨Nat.le_succ A, hA, fun i hi9 => ?_, fun _ => ?_, fun e => Bool.noConfusion e⟩
    · have hi9 : A + i < A + 1 := hi9
      have : i = 0 := by omega
      subst this; exact ⟨a1, a2⟩
    · show rCmp (rnG g tx A (A + 1 - A)) = false ∧ (A + 1 < L → rAccB (rnG g tx A (A + 1 - A)) (tx (A + 1)) = false)
      rw [eB]
      have hc : rCmp f = false := by rw [cmp_2 t1, b2]; decide
      exact ⟨hc, fun q => stop_B h0 (fun z1 z2 => num_n h0 hb t3 t4 (by decide) h2 ho q z1 z2) (fun _ z => z.2.1 b1) (fun _ => hc)⟩
/-- any command -/
theorem rc_K {x : Int32} (hL : L ≤ 80) (hA : A ≤ L) (hg : RFr g) : CmK L tx g A (rcT L tx A x y) := by
  have hbad : isLet (sgT L tx A) = false → rcT L tx A x y = (false, A, nI (sgT L tx A), x, y) → CmK L tx g A (rcT L tx A x y) := fun hn e => by
    rw [e]
    refine ⟨Nat.le_refl A, hA, fun i hi => absurd hi (by show ¬ A + i < A; omega), fun _ => ?_, fun e => Bool.noConfusion e⟩
    show rCmp (rnG g tx A (A - A)) = false ∧ (A < L → rAccB (rnG g tx A (A - A)) (tx A) = false)
    rw [Nat.sub_self]
    show rCmp g = false ∧ (A < L → rAccB g (tx A) = false)
    obtain ⟨g0, g1, g2, g3⟩ := hg
    have ht : rTwo g = false := by unfold rTwo; rw [g0]; decide
    refine ⟨by rw [cmp_1 ht, g1]; decide, fun q => ?_⟩
    unfold rAccB
    rw [if_pos g0, ← sg_at (tx := tx) q]; exact hn
  have hgo : ∀ c, sgT L tx A = c → c ≠ 0 → A < L ∧ tx A = c := fun c h h0 => by
    obtain ⟨q1, q2⟩ := sg_in (L := L) (A := A) (tx := tx) (by omega)
    exact ⟨q1, by omega⟩
  by_cases c1 : sgT L tx A = 115
  · obtain ⟨q1, q2⟩ := hgo 115 c1 (by decide)
    have e : rcT L tx A x y = r2T L tx 29 0 9999 (A + 1) (nI 115) y := by unfold rcT; simp only [c1]; rfl
    rw [e]; exact two_K hL q1 hg q2 ls_115 (by decide) (by decide) (by decide)
  by_cases c2 : sgT L tx A = 119
  · obtain ⟨q1, q2⟩ := hgo 119 c2 (by decide)
    have e : rcT L tx A x y = r2T L tx 29 0 9999 (A + 1) (nI 119) y := by unfold rcT; simp only [c2]; rfl
    rw [e]; exact two_K hL q1 hg q2 ls_119 (by decide) (by decide) (by decide)
  by_cases c3 : sgT L tx A = 100
  · obtain ⟨q1, q2⟩ := hgo 100 c3 (by decide)
    have e : rcT L tx A x y = r1T L tx 0 29 (A + 1) (nI 100) y := by unfold rcT; simp only [c3]; rfl
    rw [e]; exact one_K hL q1 hg q2 ls_100 (by decide) (by decide)
  by_cases c4 : sgT L tx A = 108
  · obtain ⟨q1, q2⟩ := hgo 108 c4 (by decide)
    have e : rcT L tx A x y = r2T L tx 5 1 20 (A + 1) (nI 108) y := by unfold rcT; simp only [c4]; rfl
    rw [e]; exact two_K hL q1 hg q2 ls_108 (by decide) (by decide) (by decide)
  by_cases c5 : sgT L tx A = 114
  · obtain ⟨q1, q2⟩ := hgo 114 c5 (by decide)
    have e : rcT L tx A x y = r2T L tx 5 1 600 (A + 1) (nI 114) y := by unfold rcT; simp only [c5]; rfl
    rw [e]; exact two_K hL q1 hg q2 ls_114 (by decide) (by decide) (by decide)
  by_cases c6 : sgT L tx A = 99
  · obtain ⟨q1, q2⟩ := hgo 99 c6 (by decide)
    have e : rcT L tx A x y = r1T L tx 0 5 (A + 1) (nI 99) y := by unfold rcT; simp only [c6]; rfl
    rw [e]; exact one_K hL q1 hg q2 ls_99 (by decide) (by decide)
  by_cases c7 : sgT L tx A = 111
  · obtain ⟨q1, q2⟩ := hgo 111 c7 (by decide)
    have e : rcT L tx A x y = r1T L tx 0 5 (A + 1) (nI 111) y := by unfold rcT; simp only [c7]; rfl
    rw [e]; exact one_K hL q1 hg q2 ls_111 (by decide) (by decide)
  by_cases c8 : sgT L tx A = 120
  · obtain ⟨q1, q2⟩ := hgo 120 c8 (by decide)
    have e : rcT L tx A x y = r1T L tx 0 5 (A + 1) (nI 120) y := by unfold rcT; simp only [c8]; rfl
    rw [e]; exact one_K hL q1 hg q2 ls_120 (by decide) (by decide)
  by_cases c9 : sgT L tx A = 116
  · obtain ⟨q1, q2⟩ := hgo 116 c9 (by decide)
    have e : rcT L tx A x y = r1T L tx 1 600 (A + 1) (nI 116) y := by unfold rcT; simp only [c9]; rfl
    rw [e]; exact one_K hL q1 hg q2 ls_116 (by decide) (by decide)
  refine hbad ?_ ?_
  · unfold isLet
    rw [decide_eq_false]
    omega
  · unfold rcT
    simp only
    rw [if_neg (by omega), if_neg (by omega), if_neg (by omega), if_neg (by omega), if_neg (by omega), if_neg (by omega)]
end
