/-! time passes: the two sayings stay -/
section
variable {f f' g : SV} {s s' : NV} {B M : Nat}
/-- each host lends, or holds 20 at the most -/
def HlS (f : SV) : Prop := ∀ h, h < 6 → f 1 h = nI 1 ∨ ctH f h ≤ 20
theorem coG1_11 : coG1 f 0 11 = -1 := by rw [coG1_at, if_neg (by decide), caS_at, if_pos (by omega)]
theorem coG2_0 {p a t : Nat} : coG2 f p a t 0 = f 0 := by
  unfold coG2
  (repeat' split) <;> first | rfl | (rw [put_n (by decide), put_n (by decide)]) | (rw [put_n (by decide)])
theorem coG_11 : coG f 0 11 = -1 := by
  unfold coG
  (repeat' split) <;> first | exact coG1_11 | (rw [coG2_0]; exact coG1_11)
theorem coG2_1 {p a t : Nat} : coG2 f p a t 1 = f 1 := by
  unfold coG2
  (repeat' split) <;> first | rfl | (rw [put_n (by decide), put_n (by decide)]) | (rw [put_n (by decide)])
theorem coG2_5 {p a t : Nat} : coG2 f p a t 5 = f 5 := by
  unfold coG2
  (repeat' split) <;> first | rfl | (rw [put_n (by decide), put_n (by decide)]) | (rw [put_n (by decide)])
theorem coG2_4 {p a t h i : Nat} (hn : h ≠ t) (hb : bt (coG2 f p a t 4 h) i = true) : bt (f 4 h) i = true := by
  unfold coG2 at hb
  split at hb
  · rw [put_at, if_neg (fun z => hn z.2), put_at] at hb
    split at hb
    · rename_i e
      rw [b_and] at hb
      rw [e.2]
      cases h4 : bt (f 4 a) i with
      | true => rfl
      | false => rw [h4, Bool.false_and] at hb; cases hb
    · exact hb
  · split at hb
    · rw [put_at, if_neg (fun z => hn z.2)] at hb; exact hb
    · exact hb
theorem co_hl {p a t : Nat} (h : HlS f) (ht : f 1 t = nI 1) : HlS (coG2 f p a t) := by
  intro k hk
  by_cases e : k = t
  · refine Or.inl ?_
    rw [coG2_1, e]; exact ht
  · rcases h k hk with q | q
    · exact Or.inl (by rw [coG2_1]; exact q)
    · refine Or.inr (Nat.le_trans (ct_sub fun i hi hb => ?_) q)
      rw [b_or, coG2_5] at hb
      rw [b_or]
      cases h4 : bt (coG2 f p a t 4 k) i with
      | true => rw [coG2_4 e h4]; rfl
      | false =>
        rw [h4, Bool.false_or] at hb
        rw [hb, Bool.or_true]
theorem exL_x (hH : HlS f) (hT : TrI f) : ∀ k, HlS (exL f k) ∧ TrI (exL f k) := by
  intro k
  induction k with
  | zero => exact ⟨hH, hT⟩
  | succ k ih =>
    obtain ⟨i1, i2⟩ := ih
    rw [exL]
    split
    · rename_i h2
      split
      · refine ⟨fun h hh => ?_, TrI.host i2 (fun j hj => ?_) (fun q hq => ⟨?_, ?_⟩)⟩
        · rw [ctS_row (by decide), ctH_cong (f := lvS (exL f k) k) (f' := ctS (lvS (exL f k) k) k) (by rw [ctS_row (by decide)]) (by rw [ctS_row (by decide)])]
          by_cases e : h = k
          · subst e
            rcases i1 h hh with q | q
            · rw [q] at h2; exact absurd h2 (by decide)
            · exact Or.inr (Nat.le_trans lvS_ct q)
          · rcases i1 h hh with q | q
            · exact Or.inl (by rw [lvS_at, if_neg (fun z => e z.2)]; exact q)
            · exact Or.inr (Nat.le_trans lvS_ct q)
        · rw [lvS_at, if_neg (by omega)]
        · rw [lvS_at, if_neg (fun z => hq z.2)]
        · rw [lvS_at, if_neg (fun z => hq z.2)]
      · exact ⟨i1, i2⟩
    · exact ⟨i1, i2⟩
theorem xt_ev (hX : XtS f) {e : Int32} (hS : Sim f s 0) (j3 : J3 s 0) (hS' : Sim (evG f e) s' 0) (j4 : J4 s' 0) : XtS (evG f e) := by
  obtain ⟨hH, hT⟩ := hX
  have r1 : ∀ r, r ≠ 0 → evG1 f e r = f r := fun r hr => put_n hr
  have r0 : ∀ j, j ≠ 8 → evG1 f e 0 j = f 0 j := fun j hj => by unfold evG1; rw [put_at, if_neg (fun z => hj z.2)]
  have hH1 : HlS (evG1 f e) := fun h hh => Or.inr (by rw [ctH_cong (f := f) (by rw [r1 4 (by decide)]) (by rw [r1 5 (by decide)])]; exact hH h hh)
  have hT1 : TrI (evG1 f e) := hT.cong (r0 11 (by decide)) (r0 12 (by decide)) (r0 13 (by decide)) (r1 4 (by decide)) (r1 5 (by decide))
  have h2 : HlS (evG2 (evG1 f e)) ∧ TrI (evG2 (evG1 f e)) := by
    unfold evG2
    split
    · exact ⟨hH1, hT1⟩
    · rename_i hn
      split
      · refine ⟨?_, TrI.no coG_11⟩
        have hc : HlS (coG1 (evG1 f e)) := fun h hh => by
          rw [coG1_row (by decide), ctH_cong (f := evG1 f e) (f' := coG1 (evG1 f e)) (by rw [coG1_row (by decide)]) (by rw [coG1_row (by decide)])]
          exact hH1 h hh
        unfold coG
        split
        · split
          · split
            · refine co_hl hc ?_
              rw [r0 11 (by decide)] at hn
              obtain ⟨p, S, U, a1, a2, a3, a4, a5, a6, a7, a8⟩ := hT hn
              rw [coG1_row (by decide), r1 1 (by decide), r0 13 (by decide), a6, ixN_n (by omega)]
              exact (tr_conn hS j3 hn a2 a3 a5 a6).2.2.1
            · exact hc
          · exact hc
        · exact hc
      · exact ⟨hH1, hT1⟩
  obtain ⟨h3, h4⟩ := exL_x h2.1 h2.2 6
  refine ⟨hd_of hS' j4 fun h hh => ?_, tr_se h4⟩
  unfold evG
  rcases h3 h hh with q | q
  · exact Or.inl (seS_len q)
  · exact Or.inr (by rw [ctH_cong (f := exL (evG2 (evG1 f e)) 6) (by rw [seS_row (by decide) (by decide)]) (by rw [seS_row (by decide) (by decide)])]; exact q)
theorem xt_av (hM : M ≤ 1000600) : ∀ n k f s t, k ≤ n → Sim f s 0 → JJ s 0 B M → J6 s 0 → s (0 + 0) = nI t → t + k ≤ M → XtS f → XtS (avG (nI (t + k)) n f) := by
  intro n
  induction n with
  | zero => intro k f s t _ _ _ _ _ _ hX; exact hX
  | succ n ih =>
    intro k f s t hk hS hJ h6 h0 hb hX
    rw [avG]
    split
    · exact hX
    · rename_i hn
      have e8 : f 0 8 = nI t := hS.1.1.trans h0
      have hk0 : 1 ≤ k := Classical.byContradiction fun q => hn (by rw [e8]; exact ni_le (by omega) (by omega))
      obtain ⟨j, j1, j2, -, g1, g2, g3, g4, -⟩ := nx_all (e := t + k) hM hS hJ h6 h0 (by omega) hb
      have hx := xt_ev hX hS hJ.2.2.1 g1 g2.2.2.2.1
      have := ih (k - j) (evG f (nI (t + k))) (spL s 0 j) (t + j) (by omega) g1 g2 g3 g4 (by omega) hx
      rw [show t + j + (k - j) = t + k by omega] at this
      exact this
end
