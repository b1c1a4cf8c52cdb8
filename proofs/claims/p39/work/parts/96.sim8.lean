/-! the choice of a transfer agrees -/
/-- deadlines of hosts that are recalled are small numbers -/
def DlM (s : NV) (b : Nat) : Prop := ∀ h, h < 6 → ofM s b h 0 = nI 2 → ∃ d, d ≤ 2000000 ∧ ofM s b h 3 = nI d
def ChR (s : NV) (b : Nat) (a : Int32 × Option (Nat × Nat)) (c : (Nat × Int32) × NV) : Prop :=
  (a = (nI 90000000, none) ∧ c.1.1 = 4 ∧ c.2 = s) ∨
  (∃ P H k d, P < 30 ∧ H < 6 ∧ 1 ≤ k ∧ k ≤ 3 ∧ d ≤ 2000000 ∧ (k = 2 → d = 0) ∧ clsM s b P H = k ∧ a = (rkN k (nI d), some (P, H)) ∧ c = ((k, nI d), upd (upd s (b + 5) (nI H)) (b + 7) (nI P)))
theorem upd_57 {s : NV} {b : Nat} {x y u v : Int32} : upd (upd (upd (upd s (b + 5) x) (b + 7) y) (b + 5) u) (b + 7) v = upd (upd s (b + 5) u) (b + 7) v := by
  funext i
  unfold upd
  by_cases h1 : i = b + 7
  · rw [if_pos h1, if_pos h1]
  · rw [if_neg h1, if_neg h1]
    by_cases h2 : i = b + 5
    · rw [if_pos h2, if_pos h2, if_neg h1]
    · rw [if_neg h2, if_neg h2, if_neg h1, if_neg h2]
theorem ChR.cg {s : NV} {b : Nat} {a : Int32 × Option (Nat × Nat)} {c : (Nat × Int32) × NV} (h : ChR s b a c) : Cg c.2 s b := by
  rcases h with ⟨-, -, e⟩ | ⟨P, H, k, d, -, -, -, -, -, -, -, -, e⟩
  · rw [e]; exact fun _ _ => rfl
  · rw [e]; exact Cg_tr (Cg_57 (Or.inr rfl)) (Cg_57 (Or.inl rfl))
theorem ch_step {f : SV} {s : NV} {b p h : Nat} {a : Int32 × Option (Nat × Nat)} {c : (Nat × Int32) × NV} (hS : Sim f s b) (hC : BlkC s b) (hD : DlM s b) (hp : p < 30) (hh : h < 6) (hR : ChR s b a c) :
    ChR s b (if a.1 ≤ rkS f h (cpS f p) then a else (if (bestO f p).isSome then (rkS f h (cpS f p), some (p, h)) else a))
      (if btM c.2 b (6 * p + h) c.1.1 c.1.2 then ((clsM c.2 b ((6 * p + h) / 6) ((6 * p + h) % 6), dlM c.2 b (6 * p + h)), upd (upd c.2 (b + 5) (nI ((6 * p + h) % 6))) (b + 7) (nI ((6 * p + h) / 6))) else c) := by
  have e1 : (6 * p + h) / 6 = p := by omega
  have e2 : (6 * p + h) % 6 = h := by omega
  have hcg := hR.cg
  have ec : clsM c.2 b p h = clsM s b p h := clsM_cg hcg
  have ed : ofM c.2 b h 3 = ofM s b h 3 := ofM_cg hcg
  have edl : dlM c.2 b (6 * p + h) = if clsM s b p h = 2 then nI 0 else ofM s b h 3 := by
    unfold dlM; rw [e1, e2, ec, ed]
  have ebt : btM c.2 b (6 * p + h) c.1.1 c.1.2 = (if clsM s b p h = 0 then false else if clsM s b p h < c.1.1 then true else if clsM s b p h = c.1.1 then (if c.1.2 ≤ (if clsM s b p h = 2 then nI 0 else ofM s b h 3) then false else true) else false) := by
    unfold btM; rw [edl, e1, e2, ec]
  rw [ebt, edl, e1, e2, ec]
  have hle := clsM_lt (s := s) (b := b) (p := p) (h := h)
  have ebo := sim_bo hS hp
  by_cases h0 : clsM s b p h = 0
  · rw [if_pos h0, if_neg Bool.false_ne_true]
    have ea : (if a.1 ≤ rkS f h (cpS f p) then a else (if (bestO f p).isSome then (rkS f h (cpS f p), some (p, h)) else a)) = a := by
      by_cases hb : (boM s b p).isNone = true
      · rw [ebo]
        have : (boM s b p).isSome = false := by cases hq : boM s b p with
          | none => rfl
          | some x => rw [hq] at hb; cases hb
        rw [this, if_neg Bool.false_ne_true, ite_self]
      · have hb2 : (boM s b p).isNone = false := by
          cases hq : (boM s b p).isNone with
          | false => rfl
          | true => exact absurd hq hb
        rw [sim_rk hS hC hp hh hb2, h0]
        have e9 : rkN 0 (ofM s b h 3) = nI 90000000 := rfl
        rw [e9, if_pos]
        rcases hR with ⟨e, -, -⟩ | ⟨P, H, k, d, -, -, k1, k2, k3, k4, -, e, -⟩
        · rw [e]; exact Int32.le_refl _
        · rw [e]
          show rkN k (nI d) ≤ nI 90000000
          rw [rkN_n ⟨k1, k2⟩ k4]
          exact nI_le (by omega) (by decide)
    rw [ea]; exact hR
  · have hb2 : (boM s b p).isNone = false := by
      cases hq : (boM s b p).isNone with
      | false => rfl
      | true =>
        exfalso; apply h0
        unfold clsM
        rw [hq]
        split
        · rfl
        · rfl
    have hso : (bestO f p).isSome = true := by
      rw [ebo]
      cases hq : boM s b p with
      | none => rw [hq] at hb2; cases hb2
      | some x => rfl
    rw [if_neg h0, sim_rk hS hC hp hh hb2, hso, if_pos rfl]
    obtain ⟨x, hx, hx2, er, ex⟩ : ∃ x, x ≤ 2000000 ∧ (clsM s b p h = 2 → x = 0) ∧ rkN (clsM s b p h) (ofM s b h 3) = rkN (clsM s b p h) (nI x) ∧ (if clsM s b p h = 2 then nI 0 else ofM s b h 3) = nI x := by
      by_cases h2 : clsM s b p h = 2
      · rw [h2]
        exact ⟨0, by omega, fun _ => rfl, rfl, rfl⟩
      · have hrec : ofM s b h 0 = nI 2 := by
          refine Classical.byContradiction fun hn => ?_
          unfold clsM at h0 h2
          rw [if_neg hn, if_neg hn] at h0 h2
          (repeat' split at h0) <;> first | exact h0 rfl | skip
          rename_i q1 q2 q3
          rw [if_neg q1, if_neg q2, if_pos q3] at h2
          exact h2 rfl
        obtain ⟨d, d1, d2⟩ := hD h hh hrec
        exact ⟨d, d1, fun e => absurd e h2, by rw [d2], by rw [if_neg h2, d2]⟩
    rw [er, ex]
    have k1 : 1 ≤ clsM s b p h ∧ clsM s b p h ≤ 3 := ⟨by omega, hle⟩
    rcases hR with ⟨e, c4, cs⟩ | ⟨P, H, k, d, hP, hH, j1, j2, j3, j4, j5, e, ecc⟩
    · rw [e, c4]
      show ChR s b (if nI 90000000 ≤ _ then _ else _) _
      rw [if_neg (rk_top k1 hx hx2), if_pos (show clsM s b p h < 4 by omega), if_pos rfl, cs]
      exact Or.inr ⟨p, h, clsM s b p h, x, hp, hh, k1.1, k1.2, hx, hx2, rfl, rfl, rfl⟩
    · subst ecc
      subst e
      have hcmp := rk_cmp k1 (⟨j1, j2⟩ : 1 ≤ k ∧ k ≤ 3) hx j3 hx2 j4
      have hnew : ChR s b (rkN (clsM s b p h) (nI x), some (p, h)) ((clsM s b p h, nI x), upd (upd (upd (upd s (b + 5) (nI H)) (b + 7) (nI P)) (b + 5) (nI h)) (b + 7) (nI p)) := by
        rw [upd_57]
        exact Or.inr ⟨p, h, clsM s b p h, x, hp, hh, k1.1, k1.2, hx, hx2, rfl, rfl, rfl⟩
      have hold : ChR s b (rkN k (nI d), some (P, H)) ((k, nI d), upd (upd s (b + 5) (nI H)) (b + 7) (nI P)) := Or.inr ⟨P, H, k, d, hP, hH, j1, j2, j3, j4, j5, rfl, rfl⟩
      show ChR s b (if rkN k (nI d) ≤ rkN (clsM s b p h) (nI x) then _ else _) (if (if clsM s b p h < k then true else if clsM s b p h = k then (if nI d ≤ nI x then false else true) else false) = true then _ else _)
      by_cases q1 : clsM s b p h < k
      · rw [if_neg (fun hq => (hcmp.mp hq) (Or.inl q1)), if_pos q1, if_pos rfl]
        exact hnew
      · rw [if_neg q1]
        by_cases q2 : clsM s b p h = k
        · rw [if_pos q2]
          by_cases q3 : nI d ≤ nI x
          · have q4 : ¬ x < d := by rw [nI_leI (by omega) (by omega)] at q3; omega
            rw [if_pos q3, if_neg Bool.false_ne_true, if_pos (hcmp.mpr (fun hq => by omega))]
            exact hold
          · have q4 : x < d := by rw [nI_leI (by omega) (by omega)] at q3; omega
            rw [if_neg q3, if_pos rfl, if_neg (fun hq => (hcmp.mp hq) (Or.inr ⟨q2, q4⟩))]
            exact hnew
        · rw [if_neg q2, if_neg Bool.false_ne_true, if_pos (hcmp.mpr (fun hq => by omega))]
          exact hold
theorem sim_chI {f : SV} {s : NV} {b p : Nat} {a : Int32 × Option (Nat × Nat)} (hS : Sim f s b) (hC : BlkC s b) (hD : DlM s b) (hp : p < 30) (hR : ChR s b a (chM s b (6 * p))) : ∀ h, h ≤ 6 → ChR s b (chI f p a h) (chM s b (6 * p + h)) := by
  intro h
  induction h with
  | zero => intro _; exact hR
  | succ h ih =>
    intro hh
    exact ch_step hS hC hD hp (by omega) (ih (by omega))
theorem sim_chL {f : SV} {s : NV} {b : Nat} (hS : Sim f s b) (hC : BlkC s b) (hD : DlM s b) : ∀ p, p ≤ 30 → ChR s b (chL f p) (chM s b (6 * p)) := by
  intro p
  induction p with
  | zero => intro _; exact Or.inl ⟨rfl, rfl, rfl⟩
  | succ p ih =>
    intro hp
    exact sim_chI hS hC hD (by omega) (ih (by omega)) 6 (Nat.le_refl 6)
