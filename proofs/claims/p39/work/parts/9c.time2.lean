/-! at rest -/
theorem reC_iff {s : NV} {b : Nat} : ∀ k, reC s b k = true ↔ s (b + 4) = -1 ∧ ∀ h, h < k → ¬ ofM s b h 0 = nI 2 := by
  intro k
  induction k with
  | zero =>
    rw [reC, decide_eq_true_eq]
    exact ⟨fun e => ⟨e, fun h hh => absurd hh (Nat.not_lt_zero h)⟩, fun e => e.1⟩
  | succ k ih =>
    rw [reC]
    cases hr : reC s b k with
    | false =>
      rw [if_neg Bool.false_ne_true]
      constructor
      · intro e; cases e
      · intro e
        rw [ih.mpr ⟨e.1, fun h hh => e.2 h (by omega)⟩] at hr
        cases hr
    | true =>
      rw [if_pos rfl]
      have h1 := ih.mp hr
      by_cases h2 : ofM s b k 0 = nI 2
      · rw [if_pos h2]
        exact ⟨fun e => (by cases e), fun e => absurd h2 (e.2 k (by omega))⟩
      · rw [if_neg h2]
        refine ⟨fun _ => ⟨h1.1, fun h hh => ?_⟩, fun _ => rfl⟩
        by_cases e : h = k
        · subst e; exact h2
        · exact h1.2 h (by omega)
theorem recS_iff {f : SV} : ∀ k, recS f k = true ↔ ∃ h, h < k ∧ f 1 h = nI 2 := by
  intro k
  induction k with
  | zero => exact ⟨fun e => (by cases e), fun ⟨h, hh, _⟩ => absurd hh (Nat.not_lt_zero h)⟩
  | succ k ih =>
    rw [recS, Bool.or_eq_true, ih, decide_eq_true_eq]
    constructor
    · rintro (⟨h, h1, h2⟩ | h)
      · exact ⟨h, by omega, h2⟩
      · exact ⟨k, by omega, h⟩
    · rintro ⟨h, h1, h2⟩
      by_cases e : h = k
      · subst e; exact Or.inr h2
      · exact Or.inl ⟨h, by omega, h2⟩
theorem b_iff {a b : Bool} (h : a = true ↔ b = true) : a = b := by
  cases a <;> cases b <;> simp_all
theorem sim_rest {f : SV} {s : NV} {b : Nat} (hS : Sim f s b) : restS f = reC s b 6 := by
  apply b_iff
  rw [reC_iff]
  unfold restS
  rw [Bool.and_eq_true, decide_eq_true_eq, hS.a.1.2.2.2]
  constructor
  · rintro ⟨h1, h2⟩
    refine ⟨h2, fun h hh e => ?_⟩
    rw [(recS_iff 6).mpr ⟨h, hh, (hS.h h hh).1.trans e⟩] at h1
    cases h1
  · rintro ⟨h1, h2⟩
    refine ⟨?_, h1⟩
    cases hr : recS f 6 with
    | false => rfl
    | true =>
      obtain ⟨h, hh, e⟩ := (recS_iff 6).mp hr
      exact absurd ((hS.h h hh).1.symm.trans e) (h2 h hh)
theorem re_now {s : NV} {b : Nat} {v : Int32} : reC (upd s (b + 0) v) b 6 = reC s b 6 := by
  apply b_iff
  rw [reC_iff, reC_iff, upd_n (by omega)]
  constructor
  · rintro ⟨h1, h2⟩
    exact ⟨h1, fun h hh => by have := h2 h hh; rw [now_of] at this; exact this⟩
  · rintro ⟨h1, h2⟩
    exact ⟨h1, fun h hh => by rw [now_of]; exact h2 h hh⟩
/-- one round of the program's forecast -/
def rsN (g : SV) (e : Int32) : SV := avG (g 0 8 + nI (cN (rsD g e))) (cN (rsD g e)) g
theorem rsG_s {f : SV} {e : Int32} {k : Nat} : rsG f e (k + 1) = rsN (rsG f e k) e := rfl
theorem rsG_t {f : SV} {e : Int32} : ∀ k, rsG f e (k + 1) = rsG (rsN f e) e k := by
  intro k
  induction k with
  | zero => rfl
  | succ k ih => rw [rsG_s, ih, rsG_s]
theorem rs_all {b B M t0 : Nat} (hM : M ≤ 1000600) (hE : t0 + 600 ≤ M) : ∀ m, m ≤ 600 → ∀ g s, Sim g s b → JJ s b B M → J6 s b → s (b + 0) = nI (t0 + 600 - m) →
    ∃ K K', K ≤ m ∧ K' ≤ m ∧ (∀ k, k < K → restS (rsG g (nI (t0 + 600)) k) = false ∧ rsG g (nI (t0 + 600)) k 0 8 < nI (t0 + 600)) ∧
      (∀ k, k < K → rsD (rsG g (nI (t0 + 600)) k) (nI (t0 + 600)) = nI (cN (rsD (rsG g (nI (t0 + 600)) k) (nI (t0 + 600)))) ∧ cN (rsD (rsG g (nI (t0 + 600)) k) (nI (t0 + 600))) ≤ 1000) ∧
      (restS (rsG g (nI (t0 + 600)) K) = true ∨ (restS (rsG g (nI (t0 + 600)) K) = false ∧ ¬ rsG g (nI (t0 + 600)) K 0 8 < nI (t0 + 600))) ∧
      rsG g (nI (t0 + 600)) K 0 8 = nI (t0 + 600 - m + K') ∧ (∀ j, j < K' → reC (spL s b j) b 6 = false) ∧ reC (spL s b K') b 6 = restS (rsG g (nI (t0 + 600)) K) ∧ (K' = m ∨ reC (spL s b K') b 6 = true) ∧ (∀ j, j < K' → trOK (tkM (spL s b j) b) b) ∧ Frm (spL s b K') s b := by
  intro m
  induction m using Nat.strongRecOn with
  | ind m ih =>
    intro hm g s hS hJ h6 h0
    by_cases hr : restS g = true
    · exact ⟨0, 0, Nat.zero_le _, Nat.zero_le _, fun k hk => absurd hk (Nat.not_lt_zero k), fun k hk => absurd hk (Nat.not_lt_zero k), Or.inl hr, hS.a.1.1.trans h0, fun k hk => absurd hk (Nat.not_lt_zero k), (sim_rest hS).symm, Or.inr ((sim_rest hS).symm.trans hr), fun k hk => absurd hk (Nat.not_lt_zero k), fun _ _ => rfl⟩
    · have hr2 : restS g = false := by cases hq : restS g with
        | false => rfl
        | true => exact absurd hq hr
      by_cases m0 : m = 0
      · subst m0
        refine ⟨0, 0, Nat.zero_le _, Nat.zero_le _, fun k hk => absurd hk (Nat.not_lt_zero k), fun k hk => absurd hk (Nat.not_lt_zero k), Or.inr ⟨hr2, ?_⟩, hS.a.1.1.trans h0, fun k hk => absurd hk (Nat.not_lt_zero k), (sim_rest hS).symm, Or.inl rfl, fun k hk => absurd hk (Nat.not_lt_zero k), fun _ _ => rfl⟩
        show ¬ g 0 8 < _
        rw [hS.a.1.1, h0]
        exact ni_nlt (by omega) (by omega)
      · obtain ⟨j, j1, j2, jn, -, -, -, -, -, -, -, jid⟩ := nx_all hM hS hJ h6 h0 (e := t0 + 600) (by omega) hE
        have eD : rsD g (nI (t0 + 600)) = nI j := by
          unfold rsD
          rw [jn, hS.a.1.1, h0, pk_sub (by omega), show t0 + 600 - m + j - (t0 + 600 - m) = j by omega]
        have ecN : cN (nI j) = j := cN_n (by omega)
        have eN : rsN g (nI (t0 + 600)) = avG (nI (t0 + 600 - m + j)) j g := by
          unfold rsN
          rw [eD, ecN, hS.a.1.1, h0, nI_add]
        obtain ⟨a1, a2, a3, a4, a5, -, a7⟩ := av_all hM j j g s (t0 + 600 - m) (Nat.le_refl j) hS hJ h6 h0 (by omega)
        rw [← eN] at a1
        have et : t0 + 600 - m + j = t0 + 600 - (m - j) := by omega
        rw [et] at a4
        obtain ⟨K, K', k1, k2, k3, k4, k5, k6, k7, k8, k9, k10, k11⟩ := ih (m - j) (by omega) (by omega) _ _ a1 a2 a3 a4
        refine ⟨K + 1, j + K', by omega, by omega, fun k hk => ?_, fun k hk => ?_, ?_, ?_, fun i hi => ?_, ?_, ?_, fun i hi => ?_, ?_⟩
        · cases k with
          | zero =>
            refine ⟨hr2, ?_⟩
            show g 0 8 < _
            rw [hS.a.1.1, h0]
            exact ni_lt (by omega) (by omega)
          | succ k => rw [rsG_t]; exact k3 k (by omega)
        · cases k with
          | zero =>
            show rsD g _ = nI (cN (rsD g _)) ∧ cN (rsD g _) ≤ 1000
            rw [eD, ecN]
            exact ⟨rfl, by omega⟩
          | succ k => rw [rsG_t]; exact k4 k (by omega)
        · rw [rsG_t]; exact k5
        · rw [rsG_t, k6]; congr 1; omega
        · by_cases q : i < j
          · rw [jid i q, re_now, ← sim_rest hS]; exact hr2
          · have := k7 (i - j) (by omega)
            rw [← spL_add, show j + (i - j) = i by omega] at this
            exact this
        · rw [rsG_t, spL_add]; exact k8
        · rcases k9 with e | e
          · left; omega
          · right; rw [spL_add]; exact e
        · by_cases q : i < j
          · exact a5 i q
          · have := k10 (i - j) (by omega)
            rw [← spL_add, show j + (i - j) = i by omega] at this
            exact this
        · rw [spL_add]; exact k11.tr a7
