/-! hosts released -/
theorem laM_self {s : NV} {b h w : Nat} : laM s b h w (ofM s b h w) = s := by
  funext i
  unfold laM ofM upd
  split
  · rename_i e; rw [e]
  · rfl
theorem blk_mode {s : NV} {b h : Nat} {v : Int32} (hC : BlkC s b) (hh : h < 6) : BlkC (laM s b h 0 v) b := by
  intro k hk p hp h1 h2
  rw [ofM_la (by decide) (by decide), if_neg (show ¬ (k = h ∧ 1 = 0) by omega)] at h1
  rw [rpM_la hh (by decide)] at h2
  rw [fsM_la hh (by decide)]
  exact hC k hk p hp h1 h2
theorem rs_la {s : NV} {b k : Nat} : rsM s b (k + 1) = laM (rsM s b k) b k 0 (if ofM (rsM s b k) b k 0 = nI 2 then (if ofM (rsM s b k) b k 1 = nI 1 then (if nI (hdM (rsM s b k) b k) = 0 then nI 0 else ofM (rsM s b k) b k 0) else ofM (rsM s b k) b k 0) else ofM (rsM s b k) b k 0) := rfl
theorem sim_rl {f : SV} {s : NV} {b : Nat} (hS : Sim f s b) : ∀ k, k ≤ 6 → Sim (rlS f k) (rsM s b k) b := by
  intro k
  induction k with
  | zero => intro _; exact hS
  | succ k ih =>
    intro hk
    have h1 := ih (by omega)
    have hm := (h1.2.2.2.1 k (by omega)).1
    have hc := h1.2.2.2.2.1 k (by omega)
    rw [decide_eq_true (show k < 6 by omega), Bool.true_and] at hc
    have hd := sim_hd h1 (show k < 6 by omega)
    rw [rs_la, rlS, hm, hc, hd]
    by_cases a1 : ofM (rsM s b k) b k 0 = nI 2
    · rw [if_pos a1, if_pos a1]
      by_cases a2 : ofM (rsM s b k) b k 1 = nI 1
      · rw [decide_eq_true a2, if_pos rfl, if_pos a2]
        by_cases a3 : nI (hdM (rsM s b k) b k) = 0
        · rw [if_pos a3, if_pos a3]; exact sim_mode h1 (by omega)
        · rw [if_neg a3, if_neg a3, laM_self]; exact h1
      · rw [decide_eq_false a2, if_neg (by decide), if_neg a2, laM_self]; exact h1
    · rw [if_neg a1, if_neg a1, laM_self]; exact h1
theorem blk_rl {s : NV} {b : Nat} (hC : BlkC s b) : ∀ k, k ≤ 6 → BlkC (rsM s b k) b := by
  intro k
  induction k with
  | zero => intro _; exact hC
  | succ k ih =>
    intro hk
    rw [rs_la]
    exact blk_mode (ih (by omega)) (by omega)
