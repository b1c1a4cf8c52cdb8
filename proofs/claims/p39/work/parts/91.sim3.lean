/-! counts of status, losses, releases -/
theorem sim_cnt {f : SV} {s : NV} {b : Nat} {x : Int32} (hS : Sim f s b) (hC : BlkC s b) (hx : ¬ x = -1) : ∀ k, k ≤ 30 → cntS f x k = ctL s b x k := by
  intro k
  induction k with
  | zero => intro _; rfl
  | succ k ih =>
    intro hk
    rw [cntS, ctL, ih (by omega), sim_st hS hC (by omega)]
    cases thM s b k with
    | false => rw [if_neg (by decide : ¬ false = true), if_neg (fun e => hx e.symm), if_neg (by decide : ¬ false = true)]; rfl
    | true =>
      rw [if_pos rfl, if_pos rfl]
      split <;> rfl
theorem sim_catt {f : SV} {s : NV} (hS : Sim f s 0) {h : Nat} (hh : h < 6) : cattS f h = !decide (ofM s 0 h 1 = nI 1) := by
  unfold cattS
  rw [hS.2.2.2.2.1 h (by omega), decide_eq_true hh, Bool.true_and]
theorem sim_cbrk {f : SV} {s : NV} (hS : Sim f s 0) {h : Nat} (hh : h < 6) : cbrkS f h = decide (¬ ofM s 0 h 0 = 0) := by
  unfold cbrkS
  rw [(hS.2.2.2.1 h hh).1]
/-- a change of one State's place and of the block's place keeps the rest -/
theorem ofM_la {s : NV} {b h w h2 w2 : Nat} {v : Int32} (hw : w < 4) (hw2 : w2 < 4) : ofM (laM s b h w v) b h2 w2 = if h2 = h ∧ w2 = w then v else ofM s b h2 w2 := by
  unfold ofM laM upd
  by_cases e : h2 = h ∧ w2 = w
  · rw [if_pos e, if_pos (by omega)]
  · rw [if_neg e, if_neg (by omega)]
theorem rpM_la {s : NV} {b h w h2 p : Nat} {v : Int32} (hh : h < 6) (hw : w < 4) : rpM (laM s b h w v) b h2 p = rpM s b h2 p := by
  unfold rpM laM upd
  rw [if_neg (by omega)]
theorem thM_la {s : NV} {b h w p : Nat} {v : Int32} (hh : h < 6) (hw : w < 4) : thM (laM s b h w v) b p = thM s b p := by
  unfold thM laM upd
  rw [if_neg (by omega)]
theorem fsM_la {s : NV} {b h w h2 p : Nat} {v : Int32} (hh : h < 6) (hw : w < 4) : fsM (laM s b h w v) b h2 p = fsM s b h2 p := by
  unfold fsM
  rw [thM_la hh hw, rpM_la hh hw]
  unfold laM upd
  rw [if_neg (by omega)]
theorem hdM_la {s : NV} {b h w h2 : Nat} {v : Int32} (hh : h < 6) (hw : w < 4) : hdM (laM s b h w v) b h2 = hdM s b h2 := by
  unfold hdM
  rw [hdL_ct, hdL_ct]
  exact fb_ct_cong fun p hp => by rw [rpM_la hh hw]
/-- a host's mode set on both sides -/
theorem sim_mode {f : SV} {s : NV} {b h : Nat} {v : Int32} (hS : Sim f s b) (hh : h < 6) : Sim (put f 1 h v) (laM s b h 0 v) b := by
  obtain ⟨⟨h1, h2, h3, h4⟩, h5, h6, h7, h8, h9, h10⟩ := hS
  have o : ∀ j, j < 8 → laM s b h 0 v (b + j) = s (b + j) := fun j hj => by unfold laM upd; rw [if_neg (by omega)]
  refine ⟨⟨?_, ?_, ?_, ?_⟩, ?_, ?_, ?_, ?_, ?_, ?_⟩
  · rw [o 0 (by decide)]; exact h1
  · rw [o 2 (by decide)]; exact h2
  · rw [o 3 (by decide)]; exact h3
  · rw [o 4 (by decide)]; exact h4
  · rw [o 4 (by decide)]; exact h5
  · rw [o 4 (by decide), o 5 (by decide), o 6 (by decide), o 7 (by decide)]; exact h6
  · intro k hk
    rw [ofM_la (by decide) (by decide), ofM_la (by decide) (by decide), ofM_la (by decide) (by decide), put_at]
    have e2 : put f 1 h v 2 k = f 2 k := by rw [put_at, if_neg (by omega)]
    have e3 : put f 1 h v 3 k = f 3 k := by rw [put_at, if_neg (by omega)]
    rw [e2, e3, if_neg (show ¬ (k = h ∧ 2 = 0) by omega), if_neg (show ¬ (k = h ∧ 3 = 0) by omega)]
    refine ⟨?_, (h7 k hk).2⟩
    by_cases e : k = h
    · rw [if_pos ⟨rfl, e⟩, if_pos ⟨e, rfl⟩]
    · rw [if_neg (fun q => e q.2), if_neg (fun q => e q.1)]; exact (h7 k hk).1
  · intro k hk
    rw [ofM_la (by decide) (by decide), if_neg (show ¬ (k = h ∧ 1 = 0) by omega)]
    exact h8 k hk
  · intro p hp
    rw [thM_la hh (by decide)]
    refine ⟨(h9 p hp).1, (h9 p hp).2.trans ?_⟩
    unfold laM upd
    rw [if_neg (by omega)]
  · intro k hk p hp
    rw [fsM_la hh (by decide), rpM_la hh (by decide)]
    exact h10 k hk p hp
