/-! elementary changes: both sides go on agreeing, the invariants hold -/
def JC (s : NV) (b B : Nat) : Prop := J1 s b B ∧ BlkC s b ∧ J3 s b ∧ J4 s b
theorem JJ.c {s : NV} {b B M : Nat} (h : JJ s b B M) : JC s b B := ⟨h.1, h.2.1, h.2.2.1, h.2.2.2.1⟩
theorem JJ.mk {s : NV} {b B M : Nat} (h : JC s b B) (h5 : J5 s b M) : JJ s b B M := ⟨h.1, h.2.1, h.2.2.1, h.2.2.2, h5⟩
theorem JJ.t {s : NV} {b B M : Nat} (h : JJ s b B M) : J5 s b M := h.2.2.2.2
/-- only the numbers ahead of the hosts change; the transfer stays as it is or is gone -/
theorem JC.top {s s' : NV} {b B : Nat} (h : JC s b B) (hs : Eqc s' s b 8 272) (h1 : s' (b + 1) = s (b + 1)) (h4 : s' (b + 4) = -1 ∨ (s' (b + 4) = s (b + 4) ∧ s' (b + 5) = s (b + 5) ∧ s' (b + 6) = s (b + 6))) : JC s' b B := by
  obtain ⟨⟨c, c1, c2, c3, c4⟩, hC, j3, j4⟩ := h
  have hof : ∀ k w, k < 6 → w < 4 → ofM s' b k w = ofM s b k w := fun k w hk hw => Eqc.of (hs.part (by decide) (by decide)) hk hw
  have hrp : ∀ k p, k < 6 → p < 30 → rpM s' b k p = rpM s b k p := fun k p hk hp => Eqc.rp (hs.part (by decide) (by decide)) hk hp
  have hth : ∀ p, p < 30 → thM s' b p = thM s b p := fun p hp => Eqc.th (hs.part (by decide) (by decide)) hp
  have hfs : ∀ k p, k < 6 → p < 30 → fsM s' b k p = fsM s b k p := fun k p hk hp => Eqc.fs (hs.part (by decide) (by decide)) (hs.part (by decide) (by decide)) hk hp
  have hhd : ∀ k, k < 6 → hdM s' b k = hdM s b k := fun k hk => Eqc.hd (hs.part (by decide) (by decide)) hk
  refine ⟨⟨c, c1, h1.trans c2, fun p hp => ?_, fun h hh p hp => ?_⟩, fun h hh p hp a1 a2 => ?_, ?_, fun h hh => ⟨?_, ?_, ?_⟩⟩
  · have := hs (32 + p) (by omega) (by omega)
    rw [← Nat.add_assoc] at this
    rw [this]; exact c3 p hp
  · rw [hrp h p hh hp]; exact c4 h hh p hp
  · rw [hof h 1 hh (by decide)] at a1
    rw [hrp h p hh hp] at a2
    rw [hfs h p hh hp]
    exact hC h hh p hp a1 a2
  · intro hn
    rcases h4 with e | ⟨e4, e5, e6⟩
    · exact absurd e hn
    · rw [e4] at hn
      obtain ⟨p, S, U, g1, g2, g3, g4, g5, g6, g7, g8, g9, g10, g11⟩ := j3 hn
      exact ⟨p, S, U, g1, g2, g3, g4, e4.trans g5, e5.trans g6, e6.trans g7, by rw [hth p g1]; exact g8, by rw [hof S 1 g2 (by decide)]; exact g9, by rw [hof U 1 g3 (by decide)]; exact g10, by rw [hof U 0 g3 (by decide)]; exact g11⟩
  · rw [hof h 1 hh (by decide)]; exact (j4 h hh).1
  · rw [hof h 0 hh (by decide)]
    intro e p hp
    rw [hrp h p hh hp]; exact (j4 h hh).2.1 e p hp
  · rw [hof h 0 hh (by decide), hof h 2 hh (by decide)]
    intro e
    obtain ⟨x, x1, x2, x3⟩ := (j4 h hh).2.2 e
    refine ⟨x, x1, x2, ?_⟩
    unfold usM at x3 ⊢
    rw [hhd h hh]
    rcases h4 with e4 | ⟨e4, e5, e6⟩
    · rw [if_pos e4]; omega
    · rw [e4, e6]; exact x3
/-! one replica is laid -/
section
variable {s : NV} {b h p : Nat} {x : Int32}
theorem lr_o {j : Nat} (hh : h < 6) (hp : p < 30) (hj : j < 92) : lrM s b h p x (b + j) = s (b + j) := upd_n (by omega)
theorem lr_of {k w : Nat} (hh : h < 6) (hp : p < 30) (hk : k < 6) (hw : w < 4) : ofM (lrM s b h p x) b k w = ofM s b k w := by
  unfold ofM lrM
  exact upd_n (by omega)
theorem lr_st {q : Nat} (hq : q < 30) : lrM s b h p x (b + 32 + q) = s (b + 32 + q) := upd_n (by omega)
theorem lr_th {q : Nat} (hq : q < 30) : thM (lrM s b h p x) b q = thM s b q := by
  unfold thM
  rw [lr_st hq]
theorem lr_rp {k q : Nat} (hp : p < 30) (hq : q < 30) : rpM (lrM s b h p x) b k q = if k = h ∧ q = p then x else rpM s b k q := by
  unfold rpM lrM upd
  by_cases e : k = h ∧ q = p
  · rw [if_pos e, if_pos (by omega)]
  · rw [if_neg e, if_neg (by omega)]
theorem lr_fs {k q : Nat} (hp : p < 30) (hq : q < 30) : fsM (lrM s b h p x) b k q = if k = h ∧ q = p then (thM s b q && decide (x = s (b + 32 + q))) else fsM s b k q := by
  unfold fsM
  rw [lr_th hq, lr_rp hp hq, lr_st hq]
  split <;> rfl
theorem lr_hd {k : Nat} (hp : p < 30) : hdM (lrM s b h p x) b k ≤ hdM s b k + (if k = h then (if x ≤ 0 then 0 else 1) else 0) := by
  unfold hdM
  rw [hdL_ct, hdL_ct]
  by_cases e : k = h
  · subst e
    have e1 : fb_ct (fun q => decide (¬ rpM (lrM s b k p x) b k q ≤ 0)) 30 = fb_ct (fun q => if q = p then decide (¬ x ≤ 0) else decide (¬ rpM s b k q ≤ 0)) 30 := fb_ct_cong fun q hq => by
      rw [lr_rp hp hq]
      by_cases e2 : q = p
      · rw [if_pos ⟨rfl, e2⟩, if_pos e2]
      · rw [if_neg (fun z => e2 z.2), if_neg e2]
    rw [e1, if_pos rfl]
    have := fb_ct_upd (fun q => decide (¬ rpM s b k q ≤ 0)) (decide (¬ x ≤ 0)) hp
    by_cases hx : x ≤ 0
    · rw [if_pos hx]
      rw [decide_eq_false (fun z => z hx), if_neg Bool.false_ne_true] at this
      rw [decide_eq_false (fun z => z hx)]
      omega
    · rw [if_neg hx]
      rw [decide_eq_true hx, if_pos rfl] at this
      rw [decide_eq_true hx]
      omega
  · rw [if_neg e]
    rw [Nat.add_zero]
    have e1 : fb_ct (fun q => decide (¬ rpM (lrM s b h p x) b k q ≤ 0)) 30 = fb_ct (fun q => decide (¬ rpM s b k q ≤ 0)) 30 := fb_ct_cong fun q hq => by
      rw [lr_rp hp hq, if_neg (fun z => e z.1)]
    exact Nat.le_of_eq e1
theorem lr_us {k : Nat} (hh : h < 6) (hp : p < 30) : usM (lrM s b h p x) b k ≤ usM s b k + (if k = h then (if x ≤ 0 then 0 else 1) else 0) := by
  have := lr_hd (s := s) (b := b) (h := h) (x := x) (k := k) hp
  unfold usM
  rw [lr_o hh hp (by decide), lr_o hh hp (by decide)]
  omega
theorem th_no0 (e : thM s b p = true) : ¬ nI 0 = s (b + 32 + p) := by
  unfold thM at e
  intro h2
  rw [← h2] at e
  exact absurd e (by decide)
theorem Sim.ns {f : SV} (hS : Sim f s b) (hC : BlkC s b) (hh : h < 6) (hp : p < 30) (hc : ofM s b h 1 = nI 1) : tb (f 5 h) (nI p) = false := by
  rw [(hS.q h hh p (by omega)).2, decide_eq_true hp, Bool.true_and]
  by_cases hr : rpM s b h p ≤ 0
  · rw [decide_eq_false (fun z => z hr), Bool.and_false]
  · rw [hC h hh p hp hc hr]; rfl
theorem bitP_or {v : Int32} {q : Nat} (hp : p < 32) (hq : q < 32) : tb (v ||| bitP p) (nI q) = (tb v (nI q) || decide (q = p)) := tb_or hp hq
theorem bitP_off {v : Int32} {q : Nat} (hp : p < 32) (hq : q < 32) : tb (v &&& (bitP p ^^^ (-1))) (nI q) = (tb v (nI q) && decide (q ≠ p)) := tb_off hp hq
/-- a fresh one -/
theorem sim_lrF {f : SV} (hS : Sim f s b) (hh : h < 6) (hp : p < 30) (ht : thM s b p = true) (hn : tb (f 5 h) (nI p) = false) (hx : x = s (b + 32 + p)) : Sim (put f 4 h (f 4 h ||| bitP p)) (lrM s b h p x) b := by
  refine Sim.mk ?_ (SH.cg hS.h (fun k _ => ?_) fun j _ a => lr_o hh hp (by omega)) (SC.cg hS.c ?_ fun k hk => lr_of hh hp hk (by decide)) (SP.cg hS.p ?_ (fun q _ => ?_) fun j _ a => lr_o hh hp (by omega)) (fun k hk q hq => ?_)
  · have a := hS.a
    unfold SA at a ⊢
    rw [lr_o hh hp (by decide), lr_o hh hp (by decide), lr_o hh hp (by decide), lr_o hh hp (by decide), lr_o hh hp (by decide), lr_o hh hp (by decide), lr_o hh hp (by decide)]
    exact a
  · exact ⟨put_o (by omega), put_o (by omega), put_o (by omega)⟩
  · exact put_o (by omega)
  · exact put_o (by omega)
  · exact put_o (by omega)
  · have e5 : put f 4 h (f 4 h ||| bitP p) 5 k = f 5 k := put_o (by omega)
    rw [e5]
    have hq0 := hS.q k hk q hq
    by_cases h30 : q < 30
    · rw [lr_fs hp h30, lr_rp hp h30]
      by_cases e : k = h
      · subst e
        rw [put_e rfl rfl, bitP_or (by omega) hq]
        by_cases e2 : q = p
        · subst e2
          rw [if_pos ⟨rfl, rfl⟩, hn, ht, decide_eq_true hx, decide_eq_true h30, decide_eq_true rfl]
          simp
        · rw [if_neg (fun z => e2 z.2), if_neg (fun z => e2 z.2), decide_eq_false e2, Bool.or_false]
          exact hq0
      · rw [if_neg (fun z => e z.1), if_neg (fun z => e z.1), put_o (by omega)]
        exact hq0
    · rw [decide_eq_false h30, Bool.false_and, Bool.false_and] at hq0 ⊢
      by_cases e : k = h
      · subst e
        rw [put_e rfl rfl, bitP_or (by omega) hq, decide_eq_false (by omega), Bool.or_false]
        exact hq0
      · rw [put_o (by omega)]; exact hq0
/-- one taken away -/
theorem sim_lr0 {f : SV} (hS : Sim f s b) (hh : h < 6) (hp : p < 30) (hn : tb (f 5 h) (nI p) = false) : Sim (put f 4 h (f 4 h &&& (bitP p ^^^ (-1)))) (lrM s b h p (nI 0)) b := by
  refine Sim.mk ?_ (SH.cg hS.h (fun k _ => ?_) fun j _ a => lr_o hh hp (by omega)) (SC.cg hS.c ?_ fun k hk => lr_of hh hp hk (by decide)) (SP.cg hS.p ?_ (fun q _ => ?_) fun j _ a => lr_o hh hp (by omega)) (fun k hk q hq => ?_)
  · have a := hS.a
    unfold SA at a ⊢
    rw [lr_o hh hp (by decide), lr_o hh hp (by decide), lr_o hh hp (by decide), lr_o hh hp (by decide), lr_o hh hp (by decide), lr_o hh hp (by decide), lr_o hh hp (by decide)]
    exact a
  · exact ⟨put_o (by omega), put_o (by omega), put_o (by omega)⟩
  · exact put_o (by omega)
  · exact put_o (by omega)
  · exact put_o (by omega)
  · have e5 : put f 4 h (f 4 h &&& (bitP p ^^^ (-1))) 5 k = f 5 k := put_o (by omega)
    rw [e5]
    have hq0 := hS.q k hk q hq
    by_cases h30 : q < 30
    · rw [lr_fs hp h30, lr_rp hp h30]
      by_cases e : k = h
      · subst e
        rw [put_e rfl rfl, bitP_off (by omega) hq]
        by_cases e2 : q = p
        · subst e2
          have e9 : (thM s b q && decide (nI 0 = s (b + 32 + q))) = false := by
            cases ht : thM s b q with
            | false => rfl
            | true => rw [decide_eq_false (th_no0 ht)]; rfl
          rw [if_pos ⟨rfl, rfl⟩, if_pos ⟨rfl, rfl⟩, hn, e9, show decide (¬ nI 0 ≤ 0) = false from by decide, show decide (q ≠ q) = false from decide_eq_false (fun z => z rfl)]
          simp
        · rw [if_neg (fun z => e2 z.2), if_neg (fun z => e2 z.2), decide_eq_true e2, Bool.and_true]
          exact hq0
      · rw [if_neg (fun z => e z.1), if_neg (fun z => e z.1), put_o (by omega)]
        exact hq0
    · rw [decide_eq_false h30, Bool.false_and, Bool.false_and] at hq0 ⊢
      by_cases e : k = h
      · subst e
        rw [put_e rfl rfl, bitP_off (by omega) hq, hq0.1]
        exact ⟨rfl, hq0.2⟩
      · rw [put_o (by omega)]; exact hq0
theorem JC.lr {B : Nat} (hJ : JC s b B) (hh : h < 6) (hp : p < 30) (hx : x = nI 0 ∨ (x = s (b + 32 + p) ∧ thM s b p = true ∧ ofM s b h 0 = nI 1 ∧ ∃ c, c ≤ 20 ∧ ofM s b h 2 = nI c ∧ usM s b h < c)) : JC (lrM s b h p x) b B := by
  obtain ⟨⟨c, c1, c2, c3, c4⟩, hC, j3, j4⟩ := hJ
  refine ⟨⟨c, c1, ?_, fun q hq => ?_, fun k hk q hq => ?_⟩, fun k hk q hq a1 a2 => ?_, ?_, fun k hk => ⟨?_, ?_, ?_⟩⟩
  · rw [lr_o hh hp (by decide)]; exact c2
  · rw [lr_st hq]; exact c3 q hq
  · rw [lr_rp hp hq]
    split
    · rcases hx with e | ⟨e, -⟩
      · exact ⟨0, Nat.zero_le _, e⟩
      · rw [e]; exact c3 p hp
    · exact c4 k hk q hq
  · rw [lr_of hh hp hk (by decide)] at a1
    rw [lr_rp hp hq] at a2
    rw [lr_fs hp hq]
    by_cases e : k = h ∧ q = p
    · rw [if_pos e] at a2 ⊢
      rcases hx with e0 | ⟨e0, e1, -⟩
      · rw [e0] at a2; exact absurd (by decide : nI 0 ≤ 0) a2
      · rw [e.2, e1, decide_eq_true e0]; rfl
    · rw [if_neg e] at a2 ⊢
      exact hC k hk q hq a1 a2
  · unfold J3
    rw [lr_o hh hp (by decide), lr_o hh hp (by decide), lr_o hh hp (by decide)]
    intro hn
    obtain ⟨p9, S, U, g1, g2, g3, g4, g5, g6, g7, g8, g9, g10, g11⟩ := j3 hn
    exact ⟨p9, S, U, g1, g2, g3, g4, g5, g6, g7, by rw [lr_th g1]; exact g8, by rw [lr_of hh hp g2 (by decide)]; exact g9, by rw [lr_of hh hp g3 (by decide)]; exact g10, by rw [lr_of hh hp g3 (by decide)]; exact g11⟩
  · rw [lr_of hh hp hk (by decide)]; exact (j4 k hk).1
  · rw [lr_of hh hp hk (by decide)]
    intro e0 q hq
    rw [lr_rp hp hq]
    split
    · rename_i e
      rcases hx with e1 | ⟨-, -, e1, -⟩
      · rw [e1]; decide
      · rw [← e.1, e0] at e1; exact absurd e1 (by decide)
    · exact (j4 k hk).2.1 e0 q hq
  · rw [lr_of hh hp hk (by decide), lr_of hh hp hk (by decide)]
    intro e0
    have hu := lr_us (s := s) (b := b) (h := h) (p := p) (x := x) (k := k) hh hp
    obtain ⟨y, y1, y2, y3⟩ := (j4 k hk).2.2 e0
    rcases hx with e1 | ⟨-, -, -, z, z1, z2, z3⟩
    · refine ⟨y, y1, y2, ?_⟩
      rw [e1, if_pos (by decide : nI 0 ≤ 0), ite_self] at hu
      rw [e1]
      omega
    · by_cases e : k = h
      · subst e
        refine ⟨z, z1, z2, ?_⟩
        rw [if_pos rfl] at hu
        (repeat' split at hu) <;> omega
      · rw [if_neg e] at hu
        exact ⟨y, y1, y2, by omega⟩
end
/-! a host's own numbers -/
theorem la_o {s : NV} {b h w j : Nat} {v : Int32} (hh : h < 6) (hw : w < 4) (hj : j < 8 ∨ 32 ≤ j) : laM s b h w v (b + j) = s (b + j) := upd_n (by omega)
theorem sim_cnn {f : SV} {s : NV} {b h : Nat} {v y : Int32} (hS : Sim f s b) (hh : h < 6) (hy : ∀ k, k < 32 → tb y (nI k) = if k = h then decide (v = nI 1) else tb (f 0 7) (nI k)) : Sim (put f 0 7 y) (laM s b h 1 v) b := by
  refine Sim.mk ?_ (fun k hk => ?_) (fun k hk => ?_) (SP.cg hS.p ?_ (fun q _ => ?_) fun j a _ => la_o hh (by decide) (Or.inr a)) (SQ.cg hS.q (fun k hk => ?_) (fun j a _ => la_o hh (by decide) (Or.inr a)) fun j a _ => la_o hh (by decide) (Or.inr (by omega)))
  · have a := hS.a
    unfold SA at a ⊢
    rw [la_o hh (by decide) (by omega), la_o hh (by decide) (by omega), la_o hh (by decide) (by omega), la_o hh (by decide) (by omega), la_o hh (by decide) (by omega), la_o hh (by decide) (by omega), la_o hh (by decide) (by omega)]
    simp only [put_at]
    exact a
  · rw [ofM_la (by decide) (by decide), ofM_la (by decide) (by decide), ofM_la (by decide) (by decide), if_neg (by omega), if_neg (by omega), if_neg (by omega), put_o (by omega), put_o (by omega), put_o (by omega)]
    exact hS.h k hk
  · rw [put_e rfl rfl, hy k hk, ofM_la (by decide) (by decide)]
    by_cases e : k = h
    · subst e
      rw [if_pos rfl, if_pos ⟨rfl, rfl⟩, decide_eq_true hh, Bool.true_and]
    · rw [if_neg e, if_neg (fun z => e z.1)]
      exact hS.c k hk
  · exact put_o (by omega)
  · exact put_o (by omega)
  · exact ⟨put_o (by omega), put_o (by omega)⟩
theorem sim_cn1 {f : SV} {s : NV} {b h : Nat} (hS : Sim f s b) (hh : h < 6) : Sim (put f 0 7 (f 0 7 ||| bitP h)) (laM s b h 1 (nI 1)) b := by
  refine sim_cnn hS hh fun k hk => ?_
  rw [bitP_or (by omega) hk]
  by_cases e : k = h
  · rw [if_pos e, decide_eq_true e, Bool.or_true]; rfl
  · rw [if_neg e, decide_eq_false e, Bool.or_false]
theorem sim_cn0 {f : SV} {s : NV} {b h : Nat} (hS : Sim f s b) (hh : h < 6) : Sim (put f 0 7 (f 0 7 &&& (bitP h ^^^ (-1)))) (laM s b h 1 (nI 0)) b := by
  refine sim_cnn hS hh fun k hk => ?_
  rw [bitP_off (by omega) hk]
  by_cases e : k = h
  · rw [if_pos e, decide_eq_false (fun z => z e), Bool.and_false]; rfl
  · rw [if_neg e, decide_eq_true e, Bool.and_true]
theorem sim_la {f : SV} {s : NV} {b h w : Nat} {v : Int32} (hw : w = 2 ∨ w = 3) (hS : Sim f s b) (hh : h < 6) : Sim (put f w h v) (laM s b h w v) b := by
  have hw4 : w < 4 := by omega
  refine Sim.mk ?_ (fun k hk => ?_) (SC.cg hS.c ?_ fun k hk => ?_) (SP.cg hS.p ?_ (fun q _ => ?_) fun j a _ => la_o hh hw4 (Or.inr a)) (SQ.cg hS.q (fun k hk => ?_) (fun j a _ => la_o hh hw4 (Or.inr a)) fun j a _ => la_o hh hw4 (Or.inr (by omega)))
  · have a := hS.a
    unfold SA at a ⊢
    rw [la_o hh hw4 (by omega), la_o hh hw4 (by omega), la_o hh hw4 (by omega), la_o hh hw4 (by omega), la_o hh hw4 (by omega), la_o hh hw4 (by omega), la_o hh hw4 (by omega)]
    rw [put_o (by omega), put_o (by omega), put_o (by omega), put_o (by omega), put_o (by omega), put_o (by omega), put_o (by omega)]
    exact a
  · rw [ofM_la hw4 (by decide), ofM_la hw4 (by decide), ofM_la hw4 (by decide), if_neg (show ¬ (k = h ∧ 0 = w) by omega), put_o (show ¬ (1 = w ∧ k = h) by omega)]
    have hk0 := hS.h k hk
    refine ⟨hk0.1, ?_, ?_⟩
    · by_cases e : k = h ∧ 2 = w
      · rw [if_pos e, put_e e.2 e.1]
      · rw [if_neg e, put_o (fun z => e ⟨z.2, z.1⟩)]; exact hk0.2.1
    · by_cases e : k = h ∧ 3 = w
      · rw [if_pos e, put_e e.2 e.1]
      · rw [if_neg e, put_o (fun z => e ⟨z.2, z.1⟩)]; exact hk0.2.2
  · exact put_o (by omega)
  · rw [ofM_la hw4 (by decide), if_neg (by omega)]
  · exact put_o (by omega)
  · exact put_o (by omega)
  · exact ⟨put_o (by omega), put_o (by omega)⟩
/-! a host loses everything -/
theorem clL_at {s : NV} {b h i : Nat} : ∀ n, clL s b h n i = if b + 92 + 30 * h ≤ i ∧ i < b + 92 + 30 * h + n then nI 0 else s i := by
  intro n
  induction n with
  | zero => show s i = _; rw [if_neg (by omega)]
  | succ n ih =>
    rw [clL]
    by_cases e : i = b + 92 + 30 * h + n
    · rw [upd_e e, if_pos (by omega)]
    · rw [upd_n e, ih]
      by_cases e2 : b + 92 + 30 * h ≤ i ∧ i < b + 92 + 30 * h + n
      · rw [if_pos e2, if_pos (by omega)]
      · rw [if_neg e2, if_neg (by omega)]
def lvM (s : NV) (b h : Nat) : NV := laM (clM s b h) b h 0 (nI 0)
theorem lq_at {s : NV} {b h i : Nat} : lvM s b h i = if i = b + 8 + 4 * h + 0 then nI 0 else if b + 92 + 30 * h ≤ i ∧ i < b + 92 + 30 * h + 30 then nI 0 else s i := by
  unfold lvM laM clM upd
  rw [clL_at]
theorem lq_o {s : NV} {b h j : Nat} (hj : j < 8 ∨ (32 ≤ j ∧ j < 92)) (hh : h < 6) : lvM s b h (b + j) = s (b + j) := by
  rw [lq_at, if_neg (by omega), if_neg (by omega)]
theorem lq_of {s : NV} {b h k w : Nat} (hh : h < 6) (hk : k < 6) (hw : w < 4) : ofM (lvM s b h) b k w = if k = h ∧ w = 0 then nI 0 else ofM s b k w := by
  unfold ofM
  rw [lq_at]
  by_cases e : k = h ∧ w = 0
  · rw [if_pos (by omega), if_pos e]
  · rw [if_neg (by omega), if_neg (by omega), if_neg e]
theorem lq_rp {s : NV} {b h k p : Nat} (hh : h < 6) (hp : p < 30) : rpM (lvM s b h) b k p = if k = h then nI 0 else rpM s b k p := by
  unfold rpM
  rw [lq_at]
  by_cases e : k = h
  · rw [if_neg (by omega), if_pos (by omega), if_pos e]
  · rw [if_neg (by omega), if_neg (by omega), if_neg e]
theorem lq_st {s : NV} {b h p : Nat} (hh : h < 6) (hp : p < 30) : lvM s b h (b + 32 + p) = s (b + 32 + p) := by
  rw [lq_at, if_neg (by omega), if_neg (by omega)]
theorem lq_th {s : NV} {b h p : Nat} (hh : h < 6) (hp : p < 30) : thM (lvM s b h) b p = thM s b p := by
  unfold thM; rw [lq_st hh hp]
theorem lq_fs {s : NV} {b h k p : Nat} (hh : h < 6) (hp : p < 30) : fsM (lvM s b h) b k p = if k = h then false else fsM s b k p := by
  unfold fsM
  rw [lq_th hh hp, lq_rp hh hp, lq_st hh hp]
  by_cases e : k = h
  · rw [if_pos e, if_pos e]
    cases ht : thM s b p with
    | false => rfl
    | true => rw [decide_eq_false (th_no0 ht)]; rfl
  · rw [if_neg e, if_neg e]
theorem tb_0 {k : Nat} (hk : k < 32) : tb (nI 0) (nI k) = false := by
  rw [tb_bt hk]; exact b_0 k
theorem lvS_at {f : SV} {h k j : Nat} : lvS f h k j = if (k = 4 ∨ k = 5 ∨ k = 1) ∧ j = h then nI 0 else f k j := by
  unfold lvS
  simp only [put_at]
  by_cases e : (k = 4 ∨ k = 5 ∨ k = 1) ∧ j = h
  · rw [if_pos e]
    by_cases e1 : k = 1 ∧ j = h
    · rw [if_pos e1]
    · rw [if_neg e1]
      by_cases e2 : k = 5 ∧ j = h
      · rw [if_pos e2]
      · rw [if_neg e2, if_pos (by omega)]
  · rw [if_neg e, if_neg (by omega), if_neg (by omega), if_neg (by omega)]
theorem sim_lq {f : SV} {s : NV} {b h : Nat} (hS : Sim f s b) (hh : h < 6) : Sim (lvS f h) (lvM s b h) b := by
  refine Sim.mk ?_ (fun k hk => ?_) (fun k hk => ?_) (fun p hp => ?_) (fun k hk p hp => ?_)
  · have a := hS.a
    unfold SA at a ⊢
    rw [lq_o (by omega) hh, lq_o (by omega) hh, lq_o (by omega) hh, lq_o (by omega) hh, lq_o (by omega) hh, lq_o (by omega) hh, lq_o (by omega) hh]
    rw [lvS_at, lvS_at, lvS_at, lvS_at, lvS_at, lvS_at, lvS_at, if_neg (by omega), if_neg (by omega), if_neg (by omega), if_neg (by omega), if_neg (by omega), if_neg (by omega), if_neg (by omega)]
    exact a
  · rw [lvS_at, lvS_at, lvS_at, lq_of hh hk (by decide), lq_of hh hk (by decide), lq_of hh hk (by decide), if_neg (show ¬ (((2 = 4 ∨ 2 = 5 ∨ 2 = 1)) ∧ k = h) by omega), if_neg (show ¬ (((3 = 4 ∨ 3 = 5 ∨ 3 = 1)) ∧ k = h) by omega), if_neg (show ¬ (k = h ∧ 2 = 0) by omega), if_neg (show ¬ (k = h ∧ 3 = 0) by omega)]
    refine ⟨?_, (hS.h k hk).2⟩
    by_cases e : k = h
    · rw [if_pos ⟨by omega, e⟩, if_pos ⟨e, rfl⟩]
    · rw [if_neg (fun z => e z.2), if_neg (fun z => e z.1)]; exact (hS.h k hk).1
  · rw [lvS_at, if_neg (by omega), hS.c k hk]
    by_cases h6 : k < 6
    · rw [lq_of hh h6 (by decide), if_neg (by omega)]
    · rw [decide_eq_false h6]; rfl
  · rw [lvS_at, lvS_at, if_neg (by omega), if_neg (by omega), lq_th hh hp]
    refine ⟨(hS.p p hp).1, (hS.p p hp).2.trans ?_⟩
    have := lq_o (s := s) (b := b) (h := h) (j := 62 + p) (by omega) hh
    rw [← Nat.add_assoc] at this
    exact this.symm
  · have hq0 := hS.q k hk p hp
    rw [lvS_at, lvS_at]
    by_cases e : k = h
    · rw [if_pos ⟨by omega, e⟩, if_pos ⟨by omega, e⟩, tb_0 hp]
      by_cases h30 : p < 30
      · rw [lq_fs hh h30, lq_rp hh h30, if_pos e, if_pos e, show decide (¬ nI 0 ≤ 0) = false from by decide]
        simp
      · rw [decide_eq_false h30]; exact ⟨rfl, rfl⟩
    · rw [if_neg (fun z => e z.2), if_neg (fun z => e z.2)]
      by_cases h30 : p < 30
      · rw [lq_fs hh h30, lq_rp hh h30, if_neg e, if_neg e]; exact hq0
      · rw [decide_eq_false h30, Bool.false_and, Bool.false_and] at hq0 ⊢
        exact hq0
theorem ca_o {s : NV} {b h : Nat} {src : Bool} {i : Nat} (hi : i ≠ b + 4) : caM s b h src i = s i := upd_n hi
/-- the host's loss, its going away (and being connected), and the cancelling: the invariants hold -/
theorem lq_J {s s1 : NV} {b B h : Nat} (hh : h < 6) (hJ : JC s b B) (h1 : s1 = lvM s b h ∨ s1 = laM (lvM s b h) b h 1 (nI 1)) : JC (caM s1 b h true) b B := by
  obtain ⟨⟨c, c1, c2, c3, c4⟩, hC, j3, j4⟩ := hJ
  have o1 : ∀ i, i ≠ b + 9 + 4 * h → s1 i = lvM s b h i := fun i hi => by
    rcases h1 with e | e
    · rw [e]
    · rw [e]; exact upd_n (by omega)
  have hc1 : ofM s1 b h 1 = nI 1 ∨ ofM s1 b h 1 = ofM s b h 1 := by
    rcases h1 with e | e
    · right; rw [e, lq_of hh hh (by decide), if_neg (by omega)]
    · left; rw [e, ofM_la (by decide) (by decide), if_pos ⟨rfl, rfl⟩]
  generalize hs' : caM s1 b h true = s'
  have o2 : ∀ i, i ≠ b + 4 → s' i = s1 i := fun i hi => by rw [← hs']; exact ca_o hi
  have hof : ∀ k w, k < 6 → w < 4 → ¬ (k = h ∧ w = 0) → ¬ (k = h ∧ w = 1) → ofM s' b k w = ofM s b k w := fun k w hk hw n1 n2 => by
    have : ofM s' b k w = ofM (lvM s b h) b k w := by
      unfold ofM
      rw [o2 _ (by omega), o1 _ (by omega)]
    rw [this, lq_of hh hk hw, if_neg n1]
  have hof0 : ofM s' b h 0 = nI 0 := by
    have : ofM s' b h 0 = ofM (lvM s b h) b h 0 := by
      unfold ofM
      rw [o2 _ (by omega), o1 _ (by omega)]
    rw [this, lq_of hh hh (by decide), if_pos ⟨rfl, rfl⟩]
  have hof1 : ofM s' b h 1 = nI 1 ∨ ofM s' b h 1 = ofM s b h 1 := by
    have : ofM s' b h 1 = ofM s1 b h 1 := by
      unfold ofM
      rw [o2 _ (by omega)]
    rw [this]; exact hc1
  have hrp : ∀ k p, k < 6 → p < 30 → rpM s' b k p = if k = h then nI 0 else rpM s b k p := fun k p hk hp => by
    have : rpM s' b k p = rpM (lvM s b h) b k p := by
      unfold rpM
      rw [o2 _ (by omega), o1 _ (by omega)]
    rw [this, lq_rp hh hp]
  have hst : ∀ p, p < 30 → s' (b + 32 + p) = s (b + 32 + p) := fun p hp => by
    rw [o2 _ (by omega), o1 _ (by omega), lq_st hh hp]
  have hth : ∀ p, p < 30 → thM s' b p = thM s b p := fun p hp => by unfold thM; rw [hst p hp]
  have ho : ∀ j, j < 8 → j ≠ 4 → s' (b + j) = s (b + j) := fun j hj h4 => by
    rw [o2 _ (by omega), o1 _ (by omega), lq_o (by omega) hh]
  have h56 : ¬ s' (b + 4) = -1 → s' (b + 4) = s (b + 4) ∧ ¬ s (b + 6) = nI h ∧ ¬ s (b + 5) = nI h := fun hn => by
    have e6 : s1 (b + 6) = s (b + 6) := by rw [o1 _ (by omega), lq_o (by omega) hh]
    have e5 : s1 (b + 5) = s (b + 5) := by rw [o1 _ (by omega), lq_o (by omega) hh]
    have e4 : s1 (b + 4) = s (b + 4) := by rw [o1 _ (by omega), lq_o (by omega) hh]
    have e9 : s' (b + 4) = if s1 (b + 6) = nI h then -1 else if true = true ∧ s1 (b + 5) = nI h then -1 else s1 (b + 4) := by rw [← hs']; unfold caM; exact upd_e rfl
    rw [e6, e5, e4] at e9
    by_cases q6 : s (b + 6) = nI h
    · rw [if_pos q6] at e9; exact absurd e9 hn
    · rw [if_neg q6] at e9
      by_cases q5 : s (b + 5) = nI h
      · rw [if_pos ⟨rfl, q5⟩] at e9; exact absurd e9 hn
      · rw [if_neg (fun z => q5 z.2)] at e9
        exact ⟨e9, q6, q5⟩
  refine ⟨⟨c, c1, ?_, fun p hp => ?_, fun k hk p hp => ?_⟩, fun k hk p hp a1 a2 => ?_, fun hn => ?_, fun k hk => ⟨?_, ?_, ?_⟩⟩
  · rw [ho 1 (by decide) (by decide)]; exact c2
  · rw [hst p hp]; exact c3 p hp
  · rw [hrp k p hk hp]
    split
    · exact ⟨0, Nat.zero_le _, rfl⟩
    · exact c4 k hk p hp
  · rw [hrp k p hk hp] at a2
    by_cases e : k = h
    · rw [if_pos e] at a2; exact absurd (by decide : nI 0 ≤ 0) a2
    · rw [if_neg e] at a2
      rw [hof k 1 hk (by decide) (by omega) (by omega)] at a1
      have := hC k hk p hp a1 a2
      unfold fsM at this ⊢
      rw [hth p hp, hrp k p hk hp, if_neg e, hst p hp]
      exact this
  · obtain ⟨e4, n6, n5⟩ := h56 hn
    rw [e4] at hn
    obtain ⟨p, S, U, g1, g2, g3, g4, g5, g6, g7, g8, g9, g10, g11⟩ := j3 hn
    have nS : S ≠ h := fun e => n5 (by rw [g6, e])
    have nU : U ≠ h := fun e => n6 (by rw [g7, e])
    exact ⟨p, S, U, g1, g2, g3, g4, e4.trans g5, (ho 5 (by decide) (by decide)).trans g6, (ho 6 (by decide) (by decide)).trans g7, by rw [hth p g1]; exact g8, by rw [hof S 1 g2 (by decide) (by omega) (by omega)]; exact g9, by rw [hof U 1 g3 (by decide) (by omega) (by omega)]; exact g10, by rw [hof U 0 g3 (by decide) (by omega) (by omega)]; exact g11⟩
  · by_cases e : k = h
    · rw [e]
      rcases hof1 with q | q
      · exact Or.inr q
      · rw [q]; exact (j4 h hh).1
    · rw [hof k 1 hk (by decide) (by omega) (by omega)]; exact (j4 k hk).1
  · intro e0 p hp
    rw [hrp k p hk hp]
    by_cases e : k = h
    · rw [if_pos e]; decide
    · rw [if_neg e]
      rw [hof k 0 hk (by decide) (by omega) (by omega)] at e0
      exact (j4 k hk).2.1 e0 p hp
  · intro e0
    by_cases e : k = h
    · rw [e, hof0] at e0; exact absurd e0 (by decide)
    · rw [hof k 0 hk (by decide) (by omega) (by omega)] at e0
      obtain ⟨x, x1, x2, x3⟩ := (j4 k hk).2.2 e0
      refine ⟨x, x1, by rw [hof k 2 hk (by decide) (by omega) (by omega)]; exact x2, ?_⟩
      have ehd : hdM s' b k = hdM s b k := by
        unfold hdM
        rw [hdL_ct, hdL_ct]
        exact fb_ct_cong fun p hp => by rw [hrp k p hk hp, if_neg e]
      unfold usM at x3 ⊢
      rw [ehd]
      by_cases hn : s' (b + 4) = -1
      · rw [if_pos hn]; omega
      · rw [if_neg hn, ho 6 (by decide) (by decide)]
        rw [if_neg (fun z => hn ((h56 hn).1.trans z))] at x3
        exact x3
