/-! the pieces of what two states share, each kept where its cells are kept -/
def SA (f : SV) (s : NV) (b : Nat) : Prop := (f 0 8 = s (b + 0) ∧ f 0 9 = s (b + 2) ∧ f 0 10 = s (b + 3) ∧ f 0 11 = s (b + 4)) ∧ (s (b + 4) = -1 → f 0 12 = -1 ∧ f 0 13 = -1) ∧ (¬ s (b + 4) = -1 → f 0 12 = s (b + 5) ∧ f 0 13 = s (b + 6) ∧ f 0 14 = s (b + 7))
def SH (f : SV) (s : NV) (b : Nat) : Prop := ∀ h, h < 6 → f 1 h = ofM s b h 0 ∧ f 2 h = ofM s b h 2 ∧ f 3 h = ofM s b h 3
def SC (f : SV) (s : NV) (b : Nat) : Prop := ∀ h, h < 32 → tb (f 0 7) (nI h) = (decide (h < 6) && decide (ofM s b h 1 = nI 1))
def SP (f : SV) (s : NV) (b : Nat) : Prop := ∀ p, p < 30 → tb (f 0 6) (nI p) = thM s b p ∧ f 6 p = s (b + 62 + p)
def SQ (f : SV) (s : NV) (b : Nat) : Prop := ∀ h, h < 6 → ∀ p, p < 32 → tb (f 4 h) (nI p) = (decide (p < 30) && fsM s b h p) ∧ tb (f 5 h) (nI p) = (decide (p < 30) && (!fsM s b h p && decide (¬ rpM s b h p ≤ 0)))
theorem Sim.a {f : SV} {s : NV} {b : Nat} (h : Sim f s b) : SA f s b := ⟨h.1, h.2.1, h.2.2.1⟩
theorem Sim.h {f : SV} {s : NV} {b : Nat} (h : Sim f s b) : SH f s b := h.2.2.2.1
theorem Sim.c {f : SV} {s : NV} {b : Nat} (h : Sim f s b) : SC f s b := h.2.2.2.2.1
theorem Sim.p {f : SV} {s : NV} {b : Nat} (h : Sim f s b) : SP f s b := h.2.2.2.2.2.1
theorem Sim.q {f : SV} {s : NV} {b : Nat} (h : Sim f s b) : SQ f s b := h.2.2.2.2.2.2
theorem Sim.mk {f : SV} {s : NV} {b : Nat} (a : SA f s b) (h : SH f s b) (c : SC f s b) (p : SP f s b) (q : SQ f s b) : Sim f s b := ⟨a.1, a.2.1, a.2.2, h, c, p, q⟩
/-- the cells of a block from lo on below hi are the same -/
def Eqc (s' s : NV) (b lo hi : Nat) : Prop := ∀ j, lo ≤ j → j < hi → s' (b + j) = s (b + j)
section
variable {f f' : SV} {s s' : NV} {b : Nat}
theorem Eqc.of (h : Eqc s' s b 8 32) {k w : Nat} (hk : k < 6) (hw : w < 4) : ofM s' b k w = ofM s b k w := by
  unfold ofM
  have := h (8 + 4 * k + w) (by omega) (by omega)
  rw [← Nat.add_assoc, ← Nat.add_assoc] at this
  exact this
theorem Eqc.th (h : Eqc s' s b 32 62) {p : Nat} (hp : p < 30) : thM s' b p = thM s b p := by
  unfold thM
  have := h (32 + p) (by omega) (by omega)
  rw [← Nat.add_assoc] at this
  rw [this]
theorem Eqc.rp (h : Eqc s' s b 92 272) {k p : Nat} (hk : k < 6) (hp : p < 30) : rpM s' b k p = rpM s b k p := by
  unfold rpM
  have := h (92 + 30 * k + p) (by omega) (by omega)
  rw [← Nat.add_assoc, ← Nat.add_assoc] at this
  exact this
theorem Eqc.fs (h1 : Eqc s' s b 32 62) (h2 : Eqc s' s b 92 272) {k p : Nat} (hk : k < 6) (hp : p < 30) : fsM s' b k p = fsM s b k p := by
  unfold fsM
  have := h1 (32 + p) (by omega) (by omega)
  rw [← Nat.add_assoc] at this
  rw [Eqc.th h1 hp, Eqc.rp h2 hk hp, this]
theorem Eqc.hd (h : Eqc s' s b 92 272) {k : Nat} (hk : k < 6) : hdM s' b k = hdM s b k := by
  unfold hdM
  rw [hdL_ct, hdL_ct]
  exact fb_ct_cong fun p hp => by rw [Eqc.rp h hk hp]
theorem Eqc.part (h : Eqc s' s b 8 272) {lo hi : Nat} (h1 : 8 ≤ lo) (h2 : hi ≤ 272) : Eqc s' s b lo hi := fun j a c => h j (by omega) (by omega)
theorem SH.cg (h : SH f s b) (hf : ∀ k, k < 6 → f' 1 k = f 1 k ∧ f' 2 k = f 2 k ∧ f' 3 k = f 3 k) (hs : Eqc s' s b 8 32) : SH f' s' b := fun k hk => by
  rw [(hf k hk).1, (hf k hk).2.1, (hf k hk).2.2, Eqc.of hs hk (by decide), Eqc.of hs hk (by decide), Eqc.of hs hk (by decide)]
  exact h k hk
theorem SC.cg (h : SC f s b) (hf : f' 0 7 = f 0 7) (hs : ∀ k, k < 6 → ofM s' b k 1 = ofM s b k 1) : SC f' s' b := fun k hk => by
  rw [hf, h k hk]
  by_cases h6 : k < 6
  · rw [hs k h6]
  · rw [decide_eq_false h6]; rfl
theorem SP.cg (h : SP f s b) (hf : f' 0 6 = f 0 6) (h6 : ∀ p, p < 30 → f' 6 p = f 6 p) (hs : Eqc s' s b 32 92) : SP f' s' b := fun p hp => by
  have := hs (62 + p) (by omega) (by omega)
  rw [← Nat.add_assoc] at this
  rw [hf, h6 p hp, Eqc.th (fun j a c => hs j a (by omega)) hp, this]
  exact h p hp
theorem SQ.cg (h : SQ f s b) (hf : ∀ k, k < 6 → f' 4 k = f 4 k ∧ f' 5 k = f 5 k) (h1 : Eqc s' s b 32 62) (h2 : Eqc s' s b 92 272) : SQ f' s' b := fun k hk p hp => by
  rw [(hf k hk).1, (hf k hk).2]
  by_cases h30 : p < 30
  · rw [Eqc.fs h1 h2 hk h30, Eqc.rp h2 hk h30]
    exact h k hk p hp
  · have := h k hk p hp
    rw [decide_eq_false h30, Bool.false_and, Bool.false_and] at this ⊢
    exact this
/-- only the numbers ahead of the hosts change -/
theorem Sim.top (h : Sim f s b) (ha : SA f' s' b) (hr : ∀ k, 1 ≤ k → k < 7 → f' k = f k) (h6 : f' 0 6 = f 0 6) (h7 : f' 0 7 = f 0 7) (hs : Eqc s' s b 8 272) : Sim f' s' b := by
  refine Sim.mk ha (SH.cg h.h (fun k hk => ?_) (Eqc.part hs (by decide) (by decide))) (SC.cg h.c h7 fun k hk => Eqc.of (Eqc.part hs (by decide) (by decide)) hk (by decide)) (SP.cg h.p h6 (fun p hp => ?_) (Eqc.part hs (by decide) (by decide))) (SQ.cg h.q (fun k hk => ?_) (Eqc.part hs (by decide) (by decide)) (Eqc.part hs (by decide) (by decide)))
  · rw [hr 1 (by decide) (by decide), hr 2 (by decide) (by decide), hr 3 (by decide) (by decide)]; exact ⟨rfl, rfl, rfl⟩
  · rw [hr 6 (by decide) (by decide)]
  · rw [hr 4 (by decide) (by decide), hr 5 (by decide) (by decide)]; exact ⟨rfl, rfl⟩
/-- what a State is beyond its seven rows says nothing -/
theorem Sim.cf (h : Sim f s b) (hf : ∀ k, k < 7 → f' k = f k) : Sim f' s b := by
  have a := h.a
  refine Sim.top h ?_ (fun k _ hk => hf k hk) (by rw [hf 0 (by decide)]) (by rw [hf 0 (by decide)]) (fun _ _ _ => rfl)
  unfold SA at a ⊢
  rw [hf 0 (by decide)]; exact a
/-- a block that is copied says the same -/
theorem Sim.cb {b' : Nat} (h : Sim f s b) (hs : ∀ j, j < 272 → s' (b' + j) = s (b + j)) : Sim f s' b' := by
  have o : ∀ k w, k < 6 → w < 4 → ofM s' b' k w = ofM s b k w := fun k w hk hw => by
    unfold ofM
    have := hs (8 + 4 * k + w) (by omega)
    rw [← Nat.add_assoc, ← Nat.add_assoc, ← Nat.add_assoc, ← Nat.add_assoc] at this
    exact this
  have t : ∀ p, p < 30 → s' (b' + 32 + p) = s (b + 32 + p) := fun p hp => by
    have := hs (32 + p) (by omega)
    rw [← Nat.add_assoc, ← Nat.add_assoc] at this
    exact this
  have v : ∀ p, p < 30 → s' (b' + 62 + p) = s (b + 62 + p) := fun p hp => by
    have := hs (62 + p) (by omega)
    rw [← Nat.add_assoc, ← Nat.add_assoc] at this
    exact this
  have r : ∀ k p, k < 6 → p < 30 → rpM s' b' k p = rpM s b k p := fun k p hk hp => by
    unfold rpM
    have := hs (92 + 30 * k + p) (by omega)
    rw [← Nat.add_assoc, ← Nat.add_assoc, ← Nat.add_assoc, ← Nat.add_assoc] at this
    exact this
  have th : ∀ p, p < 30 → thM s' b' p = thM s b p := fun p hp => by unfold thM; rw [t p hp]
  have fs : ∀ k p, k < 6 → p < 30 → fsM s' b' k p = fsM s b k p := fun k p hk hp => by unfold fsM; rw [th p hp, r k p hk hp, t p hp]
  refine Sim.mk ?_ (fun k hk => ?_) (fun k hk => ?_) (fun p hp => ?_) (fun k hk p hp => ?_)
  · have a := h.a
    unfold SA at a ⊢
    rw [hs 0 (by decide), hs 2 (by decide), hs 3 (by decide), hs 4 (by decide), hs 5 (by decide), hs 6 (by decide), hs 7 (by decide)]
    exact a
  · rw [o k 0 hk (by decide), o k 2 hk (by decide), o k 3 hk (by decide)]; exact h.h k hk
  · by_cases h6 : k < 6
    · rw [o k 1 h6 (by decide)]; exact h.c k hk
    · have := h.c k hk
      rw [decide_eq_false h6, Bool.false_and] at this ⊢
      exact this
  · rw [th p hp, v p hp]; exact h.p p hp
  · by_cases h30 : p < 30
    · rw [fs k p hk h30, r k p hk h30]; exact h.q k hk p hp
    · have := h.q k hk p hp
      rw [decide_eq_false h30, Bool.false_and, Bool.false_and] at this ⊢
      exact this
end
theorem upd_e {s : NV} {i j : Nat} {v : Int32} (h : j = i) : upd s i v j = v := if_pos h
theorem upd_n {s : NV} {i j : Nat} {v : Int32} (h : ¬ j = i) : upd s i v j = s j := if_neg h
theorem upd_self {s : NV} {i : Nat} {v : Int32} (h : s i = v) : upd s i v = s := by
  funext j
  by_cases e : j = i
  · rw [upd_e e, e, h]
  · rw [upd_n e]
theorem put_e {g : Nat → Nat → Int32} {k j k2 j2 : Nat} {v : Int32} (h1 : k2 = k) (h2 : j2 = j) : put g k j v k2 j2 = v := by rw [put_at, if_pos ⟨h1, h2⟩]
theorem put_o {g : Nat → Nat → Int32} {k j k2 j2 : Nat} {v : Int32} (h : ¬ (k2 = k ∧ j2 = j)) : put g k j v k2 j2 = g k2 j2 := by rw [put_at, if_neg h]
/-- a cancelled transfer -/
theorem caS_at {f : SV} {j : Nat} : caS f 0 j = if j = 11 ∨ j = 12 ∨ j = 13 then -1 else f 0 j := by
  unfold caS
  simp only [put_at]
  by_cases h1 : j = 13
  · rw [if_pos ⟨trivial, h1⟩, if_pos (by omega)]
  · by_cases h2 : j = 12
    · rw [if_neg (by omega), if_pos ⟨trivial, h2⟩, if_pos (by omega)]
    · by_cases h3 : j = 11
      · rw [if_neg (by omega), if_neg (by omega), if_pos ⟨trivial, h3⟩, if_pos (by omega)]
      · rw [if_neg (by omega), if_neg (by omega), if_neg (by omega), if_neg (by omega)]
theorem caS_row {f : SV} {k : Nat} (hk : 1 ≤ k) : caS f k = f k := by
  unfold caS
  rw [put_n (by omega), put_n (by omega), put_n (by omega)]
theorem sim_caS {f : SV} {s : NV} {b : Nat} (hS : Sim f s b) : Sim (caS f) (upd s (b + 4) (-1)) b := by
  have a := hS.a
  refine Sim.top hS ?_ (fun k h1 _ => caS_row h1) (by rw [caS_at, if_neg (by decide)]) (by rw [caS_at, if_neg (by decide)]) (fun j h1 _ => upd_n (by omega))
  unfold SA at a ⊢
  rw [caS_at, caS_at, caS_at, caS_at, caS_at, caS_at, caS_at, if_neg (by decide), if_neg (by decide), if_neg (by decide), if_pos (by decide), if_pos (by decide), if_pos (by decide), upd_n (by omega), upd_n (by omega), upd_n (by omega), upd_e rfl]
  exact ⟨⟨a.1.1, a.1.2.1, a.1.2.2.1, rfl⟩, fun _ => ⟨rfl, rfl⟩, fun h => absurd rfl h⟩
theorem caM_s {s : NV} {b h : Nat} {src : Bool} : caM s b h src = upd s (b + 4) (-1) ∨ caM s b h src = s := by
  unfold caM
  split
  · exact Or.inl rfl
  · split
    · exact Or.inl rfl
    · exact Or.inr (upd_self rfl)
theorem sim_ctS {f : SV} {s : NV} {b h : Nat} (hh : h < 6) (hS : Sim f s b) : Sim (ctS f h) (caM s b h true) b := by
  have a := hS.a
  by_cases h4 : s (b + 4) = -1
  · have e1 : ctS f h = f := by
      unfold ctS
      rw [(a.2.1 h4).1, (a.2.1 h4).2, if_neg (fun e => ni_m1 (k := h) (by omega) e.symm), if_neg (fun e => ni_m1 (k := h) (by omega) e.symm)]
    have e2 : caM s b h true = s := by
      rcases caM_s (s := s) (b := b) (h := h) (src := true) with e | e
      · rw [e]; exact upd_self h4
      · exact e
    rw [e1, e2]; exact hS
  · obtain ⟨h12, h13, -⟩ := a.2.2 h4
    unfold ctS caM
    rw [h12, h13]
    by_cases q6 : s (b + 6) = nI h
    · rw [if_pos q6, if_pos q6]
      have : (if s (b + 5) = nI h then caS f else caS f) = caS f := ite_self _
      rw [this]; exact sim_caS hS
    · rw [if_neg q6, if_neg q6]
      by_cases q5 : s (b + 5) = nI h
      · rw [if_pos q5, if_pos ⟨rfl, q5⟩]; exact sim_caS hS
      · rw [if_neg q5, if_neg (fun e => q5 e.2), upd_self rfl]; exact hS
theorem sim_ctF {f : SV} {s : NV} {b h : Nat} (hh : h < 6) (hS : Sim f s b) : Sim (if f 0 13 = nI h then caS f else f) (caM s b h false) b := by
  have a := hS.a
  by_cases h4 : s (b + 4) = -1
  · have e2 : caM s b h false = s := by
      rcases caM_s (s := s) (b := b) (h := h) (src := false) with e | e
      · rw [e]; exact upd_self h4
      · exact e
    rw [(a.2.1 h4).2, if_neg (fun e => ni_m1 (k := h) (by omega) e.symm), e2]; exact hS
  · obtain ⟨h12, h13, -⟩ := a.2.2 h4
    unfold caM
    rw [h13]
    by_cases q6 : s (b + 6) = nI h
    · rw [if_pos q6, if_pos q6]; exact sim_caS hS
    · rw [if_neg q6, if_neg q6, if_neg (fun e => Bool.false_ne_true e.1), upd_self rfl]; exact hS
/-- a transfer set -/
def trM4 (s : NV) (b P H : Nat) (U due : Int32) : NV := upd (upd (upd (upd s (b + 5) (nI H)) (b + 6) U) (b + 4) (nI P)) (b + 7) due
theorem sim_tr {f : SV} {s : NV} {b P H : Nat} {U due : Int32} (hP : P < 30) (hS : Sim f s b) : Sim (put (put (put (put f 0 13 U) 0 11 (nI P)) 0 12 (nI H)) 0 14 due) (trM4 s b P H U due) b := by
  have a := hS.a
  refine Sim.top hS ?_ (fun k h1 _ => ?_) ?_ ?_ (fun j h1 _ => ?_)
  · unfold SA trM4
    have n4 : ∀ v, upd (upd (upd (upd s (b + 5) (nI H)) (b + 6) U) (b + 4) (nI P)) (b + 7) due (b + v) = if v = 7 then due else if v = 4 then nI P else if v = 6 then U else if v = 5 then nI H else s (b + v) := by
      intro v
      unfold upd
      by_cases v7 : v = 7
      · rw [if_pos (by omega), if_pos v7]
      · rw [if_neg (by omega), if_neg v7]
        by_cases v4 : v = 4
        · rw [if_pos (by omega), if_pos v4]
        · rw [if_neg (by omega), if_neg v4]
          by_cases v6 : v = 6
          · rw [if_pos (by omega), if_pos v6]
          · rw [if_neg (by omega), if_neg v6]
            by_cases v5 : v = 5
            · rw [if_pos (by omega), if_pos v5]
            · rw [if_neg (by omega), if_neg v5]
    rw [n4, n4, n4, n4, n4, n4, n4]
    simp only [put_at]
    refine ⟨⟨a.1.1, a.1.2.1, a.1.2.2.1, rfl⟩, fun h => absurd h (ni_m1 (k := P) (by omega)), fun _ => ⟨rfl, rfl, rfl⟩⟩
  · rw [put_n (by omega), put_n (by omega), put_n (by omega), put_n (by omega)]
  · simp only [put_at]; rfl
  · simp only [put_at]; rfl
  · unfold trM4
    rw [upd_n (by omega), upd_n (by omega), upd_n (by omega), upd_n (by omega)]
theorem boM_cg {s s' : NV} {b p : Nat} (h : Cg s s' b) : boM s b p = boM s' b p := by
  unfold boM; rw [bhM_cg h]
/-- what the choice leaves behind, on the model's side -/
theorem cgM_n {s : NV} {b : Nat} (h4 : (chM s b 180).1.1 = 4) (h2 : (chM s b 180).2 = s) : cgM s b = s := by
  unfold cgM
  rw [h4, if_neg (by decide), h2]
theorem cgM_s {s : NV} {b P H k : Nat} {d : Int32} (hP : P < 30) (hk : k ≤ 3) (hc : chM s b 180 = ((k, d), upd (upd s (b + 5) (nI H)) (b + 7) (nI P))) : cgM s b = trM4 s b P H (oN (boM s b P)) (s (b + 0) + s (b + 2)) := by
  have hcg : Cg (upd (upd s (b + 5) (nI H)) (b + 7) (nI P)) s b := Cg_tr (Cg_57 (Or.inr rfl)) (Cg_57 (Or.inl rfl))
  have e7 : upd (upd s (b + 5) (nI H)) (b + 7) (nI P) (b + 7) = nI P := upd_e rfl
  have eP : ixN (nI P) = P := nI_clamp (by omega)
  unfold cgM
  rw [hc]
  show (if k < 4 then cg3 (upd (upd s (b + 5) (nI H)) (b + 7) (nI P)) b (ixN (upd (upd s (b + 5) (nI H)) (b + 7) (nI P) (b + 7))) else _) = _
  rw [if_pos (by omega), e7, eP]
  unfold cg3 cg2
  rw [boM_cg hcg]
  have x0 : upd (upd (upd (upd s (b + 5) (nI H)) (b + 7) (nI P)) (b + 6) (oN (boM s b P))) (b + 4) (nI P) (b + 0) = s (b + 0) := by
    rw [upd_n (by omega), upd_n (by omega), upd_n (by omega), upd_n (by omega)]
  have x2 : upd (upd (upd (upd s (b + 5) (nI H)) (b + 7) (nI P)) (b + 6) (oN (boM s b P))) (b + 4) (nI P) (b + 2) = s (b + 2) := by
    rw [upd_n (by omega), upd_n (by omega), upd_n (by omega), upd_n (by omega)]
  rw [x0, x2]
  unfold trM4
  funext i
  unfold upd
  by_cases i7 : i = b + 7
  · simp only [if_pos i7]
  · simp only [if_neg i7]
/-- the choice, both sides: either there is no candidate and nothing changes, or a transfer is set -/
theorem sim_cho {f : SV} {s : NV} {b : Nat} (hS : Sim f s b) (hC : BlkC s b) (hD : DlM s b) :
    ((chL f 30).2 = none ∧ cgM s b = s ∧ (chM s b 180).1.1 = 4) ∨ (∃ P H, P < 30 ∧ H < 6 ∧ (chL f 30).2 = some (P, H) ∧ ¬ clsM s b P H = 0 ∧ cgM s b = trM4 s b P H (oN (boM s b P)) (s (b + 0) + s (b + 2))) := by
  rcases sim_chL hS hC hD 30 (Nat.le_refl 30) with ⟨e, c4, cs⟩ | ⟨P, H, k, d, hP, hH, j1, j2, j3, j4, j5, e, ecc⟩
  · exact Or.inl ⟨by rw [e], cgM_n c4 cs, c4⟩
  · exact Or.inr ⟨P, H, hP, hH, by rw [e], by rw [j5]; omega, cgM_s hP j2 ecc⟩
theorem dl_rs {s : NV} {b : Nat} (hD : DlM s b) : ∀ k, k ≤ 6 → DlM (rsM s b k) b := by
  intro k
  induction k with
  | zero => intro _; exact hD
  | succ k ih =>
    intro hk h hh h2
    have h3 := ih (by omega) h hh
    rw [rs_la] at h2 ⊢
    rw [ofM_la (by decide) (by decide), if_neg (by omega)]
    rw [ofM_la (by decide) (by decide)] at h2
    apply h3
    split at h2
    · rename_i e
      obtain ⟨e1, -⟩ := e
      subst e1
      split at h2
      · assumption
      · exact h2
    · exact h2
theorem sim_seM {f : SV} {s : NV} {b : Nat} (hS : Sim f s b) (hC : BlkC s b) (hD : DlM s b) : Sim (seS f) (seM s b) b := by
  have hS' := sim_rl hS 6 (Nat.le_refl 6)
  have hC' := blk_rl hC 6 (Nat.le_refl 6)
  have hD' := dl_rs hD 6 (Nat.le_refl 6)
  unfold seS seM seS1
  rw [hS'.a.1.2.2.2]
  by_cases h4 : rsM s b 6 (b + 4) = -1
  · rw [if_pos h4, if_pos h4]
    rcases sim_cho hS' hC' hD' with ⟨e1, e2, -⟩ | ⟨P, H, hP, hH, e1, -, e2⟩
    · rw [e1, e2]; exact hS'
    · rw [e1, e2]
      show Sim (setT (rlS f 6) P H) _ b
      unfold setT
      rw [sim_bo hS' hP, hS'.a.1.1, hS'.a.1.2.1]
      exact sim_tr hP hS'
  · rw [if_neg h4, if_neg h4]; exact hS'
