/-! the operations on hosts: both sides go on agreeing -/
theorem JJ.mono {s : NV} {b B B' M : Nat} (h : JJ s b B M) (hB : B ≤ B') : JJ s b B' M := by
  obtain ⟨⟨c, c1, c2⟩, r⟩ := h
  exact ⟨⟨c, by omega, c2⟩, r⟩
theorem JC.mono {s : NV} {b B B' : Nat} (h : JC s b B) (hB : B ≤ B') : JC s b B' := by
  obtain ⟨⟨c, c1, c2⟩, r⟩ := h
  exact ⟨⟨c, by omega, c2⟩, r⟩
theorem J5.mono {s : NV} {b M M' : Nat} (h : J5 s b M) (hM : M ≤ M') : J5 s b M' := by
  obtain ⟨t, l, t1, r⟩ := h
  exact ⟨t, l, by omega, r⟩
theorem Frm.upd {s : NV} {b i : Nat} {v : Int32} (h : b ≤ i ∧ i < b + 272) : Frm (upd s i v) s b := fun j hj => upd_n (by omega)
theorem Frm.la {s : NV} {b h w : Nat} {v : Int32} (hh : h < 6) (hw : w < 4) : Frm (laM s b h w v) s b := Frm.upd (by omega)
theorem Frm.lr {s : NV} {b h p : Nat} {v : Int32} (hh : h < 6) (hp : p < 30) : Frm (lrM s b h p v) s b := Frm.upd (by omega)
theorem Frm.ca {s : NV} {b h : Nat} {src : Bool} : Frm (caM s b h src) s b := Frm.upd (by omega)
theorem Frm.lv {s : NV} {b h : Nat} (hh : h < 6) : Frm (lvM s b h) s b := fun i hi => by rw [lq_at, if_neg (by omega), if_neg (by omega)]
theorem se_c {s : NV} {b h : Nat} : ofM (seM s b) b h 1 = ofM s b h 1 := by
  unfold ofM
  have e1 : ∀ k, rsM s b k (b + 8 + 4 * h + 1) = s (b + 8 + 4 * h + 1) := by
    intro k
    induction k with
    | zero => rfl
    | succ k ih =>
      rw [rs_la]
      unfold laM
      rw [upd_n (by omega)]
      exact ih
  have e2 : ∀ s9 : NV, ∀ k, (chM s9 b k).2 (b + 8 + 4 * h + 1) = s9 (b + 8 + 4 * h + 1) := by
    intro s9 k
    induction k with
    | zero => rfl
    | succ k ih =>
      rw [chM]
      split
      · show upd (upd _ _ _) _ _ (b + 8 + 4 * h + 1) = _
        rw [upd_n (by omega), upd_n (by omega)]
        exact ih
      · exact ih
  unfold seM
  split
  · unfold cgM
    split
    · unfold cg3 cg2
      rw [upd_n (by omega), upd_n (by omega), upd_n (by omega), e2, e1]
    · rw [e2, e1]
  · exact e1 6
theorem se_rp {s : NV} {b h p : Nat} (hh : h < 6) (hp : p < 30) : rpM (seM s b) b h p = rpM s b h p := by
  unfold rpM
  have := se_o (s := s) (b := b) (j := 92 + 30 * h + p) (by omega) (by omega)
  rw [← Nat.add_assoc, ← Nat.add_assoc] at this
  exact this
theorem se_hd {s : NV} {b h : Nat} (hh : h < 6) : hdM (seM s b) b h = hdM s b h := by
  unfold hdM
  rw [hdL_ct, hdL_ct]
  exact fb_ct_cong fun p hp => by rw [se_rp hh hp]
theorem cp_cong {s s' : NV} {b b' p : Nat} (h1 : ∀ h, h < 6 → cpMb s' b' p h = cpMb s b p h) : cpM s' b' p = cpM s b p := by
  have key : ∀ k, k ≤ 6 → cpML s' b' p k = cpML s b p k := by
    intro k
    induction k with
    | zero => intro _; rfl
    | succ k ih => intro hk; rw [cpML, cpML, ih (by omega), h1 k (by omega)]
  exact key 6 (Nat.le_refl 6)
theorem se_cp {s : NV} {b p : Nat} (hp : p < 30) : cpM (seM s b) b p = cpM s b p := cp_cong fun h hh => by
  unfold cpMb
  rw [se_c, se_rp hh hp]
/-- one host's numbers change; the transfer stays or is gone -/
theorem JC.host {s s' : NV} {b B h : Nat} (hh : h < 6) (hJ : JC s b B) (hs : Eqc s' s b 32 272) (h1 : s' (b + 1) = s (b + 1)) (ho : ∀ k w, k < 6 → w < 4 → k ≠ h → ofM s' b k w = ofM s b k w)
    (hc : ofM s' b h 1 = 0 ∨ ofM s' b h 1 = nI 1) (hC : ofM s' b h 1 = nI 1 → ∀ p, p < 30 → ¬ rpM s b h p ≤ 0 → fsM s b h p = true) (ha : ofM s' b h 0 = 0 → ∀ p, p < 30 → rpM s b h p ≤ 0)
    (hl : ofM s' b h 0 = nI 1 → ∃ c, c ≤ 20 ∧ ofM s' b h 2 = nI c ∧ usM s b h ≤ c)
    (ht : s' (b + 4) = -1 ∨ (s' (b + 4) = s (b + 4) ∧ s' (b + 5) = s (b + 5) ∧ s' (b + 6) = s (b + 6) ∧ (¬ s (b + 4) = -1 → (s (b + 5) = nI h → ofM s' b h 1 = nI 1) ∧ (s (b + 6) = nI h → ofM s' b h 1 = nI 1 ∧ ofM s' b h 0 = nI 1)))) : JC s' b B := by
  obtain ⟨⟨c, c1, c2, c3, c4⟩, hC0, j3, j4⟩ := hJ
  have q1 : Eqc s' s b 32 62 := fun j a c => hs j a (by omega)
  have q2 : Eqc s' s b 92 272 := fun j a c => hs j (by omega) c
  have hrp : ∀ k p, k < 6 → p < 30 → rpM s' b k p = rpM s b k p := fun k p hk hp => Eqc.rp q2 hk hp
  have hth : ∀ p, p < 30 → thM s' b p = thM s b p := fun p hp => Eqc.th q1 hp
  have hfs : ∀ k p, k < 6 → p < 30 → fsM s' b k p = fsM s b k p := fun k p hk hp => Eqc.fs q1 q2 hk hp
  refine ⟨⟨c, c1, h1.trans c2, fun p hp => ?_, fun k hk p hp => ?_⟩, fun k hk p hp a1 a2 => ?_, fun hn => ?_, fun k hk => ⟨?_, ?_, ?_⟩⟩
  · have := q1 (32 + p) (by omega) (by omega)
    rw [← Nat.add_assoc] at this
    rw [this]; exact c3 p hp
  · rw [hrp k p hk hp]; exact c4 k hk p hp
  · rw [hrp k p hk hp] at a2
    rw [hfs k p hk hp]
    by_cases e : k = h
    · subst e; exact hC a1 p hp a2
    · rw [ho k 1 hk (by decide) e] at a1; exact hC0 k hk p hp a1 a2
  · rcases ht with e | ⟨e4, e5, e6, e7⟩
    · exact absurd e hn
    · rw [e4] at hn
      obtain ⟨p, S, U, g1, g2, g3, g4, g5, g6, g7, g8, g9, g10, g11⟩ := j3 hn
      obtain ⟨e8, e9⟩ := e7 hn
      refine ⟨p, S, U, g1, g2, g3, g4, e4.trans g5, e5.trans g6, e6.trans g7, by rw [hth p g1]; exact g8, ?_, ?_, ?_⟩
      · by_cases e : S = h
        · subst e; exact e8 g6
        · rw [ho S 1 g2 (by decide) e]; exact g9
      · by_cases e : U = h
        · subst e; exact (e9 g7).1
        · rw [ho U 1 g3 (by decide) e]; exact g10
      · by_cases e : U = h
        · subst e; exact (e9 g7).2
        · rw [ho U 0 g3 (by decide) e]; exact g11
  · by_cases e : k = h
    · subst e; exact hc
    · rw [ho k 1 hk (by decide) e]; exact (j4 k hk).1
  · intro e0 p hp
    rw [hrp k p hk hp]
    by_cases e : k = h
    · subst e; exact ha e0 p hp
    · rw [ho k 0 hk (by decide) e] at e0; exact (j4 k hk).2.1 e0 p hp
  · intro e0
    have hus : usM s' b k ≤ usM s b k := by
      unfold usM
      rw [Eqc.hd q2 hk]
      rcases ht with e | ⟨e4, e5, e6, -⟩
      · rw [if_pos e]; omega
      · rw [e4, e6]; omega
    by_cases e : k = h
    · subst e
      obtain ⟨x, x1, x2, x3⟩ := hl e0
      exact ⟨x, x1, x2, by omega⟩
    · rw [ho k 0 hk (by decide) e] at e0
      obtain ⟨x, x1, x2, x3⟩ := (j4 k hk).2.2 e0
      exact ⟨x, x1, by rw [ho k 2 hk (by decide) e]; exact x2, by omega⟩
theorem ca_of {s : NV} {b h k w : Nat} {src : Bool} : ofM (caM s b h src) b k w = ofM s b k w := by
  unfold ofM; exact ca_o (by omega)
/-- what a whole operation answers for -/
def OpA (f' : SV) (s' : NV) (s : NV) (B M : Nat) : Prop := Sim f' s' 0 ∧ JJ s' 0 B M ∧ J6 s' 0 ∧ Frm s' s 0
theorem OpA.se {f' : SV} {s' s : NV} {B M : Nat} (hM : M ≤ 1000600) (hS : Sim f' s' 0) (hJ : JJ s' 0 B M) (hF : Frm s' s 0) : OpA (seS f') (seM s' 0) s B M := by
  obtain ⟨a1, a2, a3⟩ := se_all hM hS hJ
  exact ⟨a1, a2, a3, se_fr.tr hF⟩
/-! lend -/
theorem op_lend {f : SV} {s : NV} {B M h : Nat} {y : Int32} (hM : M ≤ 1000600) (hS : Sim f s 0) (hJ : JJ s 0 B M) (hh : h < 6) (hc : clB s h = true) (hy : ∃ c, 1 ≤ c ∧ c ≤ 20 ∧ y = nI c) :
    OpA (seS (beG f h y)) (seM (le1 s h y) 0) s B M ∧ Sim (beG f h y) (le1 s h y) 0 ∧ JC (le1 s h y) 0 B := by
  obtain ⟨c, y1, y2, y3⟩ := hy
  unfold clB at hc
  by_cases m0 : ofM s 0 h 0 = 0
  · rw [if_pos m0] at hc
    by_cases m1 : ofM s 0 h 1 = nI 1
    · have hS1 : Sim (beG f h y) (le1 s h y) 0 := by
        unfold beG le1
        exact sim_la (Or.inl rfl) (sim_mode hS hh) hh
      have hof : ∀ k w, k < 6 → w < 4 → ofM (le1 s h y) 0 k w = if k = h ∧ w = 2 then y else if k = h ∧ w = 0 then nI 1 else ofM s 0 k w := fun k w hk hw => by
        unfold le1
        rw [ofM_la (by decide) hw, ofM_la (by decide) hw]
      have hz : ∀ j, j < 8 ∨ 32 ≤ j → le1 s h y (0 + j) = s (0 + j) := fun j hj => by
        unfold le1
        rw [la_o hh (by decide) hj, la_o hh (by decide) hj]
      have hrp := (hJ.c.2.2.2 h hh).2.1 m0
      have hJ1 : JC (le1 s h y) 0 B := by
        refine hJ.c.host hh (fun j a _ => hz j (Or.inr a)) (hz 1 (by omega)) (fun k w hk hw hn => ?_) ?_ (fun _ => ?_) (fun e => ?_) (fun _ => ⟨c, y2, ?_, ?_⟩) (Or.inr ⟨hz 4 (by omega), hz 5 (by omega), hz 6 (by omega), fun _ => ⟨fun _ => ?_, fun _ => ⟨?_, ?_⟩⟩⟩)
        · rw [hof k w hk hw, if_neg (fun z => hn z.1), if_neg (fun z => hn z.1)]
        · rw [hof h 1 hh (by decide), if_neg (by omega), if_neg (by omega)]; exact Or.inr m1
        · exact fun p hp a => absurd (hrp p hp) a
        · rw [hof h 0 hh (by decide), if_neg (by omega), if_pos ⟨rfl, rfl⟩] at e; exact absurd e (by decide)
        · rw [hof h 2 hh (by decide), if_pos ⟨rfl, rfl⟩]; exact y3
        · unfold usM
          rw [hd_0 hrp]
          (repeat' split) <;> omega
        · rw [hof h 1 hh (by decide), if_neg (by omega), if_neg (by omega)]; exact m1
        · rw [hof h 1 hh (by decide), if_neg (by omega), if_neg (by omega)]; exact m1
        · rw [hof h 0 hh (by decide), if_neg (by omega), if_pos ⟨rfl, rfl⟩]
      refine ⟨OpA.se hM hS1 (JJ.mk hJ1 ?_) ?_, hS1, hJ1⟩
      · obtain ⟨t, l, t1, t2, t3, t4, t5, t6, t7⟩ := hJ.t
        refine ⟨t, l, t1, (hz 0 (by omega)).trans t2, t3, t4, (hz 2 (by omega)).trans t5, fun k hk e => ?_, ?_⟩
        · rw [hof k 0 hk (by decide), if_neg (by omega)] at e
          by_cases ek : k = h
          · rw [if_pos ⟨ek, rfl⟩] at e; exact absurd e (by decide)
          · rw [if_neg (fun z => ek z.1)] at e
            obtain ⟨d, d1, d2, d3⟩ := t6 k hk e
            exact ⟨d, d1, d2, by rw [hof k 3 hk (by decide), if_neg (by omega), if_neg (by omega)]; exact d3⟩
        · rw [hz 4 (by omega), hz 7 (by omega)]; exact t7
      · unfold le1
        exact (Frm.la hh (by decide)).tr (Frm.la hh (by decide))
    · rw [if_neg m1] at hc; cases hc
  · rw [if_neg m0] at hc; cases hc
theorem sum_le {f : SV} {s : NV} {B : Nat} (hS : Sim f s 0) (hJ : JC s 0 B) : ∀ k, k ≤ 6 → sumS f k = leL s k ∧ ∃ n, n ≤ 20 * k ∧ leL s k = nI n := by
  intro k
  induction k with
  | zero => intro _; exact ⟨rfl, 0, by omega, rfl⟩
  | succ k ih =>
    intro hk
    obtain ⟨i1, n, n1, n2⟩ := ih (by omega)
    rw [sumS, leL, i1, sim_rm hS (by omega)]
    refine ⟨rfl, ?_⟩
    rw [n2]
    unfold feM
    cases hl : leM s 0 k with
    | false => rw [if_neg Bool.false_ne_true, nI_add]; exact ⟨n + 0, by omega, rfl⟩
    | true =>
      obtain ⟨c, c1, c2, c3⟩ := (hJ.2.2.2 k (by omega)).2.2 (le_spec hl).1
      rw [if_pos rfl, c2, pk_sub c3, nI_add]
      exact ⟨_, by omega, rfl⟩
/-! recall -/
theorem op_recall {f : SV} {s : NV} {B M h x : Nat} (hM : M ≤ 1000600) (hS : Sim f s 0) (hJ : JJ s 0 B M) (hh : h < 6) (hc : crB s h = true) (hx : 1 ≤ x ∧ x ≤ 600) :
    OpA (cbG f h (nI x)) (seM (re1 s h (nI x)) 0) s B M ∧ hdS (cbG f h (nI x)) h = nI (hdM (re1 s h (nI x)) 0 h) := by
  unfold crB at hc
  by_cases m0 : ofM s 0 h 0 = nI 1
  · rw [if_pos m0] at hc
    by_cases m1 : ofM s 0 h 1 = nI 1
    · obtain ⟨t, l, t1, t2, t3, t4, t5, t6, t7⟩ := hJ.t
      have e0 : laM s 0 h 0 (nI 2) 0 = s 0 := la_o (s := s) (b := 0) (h := h) (w := 0) (v := nI 2) (j := 0) hh (by decide) (by omega)
      have e8 : put f 1 h (nI 2) 0 8 = s 0 := by rw [put_o (by omega)]; exact hS.a.1.1
      have hS0 : Sim (cbG1 f h (nI x)) (laM (laM s 0 h 0 (nI 2)) 0 h 3 (laM s 0 h 0 (nI 2) 0 + nI x)) 0 := by
        unfold cbG1
        rw [e0, e8]
        exact sim_la (Or.inr rfl) (sim_mode hS hh) hh
      have hS1 := sim_ctF hh hS0
      have hz : ∀ j, j ≠ 4 → j < 8 ∨ 32 ≤ j → re1 s h (nI x) (0 + j) = s (0 + j) := fun j h4 hj => by
        unfold re1
        rw [ca_o (by omega), la_o hh (by decide) hj, la_o hh (by decide) hj]
      have hof : ∀ k w, k < 6 → w < 4 → ofM (re1 s h (nI x)) 0 k w = if k = h ∧ w = 3 then nI (t + x) else if k = h ∧ w = 0 then nI 2 else ofM s 0 k w := fun k w hk hw => by
        unfold re1
        rw [ca_of, ofM_la (by decide) hw, ofM_la (by decide) hw, e0, ← nI_add, ← t2]
      have h4 : re1 s h (nI x) 4 = -1 ∨ (re1 s h (nI x) 4 = s 4 ∧ ¬ s 6 = nI h) := by
        have z4 : laM (laM s 0 h 0 (nI 2)) 0 h 3 (laM s 0 h 0 (nI 2) 0 + nI x) (0 + 4) = s (0 + 4) := by rw [la_o hh (by decide) (by omega), la_o hh (by decide) (by omega)]
        have z6 : laM (laM s 0 h 0 (nI 2)) 0 h 3 (laM s 0 h 0 (nI 2) 0 + nI x) (0 + 6) = s (0 + 6) := by rw [la_o hh (by decide) (by omega), la_o hh (by decide) (by omega)]
        have ee : re1 s h (nI x) (0 + 4) = if s (0 + 6) = nI h then -1 else if false = true ∧ laM (laM s 0 h 0 (nI 2)) 0 h 3 (laM s 0 h 0 (nI 2) 0 + nI x) (0 + 5) = nI h then -1 else s (0 + 4) := by
          unfold re1 caM
          rw [upd_e rfl, z4, z6]
        simp only [Nat.zero_add] at ee
        by_cases q : s 6 = nI h
        · left; rw [ee, if_pos q]
        · right; rw [ee, if_neg q, if_neg (fun z => Bool.false_ne_true z.1)]; exact ⟨rfl, q⟩
      have hJ1 : JC (re1 s h (nI x)) 0 B := by
        refine hJ.c.host hh (fun j a _ => hz j (by omega) (Or.inr a)) (hz 1 (by omega) (by omega)) (fun k w hk hw hn => ?_) ?_ (fun _ => hJ.2.1 h hh |> fun g p hp a => g p hp m1 a) (fun e => ?_) (fun e => ?_) ?_
        · rw [hof k w hk hw, if_neg (fun z => hn z.1), if_neg (fun z => hn z.1)]
        · rw [hof h 1 hh (by decide), if_neg (by omega), if_neg (by omega)]; exact Or.inr m1
        · rw [hof h 0 hh (by decide), if_neg (by omega), if_pos ⟨rfl, rfl⟩] at e; exact absurd e (by decide)
        · rw [hof h 0 hh (by decide), if_neg (by omega), if_pos ⟨rfl, rfl⟩] at e; exact absurd e (by decide)
        · rcases h4 with e | ⟨e, q⟩
          · exact Or.inl e
          · refine Or.inr ⟨e, hz 5 (by omega) (by omega), hz 6 (by omega) (by omega), fun _ => ⟨fun _ => ?_, fun z => absurd z q⟩⟩
            rw [hof h 1 hh (by decide), if_neg (by omega), if_neg (by omega)]; exact m1
      have hA : OpA (cbG f h (nI x)) (seM (re1 s h (nI x)) 0) s B M := by
        unfold cbG
        refine OpA.se hM hS1 (JJ.mk hJ1 ⟨t, l, t1, (hz 0 (by omega) (by omega)).trans t2, t3, t4, (hz 2 (by omega) (by omega)).trans t5, fun k hk e => ?_, fun hn => ?_⟩) ?_
        · rw [hof k 3 hk (by decide)]
          by_cases ek : k = h
          · rw [if_pos ⟨ek, rfl⟩]
            exact ⟨t + x, by omega, by omega, rfl⟩
          · rw [if_neg (fun z => ek z.1), if_neg (fun z => ek z.1)]
            rw [hof k 0 hk (by decide), if_neg (fun z => ek z.1), if_neg (fun z => ek z.1)] at e
            exact t6 k hk e
        · rcases h4 with e | ⟨e, q⟩
          · exact absurd e hn
          · rw [hz 7 (by omega) (by omega)]
            refine t7 ?_
            intro z
            exact hn (e.trans z)
        · unfold re1
          exact Frm.ca.tr ((Frm.la hh (by decide)).tr (Frm.la hh (by decide)))
      refine ⟨hA, ?_⟩
      rw [sim_hd hA.1 hh, se_hd hh]
    · rw [if_neg m1] at hc; cases hc
  · rw [if_neg m0] at hc; cases hc
/-! disconnect -/
theorem op_disc {f : SV} {s : NV} {B M h : Nat} (hM : M ≤ 1000600) (hS : Sim f s 0) (hJ : JJ s 0 B M) (hh : h < 6) (hc : cdB s h = true) :
    OpA (deG f h) (seM (di1 s h) 0) s B M ∧ hdS (deG f h) h = nI (hdM (di1 s h) 0 h) := by
  unfold cdB at hc
  by_cases m0 : ofM s 0 h 0 = 0
  · rw [if_pos m0] at hc; cases hc
  · obtain ⟨t, l, t1, t2, t3, t4, t5, t6, t7⟩ := hJ.t
    have hS1 := sim_ctS hh (sim_cn0 hS hh)
    have hz : ∀ j, j ≠ 4 → j < 8 ∨ 32 ≤ j → di1 s h (0 + j) = s (0 + j) := fun j h4 hj => by
      unfold di1
      rw [ca_o (by omega), la_o hh (by decide) hj]
    have hof : ∀ k w, k < 6 → w < 4 → ofM (di1 s h) 0 k w = if k = h ∧ w = 1 then nI 0 else ofM s 0 k w := fun k w hk hw => by
      unfold di1
      rw [ca_of, ofM_la (by decide) hw]
    have h4 : di1 s h 4 = -1 ∨ (di1 s h 4 = s 4 ∧ ¬ s 6 = nI h ∧ ¬ s 5 = nI h) := by
      have z4 : laM s 0 h 1 (nI 0) (0 + 4) = s (0 + 4) := la_o hh (by decide) (by omega)
      have z5 : laM s 0 h 1 (nI 0) (0 + 5) = s (0 + 5) := la_o hh (by decide) (by omega)
      have z6 : laM s 0 h 1 (nI 0) (0 + 6) = s (0 + 6) := la_o hh (by decide) (by omega)
      have ee : di1 s h (0 + 4) = if s (0 + 6) = nI h then -1 else if true = true ∧ s (0 + 5) = nI h then -1 else s (0 + 4) := by
        unfold di1 caM
        rw [upd_e rfl, z4, z5, z6]
      simp only [Nat.zero_add] at ee
      by_cases q : s 6 = nI h
      · left; rw [ee, if_pos q]
      · by_cases q5 : s 5 = nI h
        · left; rw [ee, if_neg q, if_pos ⟨trivial, q5⟩]
        · right; rw [ee, if_neg q, if_neg (fun z => q5 z.2)]; exact ⟨rfl, q, q5⟩
    have hJ1 : JC (di1 s h) 0 B := by
      refine hJ.c.host hh (fun j a _ => hz j (by omega) (Or.inr a)) (hz 1 (by omega) (by omega)) (fun k w hk hw hn => ?_) ?_ (fun e => ?_) (fun e => ?_) (fun e => ?_) ?_
      · rw [hof k w hk hw, if_neg (fun z => hn z.1)]
      · rw [hof h 1 hh (by decide), if_pos ⟨rfl, rfl⟩]; exact Or.inl rfl
      · rw [hof h 1 hh (by decide), if_pos ⟨rfl, rfl⟩] at e; exact absurd e (by decide)
      · rw [hof h 0 hh (by decide), if_neg (by omega)] at e; exact absurd e m0
      · rw [hof h 0 hh (by decide), if_neg (by omega)] at e
        rw [hof h 2 hh (by decide), if_neg (by omega)]
        exact (hJ.c.2.2.2 h hh).2.2 e
      · rcases h4 with e | ⟨e, q, q5⟩
        · exact Or.inl e
        · exact Or.inr ⟨e, hz 5 (by omega) (by omega), hz 6 (by omega) (by omega), fun _ => ⟨fun z => absurd z q5, fun z => absurd z q⟩⟩
    have hA : OpA (deG f h) (seM (di1 s h) 0) s B M := by
      unfold deG
      refine OpA.se hM hS1 (JJ.mk hJ1 ⟨t, l, t1, (hz 0 (by omega) (by omega)).trans t2, t3, t4, (hz 2 (by omega) (by omega)).trans t5, fun k hk e => ?_, fun hn => ?_⟩) ?_
      · rw [hof k 0 hk (by decide), if_neg (by omega)] at e
        rw [hof k 3 hk (by decide), if_neg (by omega)]
        exact t6 k hk e
      · rcases h4 with e | ⟨e, q⟩
        · exact absurd e hn
        · rw [hz 7 (by omega) (by omega)]
          refine t7 ?_
          intro z
          exact hn (e.trans z)
      · unfold di1
        exact Frm.ca.tr (Frm.la hh (by decide))
    refine ⟨hA, ?_⟩
    rw [sim_hd hA.1 hh, se_hd hh]
/-! crash -/
theorem op_crash {f : SV} {s : NV} {B M h : Nat} (hM : M ≤ 1000600) (hS : Sim f s 0) (hJ : JJ s 0 B M) (hh : h < 6) : OpA (brG f h) (seM (cr1 s h) 0) s B M := by
  obtain ⟨t, l, t1, t2, t3, t4, t5, t6, t7⟩ := hJ.t
  have e1 : cr1 s h = caM (laM (lvM s 0 h) 0 h 1 (nI 1)) 0 h true := rfl
  have hS1 : Sim (brG1 f h) (laM (lvM s 0 h) 0 h 1 (nI 1)) 0 := sim_cn1 (sim_lq hS hh) hh
  have hJ1 : JC (cr1 s h) 0 B := by rw [e1]; exact lq_J hh hJ.c (Or.inr rfl)
  have hz : ∀ j, j ≠ 4 → j < 8 → cr1 s h (0 + j) = s (0 + j) := fun j h4 hj => by
    rw [e1, ca_o (by omega), la_o hh (by decide) (Or.inl hj), lq_o (Or.inl hj) hh]
  have hof : ∀ k w, k < 6 → w < 4 → ofM (cr1 s h) 0 k w = if k = h ∧ w = 1 then nI 1 else if k = h ∧ w = 0 then nI 0 else ofM s 0 k w := fun k w hk hw => by
    rw [e1, ca_of, ofM_la (by decide) hw, lq_of hh hk hw]
  have h4 : cr1 s h 4 = -1 ∨ cr1 s h 4 = s 4 := by
    rw [e1]
    rcases caM_s (s := laM (lvM s 0 h) 0 h 1 (nI 1)) (b := 0) (h := h) (src := true) with e | e
    · left; rw [e]; exact upd_e rfl
    · right
      rw [e]
      have a1 : laM (lvM s 0 h) 0 h 1 (nI 1) (0 + 4) = lvM s 0 h (0 + 4) := la_o hh (by decide) (by omega)
      have a2 : lvM s 0 h (0 + 4) = s (0 + 4) := lq_o (by omega) hh
      exact a1.trans a2
  unfold brG
  refine OpA.se hM (by rw [e1]; exact sim_ctS hh hS1) (JJ.mk hJ1 ⟨t, l, t1, (hz 0 (by omega) (by omega)).trans t2, t3, t4, (hz 2 (by omega) (by omega)).trans t5, fun k hk e => ?_, fun hn => ?_⟩) ?_
  · rw [hof k 0 hk (by decide), if_neg (by omega)] at e
    by_cases ek : k = h
    · rw [if_pos ⟨ek, rfl⟩] at e; exact absurd e (by decide)
    · rw [if_neg (fun z => ek z.1)] at e
      rw [hof k 3 hk (by decide), if_neg (by omega), if_neg (by omega)]
      exact t6 k hk e
  · rcases h4 with e | e
    · exact absurd e hn
    · rw [hz 7 (by omega) (by omega)]
      refine t7 ?_
      intro z
      exact hn (e.trans z)
  · rw [e1]
    exact Frm.ca.tr ((Frm.la hh (by decide)).tr (Frm.lv hh))
/-! the transfer time -/
theorem op_stt {f : SV} {s : NV} {B M x : Nat} (hS : Sim f s 0) (hJ : JJ s 0 B M) (h6 : J6 s 0) (hx : 1 ≤ x ∧ x ≤ 60) : OpA (put f 0 9 (nI x)) (upd s 2 (nI x)) s B M := by
  obtain ⟨t, l, t1, t2, t3, t4, t5, t6, t7⟩ := hJ.t
  have ho : ∀ j, j ≠ 2 → upd s 2 (nI x) (0 + j) = s (0 + j) := fun j hj => upd_n (by omega)
  have e2 : upd s 2 (nI x) (0 + 2) = nI x := upd_e rfl
  refine ⟨Sim.top hS ?_ (fun k h1 _ => put_n (by omega)) (put_o (by omega)) (put_o (by omega)) (fun j h1 _ => ho j (by omega)), JJ.mk (hJ.c.top (fun j h1 _ => ho j (by omega)) (ho 1 (by omega)) (Or.inr ⟨ho 4 (by omega), ho 5 (by omega), ho 6 (by omega)⟩)) ⟨t, x, t1, (ho 0 (by omega)).trans t2, hx.1, hx.2, e2, fun k hk e => ?_, fun hn => ?_⟩, h6.cg (fun j _ hj => (ho j (by omega)).symm), Frm.upd (by omega)⟩
  · have a := hS.a
    unfold SA at a ⊢
    rw [ho 0 (by omega), e2, ho 3 (by omega), ho 4 (by omega), ho 5 (by omega), ho 6 (by omega), ho 7 (by omega), put_o (by omega), put_e rfl rfl, put_o (by omega), put_o (by omega), put_o (by omega), put_o (by omega), put_o (by omega)]
    exact ⟨⟨a.1.1, rfl, a.1.2.2.1, a.1.2.2.2⟩, a.2⟩
  · have e9 : ∀ w, w < 4 → ofM (upd s 2 (nI x)) 0 k w = ofM s 0 k w := fun w hw => by unfold ofM; exact upd_n (by omega)
    rw [e9 0 (by decide)] at e
    rw [e9 3 (by decide)]
    exact t6 k hk e
  · rw [ho 7 (by omega)]
    rw [ho 4 (by omega)] at hn
    exact t7 hn
/-! time -/
theorem op_pass {f : SV} {s : NV} {B M k : Nat} (hM : M ≤ 1000600) (hS : Sim f s 0) (hJ : JJ s 0 B M) (h6 : J6 s 0) {t : Nat} (h0 : s 0 = nI t) (hk : t + k ≤ M) :
    OpA (avG (f 0 8 + nI k) k f) (spL s 0 k) s B M ∧ (∀ i, i < k → trOK (tkM (spL s 0 i) 0) 0) ∧ (∃ d, d ≤ k ∧ spL s 0 k 3 = s 3 + nI d) := by
  obtain ⟨a1, a2, a3, -, a5, a6, a7⟩ := av_all hM k k f s t (Nat.le_refl k) hS hJ h6 h0 hk
  have e : f 0 8 + nI k = nI (t + k) := by rw [hS.a.1.1, ← nI_add]; congr 1
  rw [e]
  exact ⟨⟨a1, a2, a3, a7⟩, a5, a6⟩
