/-! what holds between two commands of the script -/
theorem JJ.cb {s s' : NV} {b b' B M : Nat} (h : JJ s b B M) (hs : ∀ j, j < 272 → s' (b' + j) = s (b + j)) : JJ s' b' B M := by
  obtain ⟨⟨c, c1, c2, c3, c4⟩, hC, j3, j4, ⟨t, l, t1, t2, t3, t4, t5, t6, t7⟩⟩ := h
  have g : Cg2 s' b' s b := fun j hj _ => hs j hj
  refine ⟨⟨c, c1, (hs 1 (by decide)).trans c2, fun p hp => ?_, fun h hh p hp => ?_⟩, fun h hh p hp a1 a2 => ?_, fun hn => ?_, fun h hh => ⟨?_, ?_, ?_⟩, ⟨t, l, t1, (hs 0 (by decide)).trans t2, t3, t4, (hs 2 (by decide)).trans t5, fun h hh e => ?_, fun hn => ?_⟩⟩
  · rw [g.stp hp]; exact c3 p hp
  · rw [g.rp hh hp]; exact c4 h hh p hp
  · rw [g.of hh (by decide)] at a1
    rw [g.rp hh hp] at a2
    rw [g.fs hh hp]; exact hC h hh p hp a1 a2
  · rw [hs 4 (by decide)] at hn
    obtain ⟨p, S, U, g1, g2, g3, g4, g5, g6, g7, g8, g9, g10, g11⟩ := j3 hn
    exact ⟨p, S, U, g1, g2, g3, g4, (hs 4 (by decide)).trans g5, (hs 5 (by decide)).trans g6, (hs 6 (by decide)).trans g7, by rw [g.th g1]; exact g8, by rw [g.of g2 (by decide)]; exact g9, by rw [g.of g3 (by decide)]; exact g10, by rw [g.of g3 (by decide)]; exact g11⟩
  · rw [g.of hh (by decide)]; exact (j4 h hh).1
  · rw [g.of hh (by decide)]
    intro e p hp
    rw [g.rp hh hp]; exact (j4 h hh).2.1 e p hp
  · rw [g.of hh (by decide), g.of hh (by decide), g.us hh]
    exact (j4 h hh).2.2
  · rw [g.of hh (by decide)] at e
    rw [g.of hh (by decide)]
    exact t6 h hh e
  · rw [hs 4 (by decide)] at hn
    rw [hs 7 (by decide)]
    exact t7 hn
/-- State f and block i agree, with the block's invariants -/
def Bk (f : SV) (s : NV) (i B : Nat) : Prop := Sim f s (272 * i) ∧ JJ s (272 * i) B 1000000 ∧ J6 s (272 * i)
theorem Bk.cg {f f' : SV} {s s' : NV} {i i' B B' : Nat} (h : Bk f s i B) (hf : ∀ k, k < 7 → f' k = f k) (hs : ∀ j, j < 272 → s' (272 * i' + j) = s (272 * i + j)) (hB : B ≤ B') : Bk f' s' i' B' :=
  ⟨(h.1.cb hs).cf hf, (h.2.1.cb hs).mono hB, h.2.2.cg fun j hj _ => (hs j hj).symm⟩
def Txt (G : Nat → Nat → Int32) (F : SV) (t : Nat) : Prop := G 0 7 = nI t ∧ F 0 5 = nI t ∧ t ≤ 80 ∧ ∀ i, i < t → ∃ c, 32 ≤ c ∧ c ≤ 126 ∧ G 17 i = nI c ∧ F 3 i = nI c
def Dat (G : Nat → Nat → Int32) (f F : SV) (s : NV) (T : Nat → Nat) (n B : Nat) : Prop :=
  (∀ i, i < 6 → isV (T i)) ∧ (∀ i j, i < 6 → j < 6 → T i = T j → i = j) ∧ n ≤ 6 ∧ G 0 3 = nI n ∧ F 0 2 = nI n ∧ Bk f s 0 B ∧ (∀ i, i < n → Bk (view G (T i)) s (i + 1) B) ∧
  (∀ c, c < 2 → (tb (G 0 5) (nI c) = true ∧ ¬ F 2 c = 0 ∧ Bk (view G (61 + 7 * c)) s (7 + c) B) ∨ (tb (G 0 5) (nI c) = false ∧ F 2 c = 0)) ∧ (∃ t, Txt G F t)
def Wd (G : Nat → Nat → Int32) (f F : SV) (s : NV) : Nat → Nat → Int32 := patch (patch G 75 4 (mS F s)) 1 7 f
theorem Wd_p {G : Nat → Nat → Int32} {f F : SV} {s : NV} : Wd G f F s = patch (patch G 1 7 f) 75 4 (mS F s) := pSw (by decide)
def InvM (k : Nat) (M : Mem) : Prop := ∃ G f F s n B, B ≤ 100 * k ∧ Dat G f F s M.2.1 n B ∧ M.1 = Wd G f F s
theorem inv_mo {k : Nat} {M : Mem} (h : InvM k M) : InvM (k + 1) M := by
  obtain ⟨G, f, F, s, n, B, h1, h2⟩ := h
  exact ⟨G, f, F, s, n, B, by omega, h2⟩
section
variable {G G' : Nat → Nat → Int32} {f f' F F' : SV} {s s' : NV} {T : Nat → Nat} {n B B' : Nat}
theorem Dat.sim (h : Dat G f F s T n B) : Sim f s 0 ∧ JJ s 0 B 1000000 ∧ J6 s 0 := h.2.2.2.2.2.1
theorem Dat.mono (h : Dat G f F s T n B) (hB : B ≤ B') : Dat G f F s T n B' := by
  obtain ⟨h1, h2, h3, h4, h5, h6, h7, h8, h9⟩ := h
  refine ⟨h1, h2, h3, h4, h5, h6.cg (fun _ _ => rfl) (fun _ _ => rfl) hB, fun i hi => (h7 i hi).cg (fun _ _ => rfl) (fun _ _ => rfl) hB, fun c hc => ?_, h9⟩
  rcases h8 c hc with ⟨a, b, d⟩ | a
  · exact Or.inl ⟨a, b, d.cg (fun _ _ => rfl) (fun _ _ => rfl) hB⟩
  · exact Or.inr a
/-- the state and its block change, the rest stays -/
theorem Dat.op (h : Dat G f F s T n B) (ho : OpA f' s' s B' 1000000) (hB : B ≤ B') : Dat G f' F s' T n B' := by
  obtain ⟨h1, h2, h3, h4, h5, h6, h7, h8, h9⟩ := h
  obtain ⟨o1, o2, o3, o4⟩ := ho
  refine ⟨h1, h2, h3, h4, h5, ⟨o1, o2, o3⟩, fun i hi => (h7 i hi).cg (fun _ _ => rfl) (fun j hj => o4 _ (by omega)) hB, fun c hc => ?_, h9⟩
  rcases h8 c hc with ⟨a, b, d⟩ | a
  · exact Or.inl ⟨a, b, d.cg (fun _ _ => rfl) (fun j hj => o4 _ (by omega)) hB⟩
  · exact Or.inr a
/-- the model's other fields -/
theorem Dat.fF (h : Dat G f F s T n B) (f2 : F' 0 2 = F 0 2) (f5 : F' 0 5 = F 0 5) (hr2 : F' 2 = F 2) (hr3 : F' 3 = F 3) : Dat G f F' s T n B := by
  obtain ⟨h1, h2, h3, h4, h5, h6, h7, h8, ⟨t, t1, t2, t3, t4⟩⟩ := h
  refine ⟨h1, h2, h3, h4, f2.trans h5, h6, h7, fun c hc => ?_, ⟨t, t1, f5.trans t2, t3, fun i hi => ?_⟩⟩
  · rw [hr2]; exact h8 c hc
  · rw [hr3]; exact t4 i hi
theorem Dat.e0 (h : Dat G f F s T n B) (c : Nat) : Dat G f (put F 0 0 (nI c)) s T n B := h.fF (put_o (by omega)) (put_o (by omega)) (put_n (by omega)) (put_n (by omega))
/-- cells that say nothing -/
theorem Dat.gG (h : Dat G f F s T n B) (g3 : G' 0 3 = G 0 3) (g5 : G' 0 5 = G 0 5) (g7 : G' 0 7 = G 0 7) (hr : ∀ k, k = 17 ∨ (19 ≤ k ∧ k < 75) → G' k = G k) : Dat G' f F s T n B := by
  obtain ⟨h1, h2, h3, h4, h5, h6, h7, h8, ⟨t, t1, t2, t3, t4⟩⟩ := h
  have hv : ∀ r, 19 ≤ r → r + 7 ≤ 75 → ∀ k, k < 7 → view G' r k = view G r k := fun r ha hb k hk => by
    unfold view
    exact hr _ (Or.inr (by omega))
  refine ⟨h1, h2, h3, g3.trans h4, h5, h6, fun i hi => ?_, fun c hc => ?_, ⟨t, g7.trans t1, t2, t3, fun i hi => ?_⟩⟩
  · have hi6 := isV_B (h1 i (by omega))
    exact (h7 i hi).cg (hv _ (by omega) (by omega)) (fun _ _ => rfl) (Nat.le_refl _)
  · rw [g5]
    rcases h8 c hc with ⟨a, b, d⟩ | a
    · exact Or.inl ⟨a, b, d.cg (hv _ (by omega) (by omega)) (fun _ _ => rfl) (Nat.le_refl _)⟩
    · exact Or.inr a
  · rw [hr 17 (Or.inl rfl)]; exact t4 i hi
/-- the model's numbers behind the ninth block say nothing -/
theorem Dat.sS (h : Dat G f F s T n B) (hs : ∀ i, i < 2448 → s' i = s i) : Dat G f F s' T n B := by
  obtain ⟨h1, h2, h3, h4, h5, h6, h7, h8, h9⟩ := h
  refine ⟨h1, h2, h3, h4, h5, h6.cg (fun _ _ => rfl) (fun j hj => hs _ (by omega)) (Nat.le_refl _), fun i hi => (h7 i hi).cg (fun _ _ => rfl) (fun j hj => hs _ (by omega)) (Nat.le_refl _), fun c hc => ?_, h9⟩
  rcases h8 c hc with ⟨a, b, d⟩ | a
  · exact Or.inl ⟨a, b, d.cg (fun _ _ => rfl) (fun j hj => hs _ (by omega)) (Nat.le_refl _)⟩
  · exact Or.inr a
end
/-! blocks copied -/
theorem crL_at {s : NV} {a c : Nat} (hn : a ≠ c) : ∀ k, k ≤ 272 → ∀ i, crL s a c k i = if 272 * c ≤ i ∧ i < 272 * c + k then s (272 * a + (i - 272 * c)) else s i := by
  intro k
  induction k with
  | zero => intro _ i; rw [if_neg (by omega)]; rfl
  | succ k ih =>
    intro hk i
    rw [crL]
    by_cases e : i = 272 * c + k
    · rw [upd_e e, ih (by omega), if_neg (by omega), if_pos (by omega), show 272 * a + (i - 272 * c) = 272 * a + k by omega]
    · rw [upd_n e, ih (by omega)]
      by_cases q : 272 * c ≤ i ∧ i < 272 * c + k
      · rw [if_pos q, if_pos (by omega)]
      · rw [if_neg q, if_neg (by omega)]
theorem cr_blk {s : NV} {a c i j : Nat} (hn : a ≠ c) (hj : j < 272) : crM s a c (272 * i + j) = if i = c then s (272 * a + j) else s (272 * i + j) := by
  unfold crM
  rw [crL_at hn 272 (Nat.le_refl _)]
  by_cases e : i = c
  · rw [if_pos e, if_pos (by omega), show 272 * a + (272 * i + j - 272 * c) = 272 * a + j by rw [e]; omega]
  · rw [if_neg e, if_neg (by omega)]
theorem sh_blk {s : NV} {i j : Nat} (hj : j < 272) : shM s (272 * i + j) = if 1 ≤ i ∧ i ≤ 5 then s (272 * (i + 1) + j) else s (272 * i + j) := by
  have st : ∀ (X : NV) (a c i : Nat), a ≠ c → i ≠ c → crM X a c (272 * i + j) = X (272 * i + j) := fun X a c i h1 h2 => by rw [cr_blk h1 hj, if_neg h2]
  have hit : ∀ (X : NV) (a c : Nat), a ≠ c → crM X a c (272 * c + j) = X (272 * a + j) := fun X a c h1 => by rw [cr_blk h1 hj, if_pos rfl]
  unfold shM
  by_cases e5 : i = 5
  · subst e5
    rw [hit _ 6 5 (by decide), st _ 5 4 6 (by decide) (by decide), st _ 4 3 6 (by decide) (by decide), st _ 3 2 6 (by decide) (by decide), st _ 2 1 6 (by decide) (by decide), if_pos (by omega)]
  by_cases e4 : i = 4
  · subst e4
    rw [st _ 6 5 4 (by decide) (by decide), hit _ 5 4 (by decide), st _ 4 3 5 (by decide) (by decide), st _ 3 2 5 (by decide) (by decide), st _ 2 1 5 (by decide) (by decide), if_pos (by omega)]
  by_cases e3 : i = 3
  · subst e3
    rw [st _ 6 5 3 (by decide) (by decide), st _ 5 4 3 (by decide) (by decide), hit _ 4 3 (by decide), st _ 3 2 4 (by decide) (by decide), st _ 2 1 4 (by decide) (by decide), if_pos (by omega)]
  by_cases e2 : i = 2
  · subst e2
    rw [st _ 6 5 2 (by decide) (by decide), st _ 5 4 2 (by decide) (by decide), st _ 4 3 2 (by decide) (by decide), hit _ 3 2 (by decide), st _ 2 1 3 (by decide) (by decide), if_pos (by omega)]
  by_cases e1 : i = 1
  · subst e1
    rw [st _ 6 5 1 (by decide) (by decide), st _ 5 4 1 (by decide) (by decide), st _ 4 3 1 (by decide) (by decide), st _ 3 2 1 (by decide) (by decide), hit _ 2 1 (by decide), if_pos (by omega)]
  rw [st _ 6 5 i (by decide) e5, st _ 5 4 i (by decide) e4, st _ 4 3 i (by decide) e3, st _ 3 2 i (by decide) e2, st _ 2 1 i (by decide) e1, if_neg (by omega)]
theorem kp_blk {s : NV} {n i j : Nat} (hn : n ≤ 6) (hj : j < 272) : kpS s n (272 * i + j) = if n < 6 then (if i = n + 1 then s (272 * 0 + j) else s (272 * i + j)) else (if i = 6 then s (272 * 0 + j) else if 1 ≤ i ∧ i ≤ 5 then s (272 * (i + 1) + j) else s (272 * i + j)) := by
  unfold kpS
  by_cases h : n < 6
  · rw [if_pos h, if_pos h, cr_blk (by omega) hj]
  · rw [if_neg h, if_neg h, cr_blk (by decide) hj, sh_blk (i := 0) hj, sh_blk hj, if_neg (show ¬ (1 ≤ 0 ∧ 0 ≤ 5) by omega)]
theorem isV_ap {a b : Nat} (ha : isV a) (hb : isV b) (hn : a ≠ b) : a + 7 ≤ b ∨ b + 7 ≤ a := by
  unfold isV at ha hb
  simp only [List.mem_cons, List.not_mem_nil, or_false] at ha hb
  omega
theorem rtL_at {t : Nat → Nat} {i : Nat} : ∀ k, rtL t (k + 1) i = if i + 1 < k + 1 then t (i + 1) else t i := by
  intro k
  induction k generalizing i with
  | zero => rw [if_neg (by omega)]; rfl
  | succ k ih =>
    rw [rtL_s (by omega), va_up_at, ih, ih]
    by_cases e : i = k + 1 - 1
    · rw [if_pos e, if_neg (by omega), if_pos (by omega), show i + 1 = k + 1 by omega]
    · rw [if_neg e]
      by_cases q : i + 1 < k + 1
      · rw [if_pos q, if_pos (by omega)]
      · rw [if_neg q, if_neg (by omega)]
theorem rmT_at {TT : (Nat → Nat) × Int64} {n i : Nat} (hi : i < 6) : (rmT TT n).1 i = if n < 6 then TT.1 i else if i = 5 then TT.1 0 else TT.1 (i + 1) := by
  unfold rmT
  by_cases h : n < 6
  · rw [if_pos h, if_pos h]
  · rw [if_neg h, if_neg h]
    show va_up (rtL TT.1 6) 5 (TT.1 0) i = _
    rw [va_up_at, rtL_at 5]
    by_cases e : i = 5
    · rw [if_pos e, if_pos e]
    · rw [if_neg e, if_neg e, if_pos (by omega)]
/-- the state remembered, on both sides -/
theorem Dat.keep {G : Nat → Nat → Int32} {f F : SV} {s : NV} {TT : (Nat → Nat) × Int64} {n B : Nat} (h : Dat G f F s TT.1 n B) : Dat (rmG G f TT n) f (FK F n) (kpS s n) (rmT TT n).1 (kpV n) B := by
  obtain ⟨h1, h2, h3, h4, h5, h6, h7, h8, ⟨t, t1, t2, t3, t4⟩⟩ := h
  have hr := rmR_ge (T := TT) (m := n) h1
  have hrow : ∀ k, k ≠ 0 → (k < rmR TT n ∨ rmR TT n + 7 ≤ k) → rmG G f TT n k = G k := fun k h0 hk => by
    unfold rmG
    rw [put_n h0, patch_out hk]
  have h0j : ∀ j, j ≠ 3 → rmG G f TT n 0 j = G 0 j := fun j hj => rm_0 hr.1 hj
  have hin : ∀ a, a < 7 → rmG G f TT n (rmR TT n + a) = f a := fun a ha => by
    unfold rmG
    rw [put_n (by omega), patch_in ha]
  have hb0 : ∀ j, j < 272 → kpS s n (272 * 0 + j) = s (272 * 0 + j) := fun j hj => by
    rw [kp_blk h3 hj]
    (repeat' split) <;> first | rfl | omega
  have hnew : ∀ i i', i < n → rmR TT n ≠ TT.1 i → (∀ j, j < 272 → kpS s n (272 * (i' + 1) + j) = s (272 * (i + 1) + j)) → Bk (view (rmG G f TT n) (TT.1 i)) (kpS s n) (i' + 1) B := fun i i' hi hne hs => by
    have hv := isV_B (h1 i (by omega))
    have hvr : isV (rmR TT n) := by
      unfold rmR
      split
      · exact h1 _ (by assumption)
      · exact h1 0 (by decide)
    refine (h7 i hi).cg (fun k hk => ?_) hs (Nat.le_refl _)
    unfold view
    exact hrow _ (by omega) (by have := isV_ap hvr (h1 i (by omega)) hne; omega)
  have hlast : ∀ i', (∀ j, j < 272 → kpS s n (272 * (i' + 1) + j) = s (272 * 0 + j)) → Bk (view (rmG G f TT n) (rmR TT n)) (kpS s n) (i' + 1) B := fun i' hs => by
    refine h6.cg (fun k hk => ?_) hs (Nat.le_refl _)
    exact hin k hk
  refine ⟨fun i hi => ?_, fun i j hi hj e => ?_, ?_, ?_, ?_, h6.cg (fun _ _ => rfl) hb0 (Nat.le_refl _), fun i hi => ?_, fun c hc => ?_, ⟨t, (h0j 7 (by decide)).trans t1, ?_, t3, fun i hi => ?_⟩⟩
  · rw [rmT_at hi]
    (repeat' split) <;> apply h1 <;> omega
  · rw [rmT_at hi, rmT_at hj] at e
    by_cases q : n < 6
    · rw [if_pos q, if_pos q] at e; exact h2 i j hi hj e
    · rw [if_neg q, if_neg q] at e
      by_cases ei : i = 5
      · by_cases ej : j = 5
        · omega
        · rw [if_pos ei, if_neg ej] at e
          have := h2 _ _ (by decide) (by omega) e
          omega
      · by_cases ej : j = 5
        · rw [if_neg ei, if_pos ej] at e
          have := h2 _ _ (by omega) (by decide) e
          omega
        · rw [if_neg ei, if_neg ej] at e
          have := h2 _ _ (by omega) (by omega) e
          omega
  · unfold kpV; split <;> omega
  · unfold rmG
    rw [put_e rfl rfl]; rfl
  · unfold FK
    rw [put_e rfl rfl]
  · by_cases q : n < 6
    · have ek : kpV n = n + 1 := by unfold kpV; rw [if_pos q]
      have er : rmR TT n = TT.1 n := by unfold rmR; rw [if_pos q]
      rw [ek] at hi
      rw [rmT_at (by omega), if_pos q]
      by_cases e : i = n
      · subst e
        rw [← er]
        refine hlast i fun j hj => ?_
        rw [kp_blk h3 hj, if_pos q, if_pos rfl]
      · refine hnew i i (by omega) (fun z => e (h2 n i q (by omega) (er.symm.trans z)).symm) fun j hj => ?_
        rw [kp_blk h3 hj, if_pos q, if_neg (by omega)]
    · have en : n = 6 := by omega
      have ek : kpV n = 6 := by unfold kpV; rw [if_neg q]
      have er : rmR TT n = TT.1 0 := by unfold rmR; rw [if_neg q]
      rw [ek] at hi
      rw [rmT_at (by omega), if_neg q]
      by_cases e : i = 5
      · subst e
        rw [if_pos rfl, ← er]
        refine hlast 5 fun j hj => ?_
        rw [kp_blk h3 hj, if_neg q, if_pos rfl]
      · rw [if_neg e]
        refine hnew (i + 1) i (by omega) (fun z => ?_) fun j hj => ?_
        · have := h2 0 (i + 1) (by decide) (by omega) (er.symm.trans z)
          omega
        · rw [kp_blk h3 hj, if_neg q, if_neg (by omega), if_pos (by omega)]
  · have e2 : FK F n 2 = F 2 := by unfold FK; rw [put_n (by omega), put_n (by omega)]
    rw [h0j 5 (by decide), e2]
    rcases h8 c hc with ⟨a, b, d⟩ | a
    · refine Or.inl ⟨a, b, d.cg (fun k hk => ?_) (fun j hj => ?_) (Nat.le_refl _)⟩
      · unfold view
        exact hrow _ (by omega) (by omega)
      · rw [kp_blk h3 hj]
        (repeat' split) <;> first | rfl | omega
    · exact Or.inr a
  · unfold FK
    rw [put_o (by omega), put_o (by omega)]; exact t2
  · have e3 : FK F n 3 = F 3 := by unfold FK; rw [put_n (by omega), put_n (by omega)]
    rw [hrow 17 (by decide) (by omega), e3]
    exact t4 i hi
theorem rm75 {G : Nat → Nat → Int32} {f g : SV} {TT : (Nat → Nat) × Int64} {m : Nat} (hr : 19 ≤ rmR TT m ∧ rmR TT m ≤ 54) : rmG (patch G 75 4 g) f TT m = patch (rmG G f TT m) 75 4 g := by
  funext k j
  unfold rmG
  by_cases h1 : 75 ≤ k ∧ k < 75 + 4
  · rw [put_n (by omega), patch_out (r := rmR TT m) (by omega)]
    unfold patch
    rw [if_pos h1, if_pos h1]
  · rw [patch_out (r := 75) (w := 4) (g := put (patch G (rmR TT m) 7 f) 0 3 (nI (rmN m))) (by omega), put_at, put_at]
    split
    · rfl
    · by_cases h2 : rmR TT m ≤ k ∧ k < rmR TT m + 7
      · unfold patch; rw [if_pos h2, if_pos h2]
      · rw [patch_out (by omega), patch_out (by omega), patch_out (by omega)]
