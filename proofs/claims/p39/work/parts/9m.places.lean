theorem JJ.cb {s s' : NV} {b b' B M : Nat} (h : JJ s b B M) (hs : ∀ j, j < 272 → s' (b' + j) = s (b + j)) : JJ s' b' B M := by
  obtain ⟨⟨c, c1, c2, c3, c4⟩, hC, j3, j4, ⟨t, l, t1, t2, t3, t4, t5, t6, t7⟩⟩ := h
  have g : Cg2 s' b' s b := fun j hj _ => hs j hj
  refine ⟨⟨c, c1, (hs 1 (by decide)).trans c2, fun p hp => ?_, fun h hh p hp => ?_⟩, fun h hh p hp a1 a2 => ?_, fun hn => ?_, fun h hh => ⟨?_, ?_, ?_⟩, ⟨t, l, t1, (hs 0 (by decide)).trans t2, t3, t4, (hs 2 (by decide)).trans t5, fun h hh e => ?_, fun hn => ?_⟩⟩
  · rw [g.stp hp]; exact c3 p hp
  · rw [g.rp hh hp]; exact c4 h hh p hp
  · rw [g.of hh (by decide)] at a1
    rw [g.rp hh hp] at a2
    rw [g.fs hh hp]; exact hC h hh p hp a1 a2
  · rw [hs 4 (by decide)] at hn
    obtain ⟨p, S, U, g1, g2, g3, g4, g5, g6, g7, g8, g9, g10, g11⟩ := j3 hn
    exact ⟨p, S, U, g1, g2, g3, g4, (hs 4 (by decide)).trans g5, (hs 5 (by decide)).trans g6, (hs 6 (by decide)).trans g7, by rw [g.th g1]; exact g8, by rw [g.of g2 (by decide)]; exact g9, by rw [g.of g3 (by decide)]; exact g10, by rw [g.of g3 (by decide)]; exact g11⟩
  · rw [g.of hh (by decide)]; exact (j4 h hh).1
  · rw [g.of hh (by decide)]
    intro e p hp
    rw [g.rp hh hp]; exact (j4 h hh).2.1 e p hp
  · rw [g.of hh (by decide), g.of hh (by decide), g.us hh]
    exact (j4 h hh).2.2
  · rw [g.of hh (by decide)] at e
    rw [g.of hh (by decide)]
    exact t6 h hh e
  · rw [hs 4 (by decide)] at hn
    rw [hs 7 (by decide)]
    exact t7 hn
theorem isV_ap {a b : Nat} (ha : isV a) (hb : isV b) (hn : a ≠ b) : a + 7 ≤ b ∨ b + 7 ≤ a := by
  unfold isV at ha hb
  simp only [List.mem_cons, List.not_mem_nil, or_false] at ha hb
  omega
theorem rtL_at {t : Nat → Nat} {i : Nat} : ∀ k, rtL t (k + 1) i = if i + 1 < k + 1 then t (i + 1) else t i := by
  intro k
  induction k generalizing i with
  | zero => rw [if_neg (by omega)]; rfl
  | succ k ih =>
    rw [rtL_s (by omega), va_up_at, ih, ih]
    by_cases e : i = k + 1 - 1
    · rw [if_pos e, if_neg (by omega), if_pos (by omega), show i + 1 = k + 1 by omega]
    · rw [if_neg e]
      by_cases q : i + 1 < k + 1
      · rw [if_pos q, if_pos (by omega)]
      · rw [if_neg q, if_neg (by omega)]
theorem rmT_at {TT : (Nat → Nat) × Int64} {n i : Nat} (hi : i < 6) : (rmT TT n).1 i = if n < 6 then TT.1 i else if i = 5 then TT.1 0 else TT.1 (i + 1) := by
  unfold rmT
  by_cases h : n < 6
  · rw [if_pos h, if_pos h]
  · rw [if_neg h, if_neg h]
    show va_up (rtL TT.1 6) 5 (TT.1 0) i = _
    rw [va_up_at, rtL_at 5]
    by_cases e : i = 5
    · rw [if_pos e, if_pos e]
    · rw [if_neg e, if_neg e, if_pos (by omega)]
