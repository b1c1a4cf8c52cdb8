/-! the turns together; from the law's entry to its end -/
abbrev LwP (VV : VT) (sz b k : Nat) : Prop := ∀ (G : Nat → Nat → Int32) (f : SV) (T : (Nat → Nat) × Int64) (n : Nat) (g : SV), GoodS f (3 + k) (150 + 50 * k) → GoodS g (3 + k) (150 + 50 * k) → WorldS G T n g → VV 75 851 87 [(0, .ref b), (1, .ref (sz + 0)), (2, .int (nI 1)), (3, .int (nI k))] [] (patch G 1 7 f, T)
section
variable {VV : VT} {sz b LL : Nat} {xs : Nat → Int32} {G : Nat → Nat → Int32} {T : (Nat → Nat) × Int64} {f g : SV}
theorem la_turn (hC : CtxL VV sz b LL xs) (hLL : LL ≤ 260) {k n : Nat} (hk : k < 44) (ih : LwP VV sz b (k + 1)) (hf : GoodS f (3 + k) (150 + 50 * k)) (hg : GoodS g (3 + k) (150 + 50 * k)) (hW : WorldS G T n g) :
    VV 75 851 93 [(0, .ref b), (1, .ref (sz + 0)), (2, .int (nI 1)), (3, .int (nI k))] [] (patch G 1 7 f, T) := by
  refine la_a hC hLL hk fun x y => ?_
  obtain ⟨v, f', hv, hf0, hD⟩ := act_ok hf hg (by omega) (by omega) x y
  have hf' : GoodS f' (3 + (k + 1)) (150 + 50 * (k + 1)) := hf0.mono (by omega) (by omega)
  have hg' : GoodS g (3 + (k + 1)) (150 + 50 * (k + 1)) := hg.mono (by omega) (by omega)
  have tail : ∀ G T n, WorldS G T n g → VV 75 851 249 [(0, .ref b), (1, .ref (sz + 0)), (2, .int (nI 1)), (3, .int (nI k)), (4, .int x)] [] (patch G 1 7 f', T) := by
    have t3 : ∀ G T n, WorldS G T n g → VV 75 851 334 [(0, .ref b), (1, .ref (sz + 0)), (2, .int (nI 1)), (3, .int (nI k)), (4, .int x)] [] (patch G 1 7 f', T) := by
      intro G T n hW
      by_cases hq : k % 17 = 9
      · exact la_sy hC hLL hk hq (x_save (c := 0) (by decide)) (ih _ f' T n f' hf' hf' hW.sv)
      · exact la_sn hC hLL hk hq (ih G f' T n g hf' hg' hW)
    have t2 : ∀ G T n, WorldS G T n g → VV 75 851 305 [(0, .ref b), (1, .ref (sz + 0)), (2, .int (nI 1)), (3, .int (nI k)), (4, .int x)] [] (patch G 1 7 f', T) := by
      intro G T n hW
      by_cases hq : k % 4 = 2
      · exact la_oy hC hLL hf' (by omega) hW hk hq t3
      · exact la_on hC hLL hk hq (t3 G T n hW)
    intro G T n hW
    refine la_h hC hLL hf' ?_
    by_cases hq : k % 3 = 1
    · by_cases hc : (x >>> (nI 9 &&& 31)) &&& nI 1 = 0
      · exact la_k1 hC hLL hf' hW hk hq hc t2
      · exact la_k0 hC hLL hf' hW hk hq hc t2
    · exact la_kn hC hLL hk hq (t2 G T n hW)
  have hW1 := hW.rm (f := f)
  have ht1 := TopS.rm (f := f) hW
  have h1 := rmN_1 (n := n)
  have hn6 := hW.2.2.1
  have mid : VV 75 851 173 [(0, .ref b), (1, .ref (sz + 0)), (2, .int (nI 1)), (3, .int (nI k)), (4, .int x), (5, .int y), (6, .long (toldV f)), (8, .int (nI n)), (9, .int (nI v))] [] (patch (rmG G f T n) 1 7 f', rmT T n) := by
    by_cases hq : (x >>> (nI 8 &&& 31)) &&& nI 3 = 0
    · obtain ⟨c, ec⟩ : ∃ c, rmN n = c + 1 := ⟨rmN n - 1, by omega⟩
      rw [ec] at hW1 ht1
      refine la_y hC hLL (hf.mono (B' := 3 + (k + 1)) (M' := 150 + 50 * (k + 1)) (by omega) (by omega)) hf' (c := c) (by omega) hq hW1.2.2.2.1 (x_undoT hW1 ht1) (hD _ _ _ c hW1.un) ?_
      refine ro_drop [5, 6, 8, 9, 10, 12] hC.c rfl ?_
      exact tail _ _ _ hW1.un.rm
    · refine la_n hC hLL hq ?_
      refine ro_drop [5, 6, 8, 9] hC.c rfl ?_
      exact tail _ _ _ hW1
  by_cases hn : n < 6
  · have e1 : rmG G f T n 0 3 = nI (n + 1) := by
      have := hW1.2.2.2.1
      unfold rmN at this
      rw [if_pos hn] at this
      exact this
    exact la_bl hC hLL hf hn6 hn hW.2.2.2.1 e1 hv (hD _ _ _ n hW) mid
  · have e1 : rmG G f T n 0 3 = nI 6 := by
      have := hW1.2.2.2.1
      unfold rmN at this
      rw [if_neg hn] at this
      exact this
    exact la_bf hC hLL hf hn6 (by omega) hW.2.2.2.1 e1 hv (hD _ _ _ n hW) mid
theorem la_loop (hC : CtxL VV sz b LL xs) (hLL : LL ≤ 260) : LwP VV sz b 0 := by
  have hX := hC.c
  refine down_ind (P := fun k => LwP VV sz b k) 44 (fun k hk ih => ?_) ?_
  · intro G f T n g hf hg hW
    refine ro_iload_n (i := 3) (q := 88) hX dL_law_87 rfl rfl rfl ?_
    refine ro_bipush (v := nI 44) (q := 90) hX dL_law_88 rfl rfl ?_
    refine ro_icmp_ge (tgt := 371) (q := 93) hX dL_law_90 (by decide) rfl (fun q => absurd q (ni_nle (by omega) (by omega))) (fun _ => ?_)
    exact la_turn hC hLL hk ih hf hg hW
  · intro G f T n g hf hg hW
    refine ro_iload_n (i := 3) (q := 88) hX dL_law_87 rfl rfl rfl ?_
    refine ro_bipush (v := nI 44) (q := 90) hX dL_law_88 rfl rfl ?_
    refine ro_icmp_ge (tgt := 371) (q := 93) hX dL_law_90 (by decide) rfl (fun _ => ?_) (fun q => absurd (ni_le (by omega) (by omega)) q)
    refine ro_iload_n (i := 2) (q := 372) hX dL_law_371 rfl rfl rfl ?_
    refine vv_top (y := 1) rfl ?_
    exact fin_law hC dL_law_372 (Nat.le_of_ble_eq_true rfl) (Nat.le_of_ble_eq_true rfl)
theorem la_all (hC : CtxL VV sz b LL xs) (hLL : LL ≤ 260) : VV 75 851 8 [(0, .ref b), (1, .ref (sz + 0))] [] M0 := by
  have u9 : ∀ x : Int32, 1 ≤ 1 + upN x 9 ∧ 1 + upN x 9 ≤ 20 := fun x => by
    have := upN_lt (x := x) (n := 9) (by decide)
    omega
  refine vv_M (M' := (patch G0 1 7 (view G0 1), ((fun i => 19 + 7 * i), (0 : Int64)))) (by rw [patch_view]; rfl) ?_
  generalize hT0 : (((fun i => 19 + 7 * i), (0 : Int64)) : (Nat → Nat) × Int64) = T0
  have w0 := world_0
  rw [hT0] at w0
  have m0 := fun {k : Nat} (hk : k < 6) => start_m hk
  have z0 : view G0 1 0 8 = 0 := by rw [vG_0]; rfl
  have g0 := good_0
  generalize view G0 1 = f0 at m0 z0 g0
  have h0 := fun x => lend_pos g0 (by omega) (h := 0) (by decide) (u9 x) (m0 (by decide)).1 (m0 (by decide)).2
  obtain ⟨v, hv⟩ := Classical.axiomOfChoice h0
  refine la_l0 hC hLL (v := v) (ff := fun x => seS (beG f0 0 (nI (1 + upN x 9)))) (GG := fun _ => rmG G0 f0 T0 0) (TT := fun _ => rmT T0 0) (fun x => ⟨(hv x).1, (hv x).2.1⟩) (fun x => (hv x).2.2.2 sz G0 T0 0 w0) (fun x1 => ?_)
  have w1 := w0.rm (f := f0)
  have g1 := (hv x1).2.2.1
  have m1 : ∀ k, k < 6 → k ≠ 0 → seS (beG f0 0 (nI (1 + upN x1 9))) 1 k = 0 ∧ tb (seS (beG f0 0 (nI (1 + upN x1 9))) 0 7) (nI k) = true := fun k hk hn => ⟨lend_oth hn (m0 hk).1, by rw [lend_0 (by omega)]; exact (m0 hk).2⟩
  have z1 : seS (beG f0 0 (nI (1 + upN x1 9))) 0 8 = 0 := by rw [lend_0 (by omega)]; exact z0
  show VV 75 851 29 [(0, .ref b), (1, .ref (sz + 0))] [] (patch (rmG G0 f0 T0 0) 1 7 (seS (beG f0 0 (nI (1 + upN x1 9)))), rmT T0 0)
  generalize seS (beG f0 0 (nI (1 + upN x1 9))) = f1 at g1 m1 z1
  generalize rmG G0 f0 T0 0 = G1 at w1
  generalize rmT T0 0 = T1 at w1
  have h1 := fun x => lend_pos g1 (by omega) (h := 1) (by decide) (u9 x) (m1 1 (by decide) (by decide)).1 (m1 1 (by decide) (by decide)).2
  obtain ⟨v1, hv1⟩ := Classical.axiomOfChoice h1
  refine la_l1 hC hLL (v := v1) (ff := fun x => seS (beG f1 1 (nI (1 + upN x 9)))) (GG := fun _ => rmG G1 f1 T1 (rmN 0)) (TT := fun _ => rmT T1 (rmN 0)) (fun x => ⟨(hv1 x).1, (hv1 x).2.1⟩) (fun x => (hv1 x).2.2.2 sz G1 T1 (rmN 0) w1) (fun x2 => ?_)
  have w2 := w1.rm (f := f1)
  have g2 := (hv1 x2).2.2.1
  have m2 : seS (beG f1 1 (nI (1 + upN x2 9))) 1 2 = 0 ∧ tb (seS (beG f1 1 (nI (1 + upN x2 9))) 0 7) (nI 2) = true := ⟨lend_oth (by decide) (m1 2 (by decide) (by decide)).1, by rw [lend_0 (by omega)]; exact (m1 2 (by decide) (by decide)).2⟩
  have z2 : seS (beG f1 1 (nI (1 + upN x2 9))) 0 8 = 0 := by rw [lend_0 (by omega)]; exact z1
  show VV 75 851 50 [(0, .ref b), (1, .ref (sz + 0))] [] (patch (rmG G1 f1 T1 (rmN 0)) 1 7 (seS (beG f1 1 (nI (1 + upN x2 9)))), rmT T1 (rmN 0))
  generalize seS (beG f1 1 (nI (1 + upN x2 9))) = f2 at g2 m2 z2
  generalize rmG G1 f1 T1 (rmN 0) = G2 at w2
  generalize rmT T1 (rmN 0) = T2 at w2
  have h2 := fun x => lend_pos g2 (by omega) (h := 2) (by decide) (u9 x) m2.1 m2.2
  obtain ⟨v2, hv2⟩ := Classical.axiomOfChoice h2
  refine la_l2 hC hLL (v := v2) (ff := fun x => seS (beG f2 2 (nI (1 + upN x 9)))) (GG := fun _ => rmG G2 f2 T2 (rmN (rmN 0))) (TT := fun _ => rmT T2 (rmN (rmN 0))) (fun x => ⟨(hv2 x).1, (hv2 x).2.1⟩) (fun x => (hv2 x).2.2.2 sz G2 T2 (rmN (rmN 0)) w2) (fun x3 => ?_)
  have w3 := w2.rm (f := f2)
  have g3 := (hv2 x3).2.2.1
  have z3 : seS (beG f2 2 (nI (1 + upN x3 9))) 0 8 = 0 := by rw [lend_0 (by omega)]; exact z2
  show VV 75 851 71 [(0, .ref b), (1, .ref (sz + 0))] [] (patch (rmG G2 f2 T2 (rmN (rmN 0))) 1 7 (seS (beG f2 2 (nI (1 + upN x3 9)))), rmT T2 (rmN (rmN 0)))
  generalize seS (beG f2 2 (nI (1 + upN x3 9))) = f3 at g3 z3
  have g4 : GoodS f3 (3 + 0) (150 + 50 * 0) := g3.mono (by omega) (by omega)
  exact la_sv hC hLL z3 (x_save (c := 0) (by decide)) (la_loop hC hLL _ f3 _ _ f3 g4 g4 w3.sv)
end
/-- from the entry, for every script of at most 260 ints, the law comes to its end with true -/
theorem whole_start {p : Program} {e : Env} {s : State} {m : MethodId} {below : List Frame} {meth : Method} {c : Code} (l : Launch) (hflags : l.flags = flags0) {b L : Nat} {xs : Nat → Int32} (hL : L ≤ 260) (C0 : lw_At p s m meth c b L xs) : W p l e room_1 s m #[Value.ref b] below meth c s.heap [] 0 0 (lw_Z below #[Value.ref b] s) (entryFrame m ([Value.ref b] : List Value).toArray 13) := by
  obtain ⟨hx, hb, hr, hml, hown, hts, hX, hbl, hlocks, hgv⟩ := C0
  obtain ⟨D, cy, hE⟩ := law_EN hts hgv
  have hTW : ∀ w ∈ TW, w.before #[Value.ref b] s = true := fun w hw => hts w (List.mem_filter.mp hw).1
  have hov : (Cond.arrayOver (.object RX1)).before #[Value.ref b] s = true := hts _ (List.mem_of_getElem? (i := 98) (by decide +kernel))
  have hX9 : CtxN (VN p l e room_1 s m #[Value.ref b] below meth c D s.heap.size (lw_Z below #[Value.ref b] s) 13) D cy s.heap.size RL code room_1 13 false := ⟨p, l, e, s, m, _, below, meth, c, _, hx, hb, hml, hown, hTW, hE, hov, hflags, fun h => Bool.noConfusion h, rfl⟩
  have hC9 : CtxL (V p l e room_1 s m #[Value.ref b] below meth c D cy s.heap.size (lw_Z below #[Value.ref b] s) 13) s.heap.size b L xs := ⟨p, l, e, s, m, below, meth, c, D, cy, hx, hb, hml, hown, hTW, hE, hflags, rfl, hX, hbl, rfl, hr, hlocks⟩
  have K : VN p l e room_1 s m #[Value.ref b] below meth c D s.heap.size (lw_Z below #[Value.ref b] s) 13 0 0 0 [(0, .ref b)] [] (wF s.heap.size (PF s.heap.size z0) 6 2 cy) 0 := by
    refine law_init hX9 ?_
    intro H locs ls hl hc hP hz hS
    exact la_all hC9 hL H locs ls hl hc.two (wF_wl hP) hS
  rw [lg_entry_eq]
  have hl := lv_entry ([.ref b]) (n := 13) (Nat.le_of_ble_eq_true rfl)
  exact K s.heap [] _ hl ⟨rfl, (by simp), trivial⟩ (fun k q h => absurd (wlN_get' h).1 (Nat.not_lt_zero k)) rfl va_S.rf
