/-! the law's own rows: the script's cell, the end -/
def CtxL (VV : VT) (sz b L : Nat) (xs : Nat → Int32) : Prop :=
  ∃ (p : Program) (l : Launch) (e : Env) (s : State) (m : MethodId) (below : List Frame) (meth : Method) (c : Code) (D : va_G) (cy : Nat → ClassId),
    p.tables.exec = Jvm.exec ∧ c.code = code ∧ c.maxLocals = 13 ∧ s.vm.findClass RL = some m.cls ∧ (∀ w ∈ TW, w.before #[.ref b] s = true) ∧ EN D cy sz s ∧ l.flags = flags0 ∧
    VV = V p l e room_1 s m #[.ref b] below meth c D cy sz (lw_Z below #[.ref b] s) 13 ∧ va_X b L xs s s.heap ∧ b < s.heap.size ∧ sz = s.heap.size ∧ meth.sig.returnType = ret ∧ meth.locks = false
theorem CtxL.c {VV : VT} {sz b L : Nat} {xs : Nat → Int32} (h : CtxL VV sz b L xs) : Ctx VV sz RL code room_1 13 := by
  obtain ⟨p, l, e, s, m, below, meth, c, D, cy, hx, hb, hml, hown, hts, hE, hfl, hV, -⟩ := h
  exact ⟨p, l, e, s, m, _, below, meth, c, D, cy, _, hx, hb, hml, hown, hts, hE, hfl, hV⟩
def CtxS (VV : VT) (sz : Nat) (R : Room) (nL b L : Nat) (xs : Nat → Int32) (Po : Pos) : Prop :=
  ∃ (p : Program) (l : Launch) (e : Env) (s : State) (m : MethodId) (args : Array Value) (below : List Frame) (meth : Method) (c : Code) (D : va_G) (cy : Nat → ClassId) (M0 : Mem),
    p.tables.exec = Jvm.exec ∧ c.code = cL_cell ∧ c.maxLocals = nL ∧ s.vm.findClass RL = some m.cls ∧ (∀ w ∈ TW, w.before args s = true) ∧ EN D cy sz s ∧ l.flags = flags0 ∧ meth.sig.returnType = some .int ∧ meth.locks = false ∧
    VV = V p l e R s m args below meth c D cy sz (vx_MQ below (QcR D cy sz Po) (XcM D cy sz (.inl none) M0) args s 0 0 (fun q => sz ≤ q)) nL ∧ va_X b L xs s s.heap ∧ b < sz
theorem CtxS.c {VV : VT} {sz b L nL : Nat} {R : Room} {xs : Nat → Int32} {Po : Pos} (h : CtxS VV sz R nL b L xs Po) : Ctx VV sz RL cL_cell R nL := by
  obtain ⟨p, l, e, s, m, args, below, meth, c, D, cy, M0, hx, hb, hml, hown, hts, hE, hfl, -, -, hV, -⟩ := h
  exact ⟨p, l, e, s, m, args, below, meth, c, D, cy, _, hx, hb, hml, hown, hts, hE, hfl, hV⟩
section
variable {VV : VT} {sz b LL : Nat} {xs : Nat → Int32} {R : Room} {nL cells slots pc q9 : Nat} {L : List (Nat × Value)} {st rest : List Value} {M : Mem} {Po : Pos}
theorem ro_slen (h : CtxS VV sz R nL b LL xs Po) (hdg : decode cL_cell pc = .ok (.arraylength, 1)) (hq : pc + 1 = q9) (kk : VV cells slots q9 L (.int (nI LL) :: st) M) : VV cells slots pc L (.ref b :: st) M := by
  obtain ⟨p, l, e, s, m, args, below, meth, c, D, cy, M0, hx, hb, hml, hown, hts, hE, hfl, hr, hlk, rfl, hX, hbl⟩ := h
  have hz := hE.2.2.2.2.2.2
  subst hq
  intro H locs ls hl hc hP hS
  exact va_slen hx hb hX (by omega) (by omega) hS hdg (kk H locs ls hl hc hP hS)
theorem ro_sld {n : Nat} (h : CtxS VV sz R nL b LL xs Po) (hn : n < LL) (hL : LL ≤ 1536) (hdg : decode cL_cell pc = .ok (.iaload, 1)) (hq : pc + 1 = q9) (kk : VV cells slots q9 L (.int (xs n) :: st) M) : VV cells slots pc L (.int (nI n) :: .ref b :: st) M := by
  obtain ⟨p, l, e, s, m, args, below, meth, c, D, cy, M0, hx, hb, hml, hown, hts, hE, hfl, hr, hlk, rfl, hX, hbl⟩ := h
  have hz := hE.2.2.2.2.2.2
  subst hq
  intro H locs ls hl hc hP hS
  have hcl : (nI n).toNatClampNeg = n := nI_clamp (by omega)
  have k1 := kk H locs ls hl hc hP hS
  rw [← hcl] at k1
  exact va_sld hx hb hX (by omega) (by omega) hS (vp_in_n rfl hn (by omega)) hdg k1
theorem fin_cell {x : Int32} (h : CtxS VV sz R nL b LL xs Po) (hdg : decode cL_cell pc = .ok (.ireturn, 1)) (hp : Po (.int x) M) : VV 0 0 pc L [.int x] M := by
  obtain ⟨p, l, e, s, m, args, below, meth, c, D, cy, M0, hx, hb, hml, hown, hts, hE, hfl, hr, hlk, rfl, hX, hbl⟩ := h
  intro H locs ls hl hc hP hS
  refine vx_ret ?_
  exact W.iret hx hb hr (fun t ht hW => ⟨⟨.int x, M, hp, rfl, by rw [ht]; exact hP⟩, hS.F ht⟩) hS.2.2 hdg hlk
def PcC (D : va_G) (cy : Nat → ClassId) (sz b L : Nat) (xs : Nat → Int32) (As : List Value) (M : Mem) : Array Value → State → Prop := fun a U => PcM D cy sz As M a U ∧ va_X b L xs U U.heap ∧ b < sz
theorem blindC {D : va_G} {cy : Nat → ClassId} {As : List Value} : FrameBlind (PcC D cy sz b LL xs As M) := by
  intro a U g mk h
  obtain ⟨h1, h2, h3⟩ := h
  exact ⟨EN.blind a U g mk h1, va_X.moved (State.WarmedH.refl U).alike h2, h3⟩
/-- one of the script's ints, or a number made of its place -/
theorem l_cell (hL : LL ≤ 260) {k : Nat} (hk : k < 1000) (l : Launch) (D : va_G) (cy : Nat → ClassId) (hfl : l.flags = flags0) : vx_Met l I_L_cell.1 [Cond.code I_L_cell.1 I_L_cell.2.1 I_L_cell.2.2.1 I_L_cell.2.2.2.1] (roomOf I_L_cell 0 0) (PcC D cy sz b LL xs [.ref b, .int (nI k)] M) (QcR D cy sz (fun v M' => (∃ x, v = .int x) ∧ M' = M)) (XcM D cy sz (.inl none) M) 0 0 (fun q => sz ≤ q) := by
  refine vx_ofW (cc := I_L_cell.2.1) (maxL := I_L_cell.2.2.1) (ret := I_L_cell.2.2.2.1) (by decide +kernel) rfl ?_
  intro p e s m args below meth c s₁ B hml ht hv
  obtain ⟨⟨rfl, hP, hE⟩, hX, hbl⟩ := hv
  have hts : ∀ w ∈ TW, w.before ([.ref b, .int (nI k)] : List Value).toArray s = true := fun w hw => tw_warm (State.WarmedH.refl s) (List.mem_filter.mp hw).2 (hE.1 w hw)
  rw [lg_entry_eq]
  have hl := lv_entry ([.ref b, .int (nI k)]) (n := 2) (Nat.le_of_ble_eq_true rfl)
  have body : ∀ VV, CtxS VV sz (roomOf I_L_cell 0 0) 2 b LL xs (fun v M' => (∃ x, v = .int x) ∧ M' = M) → VV 0 0 0 [(0, .ref b), (1, .int (nI k))] [] M := by
    intro VV hF
    have hX := hF.c
    refine ro_iload_n (i := 1) (q := 1) hX dL_cell_0 rfl rfl rfl ?_
    refine ro_aload_n (i := 0) (q := 2) hX dL_cell_1 rfl rfl rfl ?_
    refine ro_slen (q9 := 3) hF dL_cell_2 rfl ?_
    refine ro_icmp_ge (tgt := 12) (q := 6) hX dL_cell_3 (by decide) rfl (fun _ => ?_) (fun hq => ?_)
    · refine ro_ldc (v := nI 1812433253) (q := 14) hX kc_L_7 dL_cell_12 rfl ?_
      refine ro_iload_n (i := 1) (q := 15) hX dL_cell_14 rfl rfl rfl ?_
      refine ro_sipush (v := nI 167) (q := 18) hX dL_cell_15 rfl rfl ?_
      refine ro_iadd (q := 19) hX dL_cell_18 rfl ?_
      refine ro_imul (q := 20) hX dL_cell_19 rfl ?_
      exact fin_cell hF dL_cell_20 ⟨⟨_, rfl⟩, rfl⟩
    · have hlt : k < LL := Classical.byContradiction fun z => hq (ni_le (by omega) (by omega))
      refine ro_aload_n (i := 0) (q := 7) hX dL_cell_6 rfl rfl rfl ?_
      refine ro_iload_n (i := 1) (q := 8) hX dL_cell_7 rfl rfl rfl ?_
      refine ro_sld (q9 := 9) hF hlt (by omega) dL_cell_8 rfl ?_
      refine ro_goto (tgt := 20) hX dL_cell_9 (by decide) ?_
      exact fin_cell hF dL_cell_20 ⟨⟨_, rfl⟩, rfl⟩
  exact body _ ⟨p, l, e, s, m, _, below, meth, c, D, cy, M, B.exec, B.bytes, hml, findClass_of_methodNamed B.named, hts, hE, hfl, B.returns, B.notSynchronized, rfl, hX, hbl⟩ s.heap [] _ hl (c1.two ⟨rfl, (by simp), ⟨rfl, (by simp), trivial⟩⟩) hP va_S.rf
theorem ro_cell {k : Nat} (h : CtxL VV sz b LL xs) (hL : LL ≤ 260) (hk : k < 1000) (hcat : (rest.map fun v => v.category).sum ≤ 8) (hdg : decode code pc = .ok (.invokestatic 112, 3)) (hf : cells ≤ room_1.cells ∧ slots ≤ room_1.slots) (hq : pc + 3 = q9) (kk : ∀ x, VV cells slots q9 L (.int x :: rest) M) : VV cells slots pc L (.int (nI k) :: .ref b :: rest) M := by
  obtain ⟨p, l, e, s, m, below, meth, c, D, cy, hx, hb, hml, hown, hts, hE, hfl, rfl, hX, hbl, hsz, hr, hlk⟩ := h
  subst hq
  intro H locs ls hl hc hP hS T hT X
  have run := vx_runS (e := e) (below := below) (meth := meth) (locs := locs) (As := [.ref b, .int (nI k)]) (rest := rest) (cells := cells) (slots := slots) ⟨hx, hb, hml, hown, hts⟩ (l_cell (sz := sz) (b := b) (xs := xs) (M := M) hL hk l D cy hfl) ⟨callB_tw hts mw_L_cell.1 ⟨Nat.le_of_ble_eq_true rfl, Nat.le_of_ble_eq_true rfl⟩ kl_L_112, hts _ mw_L_cell.2⟩ ⟨blindC, fun U hU hW => ⟨pre_tw hE hP hS U hU hW _, by
      rw [hU]
      exact (hX.kept (hS.2.1 b hbl (by omega))).moved hW.alike, by omega⟩⟩ (g := F0 m pc ls (.int (nI k) :: .ref b :: rest)) rfl rfl hl.1 rfl (lv_room hcat) hdg ⟨hf.1, hf.2⟩
  rcases run T hT X with ⟨v, st₀, t, T', Lc, h0, X', hLc, e1, e2, ⟨⟨v', M', ⟨⟨x, rfl⟩, rfl⟩, hv2, hP'⟩, hF⟩, stp⟩ | ⟨q, st₀, t, T', Lc, E, ce, h0, X', hLc, e1, e2, ⟨hno, -, -⟩, -⟩
  · obtain ⟨-, -, k3⟩ := vx_keep h0 e1 hS (fun q _ z => z) (fun q z => z) hLc hF
    cases hv2
    obtain ⟨t2, a1, b1⟩ := kk x T'.heap (locs ++ Lc) ls hl hc (by rw [e1]; exact hP') k3 T' rfl X'
    exact ⟨t2, stp t2 a1, b1⟩
  · cases hno
theorem fin_law (h : CtxL VV sz b LL xs) (hdg : decode code pc = .ok (.ireturn, 1)) (h1 : cells ≤ 600172) (h2 : slots ≤ 7300668) : VV cells slots pc L [.int 1] M := by
  obtain ⟨p, l, e, s, m, below, meth, c, D, cy, hx, hb, hml, hown, hts, hE, hfl, rfl, hX, hbl, hsz, hr, hlk⟩ := h
  intro H locs ls hl hc hP hS
  refine W.widen h1 h2 ?_
  refine va_forget (fun q hq => by have := hS.2.2 q hq; omega) ?_
  exact lw_ret hx hb hr hlk hdg
end
