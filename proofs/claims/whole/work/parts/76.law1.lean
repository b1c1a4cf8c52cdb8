/-! the law's own rows: the script, the long, the helpers' calls, the end -/
def CtxL (VV : VT) (sz b L : Nat) (xs : Nat → Int32) : Prop :=
  ∃ (p : Program) (l : Launch) (e : Env) (s : State) (m : MethodId) (below : List Frame) (meth : Method) (c : Code) (D : va_G) (cy : Nat → ClassId),
    p.tables.exec = Jvm.exec ∧ c.code = code ∧ c.maxLocals = 7 ∧ s.vm.findClass RL = some m.cls ∧ (∀ w ∈ TW, w.before #[.ref b] s = true) ∧ EN D cy sz s ∧ l.flags = flags0 ∧
    VV = V p l e room_1 s m #[.ref b] below meth c D cy sz (lw_Z below #[.ref b] s) 7 ∧ va_X b L xs s s.heap ∧ b < s.heap.size ∧ sz = s.heap.size ∧ meth.sig.returnType = ret ∧ meth.locks = false
theorem CtxL.c {VV : VT} {sz b L : Nat} {xs : Nat → Int32} (h : CtxL VV sz b L xs) : Ctx VV sz RL code room_1 7 := by
  obtain ⟨p, l, e, s, m, below, meth, c, D, cy, hx, hb, hml, hown, hts, hE, hfl, hV, -⟩ := h
  exact ⟨p, l, e, s, m, _, below, meth, c, D, cy, _, hx, hb, hml, hown, hts, hE, hfl, hV⟩
section LAWROWS
variable {VV : VT} {sz b LL : Nat} {xs : Nat → Int32} {own : String} {cc : ByteArray} {R : Room} {nL cells slots pc mc ms n index q9 : Nat} {L : List (Nat × Value)} {st rest As : List Value} {M M' : Mem} {I : MI} {hh : List (Nat × Nat × Nat × Nat)}
theorem ro_slen (h : CtxL VV sz b LL xs) (hdg : decode code pc = .ok (.arraylength, 1)) (hq : pc + 1 = q9) (kk : VV cells slots q9 L (.int (nI LL) :: st) M) : VV cells slots pc L (.ref b :: st) M := by
  obtain ⟨p, l, e, s, m, below, meth, c, D, cy, hx, hb, hml, hown, hts, hE, hfl, rfl, hX, hbl, hsz, hr, hlk⟩ := h
  subst hq
  intro H locs ls hl hc hP hS
  exact va_slen hx hb hX hbl (by omega) hS hdg (kk H locs ls hl hc hP hS)
theorem ro_sld {n : Nat} {i : Int32} (h : CtxL VV sz b LL xs) (hi : i = nI n) (hn : n < LL) (hL : LL ≤ 1536) (hdg : decode code pc = .ok (.iaload, 1)) (hq : pc + 1 = q9) (kk : VV cells slots q9 L (.int (xs n) :: st) M) : VV cells slots pc L (.int i :: .ref b :: st) M := by
  obtain ⟨p, l, e, s, m, below, meth, c, D, cy, hx, hb, hml, hown, hts, hE, hfl, rfl, hX, hbl, hsz, hr, hlk⟩ := h
  subst hq
  intro H locs ls hl hc hP hS
  have hcl : i.toNatClampNeg = n := by rw [hi]; exact nI_clamp (by omega)
  have k1 := kk H locs ls hl hc hP hS
  rw [← hcl] at k1
  exact va_sld hx hb hX hbl (by omega) hS (vp_in_n hi hn (by omega)) hdg k1
theorem ro_lald (h : Ctx VV sz own cc R nL) (hdg : decode cc pc = .ok (.laload, 1)) (hq : pc + 1 = q9) (kk : VV cells slots q9 L (.long M.2.2 :: st) M) : VV cells slots pc L (.int (nI 0) :: .ref (sz + 79) :: st) M := by
  obtain ⟨p, l, e, s, m, args, below, meth, c, D, cy, Q, hx, hb, hml, hown, hts, hE, hfl, rfl⟩ := h
  subst hq
  intro H locs ls hl hc hP hS
  exact va_lald (n := 1) (f := fun _ => M.2.2) hx hb hE.2.1 hP 79 4 (by rw [wl_get (by decide)]; rfl) rfl (vp_in_n rfl (by decide) (by decide)) hdg (kk H locs ls hl hc hP hS)
def MWh (I : MI) (hh : List (Nat × Nat × Nat × Nat)) (n : Nat) : Prop := Cond.codeWith I.1 I.2.1 I.2.2.1 I.2.2.2.1 hh ∈ TW ∧ Cond.initialized I.1.cls ∈ TW ∧ (I.1.cls ≠ "java/lang/invoke/MethodHandle" ∧ I.1.cls ≠ "java/lang/invoke/VarHandle") ∧ (parseMethodDescriptor I.1.desc).map (fun d => d.parameters.length) = some n ∧ Cond.static I.1 ∈ TW
theorem ro_callSH {x : Int32} (h : Ctx VV sz own cc R nL) (hD : DoesH sz I hh As M mc ms (.inl (some x)) M') (hI : MWh I hh n) (hl1 : Cond.methodLink own index I.1 ∈ TW) (hn : As.length = n) (hst : st = As.reverse ++ rest) (hcat : (rest.map fun v => v.category).sum ≤ 8) (hroom : fitsIn I R) (hdg : decode cc pc = .ok (.invokestatic index, 3)) (hf : cells + mc ≤ R.cells ∧ slots + ms ≤ R.slots) (hq : pc + 3 = q9) (kk : VV (cells + mc) (slots + ms) q9 L (.int x :: rest) M') : VV cells slots pc L st M := by
  obtain ⟨p, l, e, s, m, args, below, meth, c, D, cy, Q, hx, hb, hml, hown, hts, hE, hfl, rfl⟩ := h
  subst hst
  subst hq
  intro H locs ls hl hc hP hS T hT X
  obtain ⟨i1, i2, i3, i4, i5⟩ := hI
  have run := vx_runSX (e := e) (below := below) (meth := meth) (locs := locs) (As := As) (rest := rest) (H := H) (cells := cells) (slots := slots) ⟨hx, hb, hml, hown, hts⟩ (hD l D cy hfl) ⟨⟨rfl, rfl, hroom.1, hroom.2, fun w hw a' U hW => by
      rw [List.mem_singleton.mp hw]
      exact tw_warm hW (List.mem_filter.mp i1).2 (hts _ i1), List.mem_cons_self⟩, hts _ i1, hts _ i2, i3, fun sig hs => by
      rw [hs] at i4
      exact (Option.some.inj i4).symm, hts _ hl1, hts _ i5⟩ ⟨EN.blind, fun U hU hW => pre_tw hE hP hS U hU hW _⟩ (g := F0 m pc ls (As.reverse ++ rest)) rfl hn hl.1 rfl (lv_room hcat) hdg hf
  rcases run T hT X with ⟨v, st₀, t, T', Lc, h0, X', hLc, e1, e2, ⟨⟨v', hv1, hv2⟩, hP', hF⟩, stp⟩ | ⟨q, st₀, t, T', Lc, E, ce, h0, X', hLc, e1, e2, ⟨hno, -, -⟩, -⟩
  · obtain ⟨-, -, k3⟩ := vx_keep h0 e1 hS (fun q _ z => z) (fun q z => z) hLc hF
    cases hv1
    cases hv2
    obtain ⟨t2, a1, b1⟩ := kk T'.heap (locs ++ Lc) ls hl hc (by rw [e1]; exact hP') k3 T' rfl X'
    exact ⟨t2, stp t2 a1, b1⟩
  · cases hno
theorem fin_law (h : CtxL VV sz b LL xs) (hdg : decode code pc = .ok (.ireturn, 1)) (h1 : cells ≤ 601024) (h2 : slots ≤ 7293034) : VV cells slots pc L [.int 1] M := by
  obtain ⟨p, l, e, s, m, below, meth, c, D, cy, hx, hb, hml, hown, hts, hE, hfl, rfl, hX, hbl, hsz, hr, hlk⟩ := h
  intro H locs ls hl hc hP hS
  refine W.widen h1 h2 ?_
  refine va_forget (fun q hq => by have := hS.2.2 q hq; omega) ?_
  exact lw_ret hx hb hr hlk hdg
end LAWROWS
