/-! a method's fact with a saying of what it answers and of the memory that it leaves -/
theorem kd_L_9 : Cond.constantLong RL 9 41 ∈ TW := tw_in (List.mem_of_getElem? (i := 363) (by decide +kernel)) (by decide +kernel)
theorem kd_L_17 : Cond.constantLong RL 17 31 ∈ TW := tw_in (List.mem_of_getElem? (i := 364) (by decide +kernel)) (by decide +kernel)
theorem kd_L_45 : Cond.constantLong RL 45 3 ∈ TW := tw_in (List.mem_of_getElem? (i := 419) (by decide +kernel)) (by decide +kernel)
abbrev Pos : Type := Value → Mem → Prop
def QcR (D : va_G) (cy : Nat → ClassId) (sz : Nat) (Po : Pos) : Array Value → State → Outcome → State → Prop := fun _ st oc t => (∃ v M', Po v M' ∧ oc = .returned (some v) ∧ va_P D vwCl (wl cy sz M') t.heap) ∧ va_F (fun q => sz ≤ q) st t
def DoesR (sz : Nat) (I : MI) (As : List Value) (M : Mem) (Po : Pos) : Prop :=
  ∀ (l : Launch) (D : va_G) (cy : Nat → ClassId), l.flags = flags0 → vx_Met l I.1 [Cond.code I.1 I.2.1 I.2.2.1 I.2.2.2.1] (roomOf I 0 0) (PcM D cy sz As M) (QcR D cy sz Po) (XcM D cy sz (.inl none) M) 0 0 (fun q => sz ≤ q)
def CtxR (VV : VT) (sz : Nat) (own : String) (cc : ByteArray) (rt : Option FieldType) (R : Room) (nL : Nat) (Po : Pos) : Prop :=
  ∃ (p : Program) (l : Launch) (e : Env) (s : State) (m : MethodId) (args : Array Value) (below : List Frame) (meth : Method) (c : Code) (D : va_G) (cy : Nat → ClassId) (M0 : Mem),
    p.tables.exec = Jvm.exec ∧ c.code = cc ∧ c.maxLocals = nL ∧ s.vm.findClass own = some m.cls ∧ (∀ w ∈ TW, w.before args s = true) ∧ EN D cy sz s ∧ l.flags = flags0 ∧ meth.sig.returnType = rt ∧ meth.locks = false ∧
    VV = V p l e R s m args below meth c D cy sz (vx_MQ below (QcR D cy sz Po) (XcM D cy sz (.inl none) M0) args s 0 0 (fun q => sz ≤ q)) nL
theorem CtxR.c {VV : VT} {sz : Nat} {own : String} {cc : ByteArray} {rt : Option FieldType} {R : Room} {nL : Nat} {Po : Pos} (h : CtxR VV sz own cc rt R nL Po) : Ctx VV sz own cc R nL := by
  obtain ⟨p, l, e, s, m, args, below, meth, c, D, cy, M0, hx, hb, hml, hown, hts, hE, hfl, -, -, hV⟩ := h
  exact ⟨p, l, e, s, m, args, below, meth, c, D, cy, _, hx, hb, hml, hown, hts, hE, hfl, hV⟩
theorem DoesR.of {sz : Nat} {I : MI} {As : List Value} {M : Mem} {Po : Pos} {L : List (Nat × Value)} (hy : plainName I.1.cls = true) (hmL : (lg_sl As).length ≤ I.2.2.1) (hL : lv_args 0 As = L) (hc : c1 L)
    (body : ∀ VV, CtxR VV sz I.1.cls I.2.1 I.2.2.2.1 (roomOf I 0 0) I.2.2.1 Po → VV 0 0 0 L [] M) : DoesR sz I As M Po := by
  intro l D cy hfl
  refine vx_ofW (cc := I.2.1) (maxL := I.2.2.1) (ret := I.2.2.2.1) hy rfl ?_
  intro p e s m args below meth c s₁ B hml ht hv
  obtain ⟨rfl, hP, hE⟩ := hv
  have hts : ∀ w ∈ TW, w.before As.toArray s = true := fun w hw => tw_warm (State.WarmedH.refl s) (List.mem_filter.mp hw).2 (hE.1 w hw)
  rw [lg_entry_eq]
  have hl := lv_entry As hmL
  subst hL
  exact body _ ⟨p, l, e, s, m, As.toArray, below, meth, c, D, cy, M, B.exec, B.bytes, hml, findClass_of_methodNamed B.named, hts, hE, hfl, B.returns, B.notSynchronized, rfl⟩ s.heap [] _ hl hc.two hP va_S.rf
theorem Does.r {sz : Nat} {I : MI} {As : List Value} {M M' : Mem} {x : Int32} {Po : Pos} (h : Does sz I As M 0 0 (.inl (some x)) M') (hp : Po (.int x) M') : DoesR sz I As M Po := by
  intro l D cy hfl p e ha hc hk s m args below hf hap hpre hx
  obtain ⟨k, o, h1, h2, h3, h4⟩ := h l D cy hfl p e ha hc hk s m args below hf hap hpre hx
  refine ⟨k, o, h1, h2, h3, ?_⟩
  rcases h4 with ⟨⟨⟨v, hv1, hv2⟩, hP, hF⟩, h5⟩ | ⟨q, e1, E, ce, L, ⟨e2, -⟩, -⟩
  · cases hv1
    exact Or.inl ⟨⟨⟨.int x, M', hp, hv2, hP⟩, hF⟩, h5⟩
  · cases e2
theorem DoesR.mono {sz : Nat} {I : MI} {As : List Value} {M : Mem} {Po Po' : Pos} (h : DoesR sz I As M Po) (hp : ∀ v M', Po v M' → Po' v M') : DoesR sz I As M Po' := by
  intro l D cy hfl p e ha hc hk s m args below hf hap hpre hx
  obtain ⟨k, o, h1, h2, h3, h4⟩ := h l D cy hfl p e ha hc hk s m args below hf hap hpre hx
  refine ⟨k, o, h1, h2, h3, ?_⟩
  rcases h4 with ⟨⟨⟨v, M', q1, q2⟩, hF⟩, h5⟩ | ⟨q, e1, E, ce, L, ⟨e2, -⟩, -⟩
  · exact Or.inl ⟨⟨⟨v, M', hp v M' q1, q2⟩, hF⟩, h5⟩
  · cases e2
section
variable {VV : VT} {sz : Nat} {own : String} {cc : ByteArray} {R : Room} {nL cells slots pc n index q9 : Nat} {L : List (Nat × Value)} {st rest As : List Value} {M M' : Mem} {I : MI} {Po Po' : Pos}
theorem fin_zR {x : Int32} (h : CtxR VV sz own cc (some .boolean) R nL Po) (hdg : decode cc pc = .ok (.ireturn, 1)) (hn : narrow .boolean (.int x) = .int x) (hp : Po (.int x) M) : VV 0 0 pc L [.int x] M := by
  obtain ⟨p, l, e, s, m, args, below, meth, c, D, cy, M0, hx, hb, hml, hown, hts, hE, hfl, hr, hlk, rfl⟩ := h
  intro H locs ls hl hc hP hS
  refine vx_ret ?_
  exact W.zret hx hb hr hn (fun t ht hW => ⟨⟨.int x, M, hp, rfl, by rw [ht]; exact hP⟩, hS.F ht⟩) hS.2.2 hdg hlk
theorem fin_lR {x : Int64} (h : CtxR VV sz own cc (some .long) R nL Po) (hdg : decode cc pc = .ok (.lreturn, 1)) (hp : Po (.long x) M) : VV 0 0 pc L [.long x] M := by
  obtain ⟨p, l, e, s, m, args, below, meth, c, D, cy, M0, hx, hb, hml, hown, hts, hE, hfl, hr, hlk, rfl⟩ := h
  intro H locs ls hl hc hP hS
  refine vx_ret ?_
  exact W.lret hx hb hr (fun t ht hW => ⟨⟨.long x, M, hp, rfl, by rw [ht]; exact hP⟩, hS.F ht⟩) hS.2.2 hdg hlk
theorem ro_callSR (h : Ctx VV sz own cc R nL) (hD : DoesR sz I As M Po') (hI : MWs I n) (hl1 : Cond.methodLink own index I.1 ∈ TW) (hn : As.length = n) (hst : st = As.reverse ++ rest) (hcat : (rest.map fun v => v.category).sum ≤ 8) (hroom : fitsIn I R) (hdg : decode cc pc = .ok (.invokestatic index, 3)) (hf : cells ≤ R.cells ∧ slots ≤ R.slots) (hq : pc + 3 = q9) (kk : ∀ v M', Po' v M' → VV cells slots q9 L (v :: rest) M') : VV cells slots pc L st M := by
  obtain ⟨p, l, e, s, m, args, below, meth, c, D, cy, Q, hx, hb, hml, hown, hts, hE, hfl, rfl⟩ := h
  subst hst
  subst hq
  intro H locs ls hl hc hP hS T hT X
  have run := vx_runS (e := e) (below := below) (meth := meth) (locs := locs) (As := As) (rest := rest) (cells := cells) (slots := slots) ⟨hx, hb, hml, hown, hts⟩ (hD l D cy hfl) ⟨callB_tw hts hI.1 hroom hl1, hts _ hI.2⟩ ⟨EN.blind, fun U hU hW => pre_tw hE hP hS U hU hW _⟩ (g := F0 m pc ls (As.reverse ++ rest)) rfl hn hl.1 rfl (lv_room hcat) hdg ⟨hf.1, hf.2⟩
  rcases run T hT X with ⟨v, st₀, t, T', Lc, h0, X', hLc, e1, e2, ⟨⟨v', M', hv1, hv2, hP'⟩, hF⟩, stp⟩ | ⟨q, st₀, t, T', Lc, E, ce, h0, X', hLc, e1, e2, ⟨hno, -, -⟩, -⟩
  · obtain ⟨-, -, k3⟩ := vx_keep h0 e1 hS (fun q _ z => z) (fun q z => z) hLc hF
    cases hv2
    obtain ⟨t2, a1, b1⟩ := kk v' M' hv1 T'.heap (locs ++ Lc) ls hl hc (by rw [e1]; exact hP') k3 T' rfl X'
    exact ⟨t2, stp t2 a1, b1⟩
  · cases hno
end
