/-! a method's fact: called with As in the memory M it comes back with o, in the memory M' -/
abbrev MI : Type := MethodName × ByteArray × Nat × Option FieldType × Nat × Nat
def outV (o : Option Int32) : Option Value := o.map Value.int
def PcM (D : va_G) (cy : Nat → ClassId) (sz : Nat) (As : List Value) (M : Mem) : Array Value → State → Prop := fun a U => a = As.toArray ∧ va_P D vwCl (wl cy sz M) U.heap ∧ EN D cy sz U
def QcM (D : va_G) (cy : Nat → ClassId) (sz : Nat) (o : Option Int32 ⊕ String) (M' : Mem) : Array Value → State → Outcome → State → Prop := fun _ st oc t => (∃ v : Option Int32, o = .inl v ∧ oc = .returned (outV v)) ∧ va_P D vwCl (wl cy sz M') t.heap ∧ va_F (fun q => sz ≤ q) st t
def XcM (D : va_G) (cy : Nat → ClassId) (sz : Nat) (o : Option Int32 ⊕ String) (M' : Mem) : String → State → State → Prop := fun E st t => o = .inr E ∧ va_P D vwCl (wl cy sz M') t.heap ∧ va_F (fun q => sz ≤ q) st t
def roomOf (I : MI) (mc ms : Nat) : Room := { frames := I.2.2.2.2.1, cells := mc, slots := ms, locals := I.2.2.2.2.2 }
def Does (sz : Nat) (I : MI) (As : List Value) (M : Mem) (mc ms : Nat) (o : Option Int32 ⊕ String) (M' : Mem) : Prop :=
  ∀ (l : Launch) (D : va_G) (cy : Nat → ClassId), l.flags = flags0 → vx_Met l I.1 [Cond.code I.1 I.2.1 I.2.2.1 I.2.2.2.1] (roomOf I mc ms) (PcM D cy sz As M) (QcM D cy sz o M') (XcM D cy sz o M') mc ms (fun q => sz ≤ q)
def CtxF (VV : VT) (sz : Nat) (own : String) (cc : ByteArray) (rt : Option FieldType) (R : Room) (nL : Nat) (o : Option Int32 ⊕ String) (M' : Mem) (mc ms : Nat) : Prop :=
  ∃ (p : Program) (l : Launch) (e : Env) (s : State) (m : MethodId) (args : Array Value) (below : List Frame) (meth : Method) (c : Code) (D : va_G) (cy : Nat → ClassId),
    p.tables.exec = Jvm.exec ∧ c.code = cc ∧ c.maxLocals = nL ∧ s.vm.findClass own = some m.cls ∧ (∀ w ∈ TW, w.before args s = true) ∧ EN D cy sz s ∧ l.flags = flags0 ∧ meth.sig.returnType = rt ∧ meth.locks = false ∧ (∀ x ∈ c.exceptionTable.toList, False) ∧
    VV = V p l e R s m args below meth c D cy sz (vx_MQ below (QcM D cy sz o M') (XcM D cy sz o M') args s mc ms (fun q => sz ≤ q)) nL
theorem CtxF.c {VV : VT} {sz : Nat} {own : String} {cc : ByteArray} {rt : Option FieldType} {R : Room} {nL : Nat} {o : Option Int32 ⊕ String} {M' : Mem} {mc ms : Nat} (h : CtxF VV sz own cc rt R nL o M' mc ms) : Ctx VV sz own cc R nL := by
  obtain ⟨p, l, e, s, m, args, below, meth, c, D, cy, hx, hb, hml, hown, hts, hE, hfl, -, -, -, hV⟩ := h
  exact ⟨p, l, e, s, m, args, below, meth, c, D, cy, _, hx, hb, hml, hown, hts, hE, hfl, hV⟩
theorem EN.blind {D : va_G} {cy : Nat → ClassId} {sz : Nat} {As : List Value} {M : Mem} : FrameBlind (PcM D cy sz As M) := by
  intro a U g mk h
  obtain ⟨h1, h2, h3⟩ := h
  exact ⟨h1, h2, EN.warm (s := U) (U := U.calling g mk a) (State.WarmedH.refl U) (Nat.le_refl _) (fun _ _ _ => rfl) h3⟩
theorem Does.of {sz : Nat} {I : MI} {As : List Value} {M M' : Mem} {mc ms : Nat} {o : Option Int32 ⊕ String} {L : List (Nat × Value)} (hy : plainName I.1.cls = true) (hmL : (lg_sl As).length ≤ I.2.2.1) (hL : lv_args 0 As = L) (hc : c1 L)
    (body : ∀ VV, CtxF VV sz I.1.cls I.2.1 I.2.2.2.1 (roomOf I mc ms) I.2.2.1 o M' mc ms → VV 0 0 0 L [] M) : Does sz I As M mc ms o M' := by
  intro l D cy hfl
  refine vx_ofW (cc := I.2.1) (maxL := I.2.2.1) (ret := I.2.2.2.1) hy rfl ?_
  intro p e s m args below meth c s₁ B hml ht hv
  obtain ⟨rfl, hP, hE⟩ := hv
  have hts : ∀ w ∈ TW, w.before As.toArray s = true := fun w hw => tw_warm (State.WarmedH.refl s) (List.mem_filter.mp hw).2 (hE.1 w hw)
  rw [lg_entry_eq]
  have hl := lv_entry As hmL
  subst hL
  exact body _ ⟨p, l, e, s, m, As.toArray, below, meth, c, D, cy, B.exec, B.bytes, hml, findClass_of_methodNamed B.named, hts, hE, hfl, B.returns, B.notSynchronized, ht, rfl⟩ s.heap [] _ hl hc.two hP va_S.rf
theorem Does.M {sz : Nat} {I : MI} {As : List Value} {M M1 M' M1' : Mem} {mc ms : Nat} {o o1 : Option Int32 ⊕ String} (h : Does sz I As M mc ms o M') (e1 : M = M1) (e2 : o = o1) (e3 : M' = M1') : Does sz I As M1 mc ms o1 M1' := by
  subst e1; subst e2; subst e3; exact h
section ENDS
variable {VV : VT} {sz : Nat} {own : String} {cc : ByteArray} {R : Room} {nL cells slots pc mc ms : Nat} {L : List (Nat × Value)} {M : Mem}
theorem ro_ireturn {x : Int32} (h : CtxF VV sz own cc (some .int) R nL (.inl (some x)) M mc ms) (h1 : cells ≤ mc) (h2 : slots ≤ ms) (hdg : decode cc pc = .ok (.ireturn, 1)) : VV cells slots pc L [.int x] M := by
  obtain ⟨p, l, e, s, m, args, below, meth, c, D, cy, hx, hb, hml, hown, hts, hE, hfl, hr, hlk, htab, rfl⟩ := h
  intro H locs ls hl hc hP hS
  refine W.widen h1 h2 (vx_ret ?_)
  exact W.iret hx hb hr (fun t ht hW => ⟨⟨some x, rfl, rfl⟩, by rw [ht]; exact hP, hS.F ht⟩) hS.2.2 hdg hlk
theorem ro_zreturn {ty : FieldType} {x : Int32} (h : CtxF VV sz own cc (some ty) R nL (.inl (some x)) M mc ms) (hn : narrow ty (.int x) = .int x) (h1 : cells ≤ mc) (h2 : slots ≤ ms) (hdg : decode cc pc = .ok (.ireturn, 1)) : VV cells slots pc L [.int x] M := by
  obtain ⟨p, l, e, s, m, args, below, meth, c, D, cy, hx, hb, hml, hown, hts, hE, hfl, hr, hlk, htab, rfl⟩ := h
  intro H locs ls hl hc hP hS
  refine W.widen h1 h2 (vx_ret ?_)
  exact W.zret hx hb hr hn (fun t ht hW => ⟨⟨some x, rfl, rfl⟩, by rw [ht]; exact hP, hS.F ht⟩) hS.2.2 hdg hlk
theorem ro_return (h : CtxF VV sz own cc none R nL (.inl none) M mc ms) (h1 : cells ≤ mc) (h2 : slots ≤ ms) (hdg : decode cc pc = .ok (.return_, 1)) : VV cells slots pc L [] M := by
  obtain ⟨p, l, e, s, m, args, below, meth, c, D, cy, hx, hb, hml, hown, hts, hE, hfl, hr, hlk, htab, rfl⟩ := h
  intro H locs ls hl hc hP hS
  refine W.widen h1 h2 (vx_ret ?_)
  exact W.vret hx hb hr (fun t ht hW => ⟨⟨none, rfl, rfl⟩, by rw [ht]; exact hP, hS.F ht⟩) hS.2.2 hdg hlk
end ENDS
/-! calls -/
def MW (I : MI) (n : Nat) : Prop := Cond.code I.1 I.2.1 I.2.2.1 I.2.2.2.1 ∈ TW ∧ Cond.initialized I.1.cls ∈ TW ∧ (I.1.cls ≠ "java/lang/invoke/MethodHandle" ∧ I.1.cls ≠ "java/lang/invoke/VarHandle") ∧ (parseMethodDescriptor I.1.desc).map (fun d => d.parameters.length) = some n
def MWv (I : MI) (n : Nat) : Prop := MW I n ∧ Cond.instanceMethod I.1 ∈ TW ∧ Cond.selects I.1.cls I.1 I.1 ∈ TW
def MWs (I : MI) (n : Nat) : Prop := MW I n ∧ Cond.static I.1 ∈ TW
def fitsIn (I : MI) (R : Room) : Prop := I.2.2.2.2.1 + 1 ≤ R.frames ∧ 8 + (I.2.2.1 + 11) + I.2.2.2.2.2 ≤ R.locals
section CALLS
variable {VV : VT} {sz : Nat} {own : String} {cc : ByteArray} {R : Room} {nL cells slots pc mc ms n index q9 : Nat} {L : List (Nat × Value)} {st rest As : List Value} {M M' : Mem} {I : MI}
theorem callB_tw {s : State} {args : Array Value} (hts : ∀ w ∈ TW, w.before args s = true) (hI : MW I n) (hroom : fitsIn I R) (hl : Cond.methodLink own index I.1 ∈ TW) : CallB R s args own index I.1 I.2.1 I.2.2.1 I.2.2.2.1 [Cond.code I.1 I.2.1 I.2.2.1 I.2.2.2.1] (roomOf I mc ms) mc ms n := by
  obtain ⟨h1, h2, h3, h4⟩ := hI
  refine ⟨rfl, rfl, hroom.1, hroom.2, fun w hw a' U hW => ?_, List.mem_cons_self, hts _ h1, hts _ h2, h3, fun sig hs => ?_, hts _ hl⟩
  · rw [List.mem_singleton.mp hw]
    exact tw_warm hW (List.mem_filter.mp h1).2 (hts _ h1)
  · rw [hs] at h4
    exact (Option.some.inj h4).symm
theorem pre_tw {D : va_G} {cy : Nat → ClassId} {s : State} {H : Heap} {locs : List Loc} (hE : EN D cy sz s) (hP : va_P D vwCl (wl cy sz M) H) (hS : va_S (fun q => sz ≤ q) s.heap H locs) (U : State) (hU : U.heap = H) (hW : s.WarmedH U.vm) (As : List Value) : PcM D cy sz As M As.toArray U :=
  ⟨rfl, by rw [hU]; exact hP, EN.warm hW (by rw [hU]; exact hS.1) (by rw [hU]; exact fun q h1 h2 => hS.2.1 q h1 h2) hE⟩

theorem ro_callVi {k ci : Nat} {fs : List Value} {TT : u_T} {N : Nat} {x : Int32} (h : Ctx VV sz own cc R nL) (hD : Does sz I (.ref (sz + k) :: As) M mc ms (.inl (some x)) M') (hI : MWv I n) (hl1 : Cond.methodLink own index I.1 ∈ TW) (hk : k < 75) (hcell : ∀ cy, cellOf cy sz M k = .inr (ci, fs)) (hcl : vwCl[ci]? = some (I.1.cls, TT, N)) (hn : As.length = n) (hst : st = As.reverse ++ .ref (sz + k) :: rest) (hcat : (rest.map fun v => v.category).sum ≤ 8) (hroom : fitsIn I R) (hdg : decode cc pc = .ok (.invokevirtual index, 3)) (hf : cells + mc ≤ R.cells ∧ slots + ms ≤ R.slots) (hq : pc + 3 = q9) (kk : VV (cells + mc) (slots + ms) q9 L (.int x :: rest) M') : VV cells slots pc L st M := by
  obtain ⟨p, l, e, s, m, args, below, meth, c, D, cy, Q, hx, hb, hml, hown, hts, hE, hfl, rfl⟩ := h
  subst hst
  subst hq
  intro H locs ls hl hc hP hS T hT X
  have run := vx_runV (e := e) (below := below) (meth := meth) (locs := locs) (As := As) (rest := rest) (C := I.1.cls) ⟨hx, hb, hml, hown, hts⟩ (hD l D cy hfl) ⟨callB_tw hts hI.1 hroom hl1, hts _ hI.2.1, hts _ hI.2.2⟩ ⟨EN.blind, va_recv hE.2.1 hP hcl (by rw [wl_get hk, hcell cy]), fun U hU hW => pre_tw hE hP hS U hU hW _⟩ (g := F0 m pc ls (As.reverse ++ .ref (sz + k) :: rest)) rfl hn hl.1 rfl (lv_room hcat) hdg hf
  rcases run T hT X with ⟨v, st₀, t, T', Lc, h0, X', hLc, e1, e2, ⟨⟨v', hv1, hv2⟩, hP', hF⟩, stp⟩ | ⟨q, st₀, t, T', Lc, E, ce, h0, X', hLc, e1, e2, ⟨hno, -, -⟩, -⟩
  · obtain ⟨-, -, k3⟩ := vx_keep h0 e1 hS (fun q _ z => z) (fun q z => z) hLc hF
    cases hv1
    cases hv2
    obtain ⟨t2, a1, b1⟩ := kk T'.heap (locs ++ Lc) ls hl hc (by rw [e1]; exact hP') k3 T' rfl X'
    exact ⟨t2, stp t2 a1, b1⟩
  · cases hno
theorem ro_callVv {k ci : Nat} {fs : List Value} {TT : u_T} {N : Nat} (h : Ctx VV sz own cc R nL) (hD : Does sz I (.ref (sz + k) :: As) M mc ms (.inl none) M') (hI : MWv I n) (hl1 : Cond.methodLink own index I.1 ∈ TW) (hk : k < 75) (hcell : ∀ cy, cellOf cy sz M k = .inr (ci, fs)) (hcl : vwCl[ci]? = some (I.1.cls, TT, N)) (hn : As.length = n) (hst : st = As.reverse ++ .ref (sz + k) :: rest) (hcat : (rest.map fun v => v.category).sum ≤ 8) (hroom : fitsIn I R) (hdg : decode cc pc = .ok (.invokevirtual index, 3)) (hf : cells + mc ≤ R.cells ∧ slots + ms ≤ R.slots) (hq : pc + 3 = q9) (kk : VV (cells + mc) (slots + ms) q9 L (rest) M') : VV cells slots pc L st M := by
  obtain ⟨p, l, e, s, m, args, below, meth, c, D, cy, Q, hx, hb, hml, hown, hts, hE, hfl, rfl⟩ := h
  subst hst
  subst hq
  intro H locs ls hl hc hP hS T hT X
  have run := vx_runV (e := e) (below := below) (meth := meth) (locs := locs) (As := As) (rest := rest) (C := I.1.cls) ⟨hx, hb, hml, hown, hts⟩ (hD l D cy hfl) ⟨callB_tw hts hI.1 hroom hl1, hts _ hI.2.1, hts _ hI.2.2⟩ ⟨EN.blind, va_recv hE.2.1 hP hcl (by rw [wl_get hk, hcell cy]), fun U hU hW => pre_tw hE hP hS U hU hW _⟩ (g := F0 m pc ls (As.reverse ++ .ref (sz + k) :: rest)) rfl hn hl.1 rfl (lv_room hcat) hdg hf
  rcases run T hT X with ⟨v, st₀, t, T', Lc, h0, X', hLc, e1, e2, ⟨⟨v', hv1, hv2⟩, hP', hF⟩, stp⟩ | ⟨q, st₀, t, T', Lc, E, ce, h0, X', hLc, e1, e2, ⟨hno, -, -⟩, -⟩
  · obtain ⟨-, -, k3⟩ := vx_keep h0 e1 hS (fun q _ z => z) (fun q z => z) hLc hF
    cases hv1
    cases hv2
    obtain ⟨t2, a1, b1⟩ := kk T'.heap (locs ++ Lc) ls hl hc (by rw [e1]; exact hP') k3 T' rfl X'
    exact ⟨t2, stp t2 a1, b1⟩
  · cases hno
theorem ro_callVx {k ci : Nat} {fs : List Value} {TT : u_T} {N : Nat} {E : String} {rt : Option FieldType} {mc2 ms2 : Nat} (h : CtxF VV sz own cc rt R nL (.inr E) M' mc2 ms2) (hD : Does sz I (.ref (sz + k) :: As) M mc ms (.inr E) M') (hI : MWv I n) (hl1 : Cond.methodLink own index I.1 ∈ TW) (hk : k < 75) (hcell : ∀ cy, cellOf cy sz M k = .inr (ci, fs)) (hcl : vwCl[ci]? = some (I.1.cls, TT, N)) (hn : As.length = n) (hst : st = As.reverse ++ .ref (sz + k) :: rest) (hcat : (rest.map fun v => v.category).sum ≤ 8) (hroom : fitsIn I R) (hdg : decode cc pc = .ok (.invokevirtual index, 3)) (hf : cells + mc ≤ R.cells ∧ slots + ms ≤ R.slots) (h2 : cells + mc ≤ mc2 ∧ slots + ms ≤ ms2) : VV cells slots pc L st M := by
  obtain ⟨p, l, e, s, m, args, below, meth, c, D, cy, hx, hb, hml, hown, hts, hE, hfl, hr, hlk, htab, rfl⟩ := h
  subst hst
  intro H locs ls hl hc hP hS T hT X
  have run := vx_runV (e := e) (below := below) (meth := meth) (locs := locs) (As := As) (rest := rest) (C := I.1.cls) ⟨hx, hb, hml, hown, hts⟩ (hD l D cy hfl) ⟨callB_tw hts hI.1 hroom hl1, hts _ hI.2.1, hts _ hI.2.2⟩ ⟨EN.blind, va_recv hE.2.1 hP hcl (by rw [wl_get hk, hcell cy]), fun U hU hW => pre_tw hE hP hS U hU hW _⟩ (g := F0 m pc ls (As.reverse ++ .ref (sz + k) :: rest)) rfl hn hl.1 rfl (lv_room hcat) hdg hf
  rcases run T hT X with ⟨v, st₀, t, T', Lc, h0, X', hLc, e1, e2, ⟨⟨v', hv1, hv2⟩, hP', hF⟩, stp⟩ | ⟨q, st₀, t, T', Lc, E', ce, h0, X', hLc, e1, e2, ⟨hE', hP', hF⟩, hce, hcv, hcl9, stp⟩
  · cases hv1
  · cases hE'
    obtain ⟨-, -, k3⟩ := vx_keep h0 e1 hS (fun q _ z => z) (fun q z => z) hLc hF
    have hout : vx_W p l e R s m args below meth c T'.heap (locs ++ Lc) (cells + mc) (slots + ms) (vx_MQ below (QcM D cy sz (.inr E) M') (XcM D cy sz (.inr E) M') args s mc2 ms2 (fun q => sz ≤ q)) (F0 m pc ls rest) q := vx_out (fun x hx => (htab x hx).elim) hlk (by rw [e1]; exact hce) hcv hcl9 (fun t' ht' hA => ⟨rfl, by rw [ht', e1]; exact hP', k3.F ht'⟩) k3.2.2 h2.1 h2.2
    obtain ⟨t2, a1, b1⟩ := hout T' rfl X'
    exact ⟨t2, stp.trans a1, b1⟩
theorem ro_callSi {x : Int32} (h : Ctx VV sz own cc R nL) (hD : Does sz I As M mc ms (.inl (some x)) M') (hI : MWs I n) (hl1 : Cond.methodLink own index I.1 ∈ TW) (hn : As.length = n) (hst : st = As.reverse ++ rest) (hcat : (rest.map fun v => v.category).sum ≤ 8) (hroom : fitsIn I R) (hdg : decode cc pc = .ok (.invokestatic index, 3)) (hf : cells + mc ≤ R.cells ∧ slots + ms ≤ R.slots) (hq : pc + 3 = q9) (kk : VV (cells + mc) (slots + ms) q9 L (.int x :: rest) M') : VV cells slots pc L st M := by
  obtain ⟨p, l, e, s, m, args, below, meth, c, D, cy, Q, hx, hb, hml, hown, hts, hE, hfl, rfl⟩ := h
  subst hst
  subst hq
  intro H locs ls hl hc hP hS T hT X
  have run := vx_runS (e := e) (below := below) (meth := meth) (locs := locs) (As := As) (rest := rest) ⟨hx, hb, hml, hown, hts⟩ (hD l D cy hfl) ⟨callB_tw hts hI.1 hroom hl1, hts _ hI.2⟩ ⟨EN.blind, fun U hU hW => pre_tw hE hP hS U hU hW _⟩ (g := F0 m pc ls (As.reverse ++ rest)) rfl hn hl.1 rfl (lv_room hcat) hdg hf
  rcases run T hT X with ⟨v, st₀, t, T', Lc, h0, X', hLc, e1, e2, ⟨⟨v', hv1, hv2⟩, hP', hF⟩, stp⟩ | ⟨q, st₀, t, T', Lc, E, ce, h0, X', hLc, e1, e2, ⟨hno, -, -⟩, -⟩
  · obtain ⟨-, -, k3⟩ := vx_keep h0 e1 hS (fun q _ z => z) (fun q z => z) hLc hF
    cases hv1
    cases hv2
    obtain ⟨t2, a1, b1⟩ := kk T'.heap (locs ++ Lc) ls hl hc (by rw [e1]; exact hP') k3 T' rfl X'
    exact ⟨t2, stp t2 a1, b1⟩
  · cases hno
theorem ro_callSv (h : Ctx VV sz own cc R nL) (hD : Does sz I As M mc ms (.inl none) M') (hI : MWs I n) (hl1 : Cond.methodLink own index I.1 ∈ TW) (hn : As.length = n) (hst : st = As.reverse ++ rest) (hcat : (rest.map fun v => v.category).sum ≤ 8) (hroom : fitsIn I R) (hdg : decode cc pc = .ok (.invokestatic index, 3)) (hf : cells + mc ≤ R.cells ∧ slots + ms ≤ R.slots) (hq : pc + 3 = q9) (kk : VV (cells + mc) (slots + ms) q9 L (rest) M') : VV cells slots pc L st M := by
  obtain ⟨p, l, e, s, m, args, below, meth, c, D, cy, Q, hx, hb, hml, hown, hts, hE, hfl, rfl⟩ := h
  subst hst
  subst hq
  intro H locs ls hl hc hP hS T hT X
  have run := vx_runS (e := e) (below := below) (meth := meth) (locs := locs) (As := As) (rest := rest) ⟨hx, hb, hml, hown, hts⟩ (hD l D cy hfl) ⟨callB_tw hts hI.1 hroom hl1, hts _ hI.2⟩ ⟨EN.blind, fun U hU hW => pre_tw hE hP hS U hU hW _⟩ (g := F0 m pc ls (As.reverse ++ rest)) rfl hn hl.1 rfl (lv_room hcat) hdg hf
  rcases run T hT X with ⟨v, st₀, t, T', Lc, h0, X', hLc, e1, e2, ⟨⟨v', hv1, hv2⟩, hP', hF⟩, stp⟩ | ⟨q, st₀, t, T', Lc, E, ce, h0, X', hLc, e1, e2, ⟨hno, -, -⟩, -⟩
  · obtain ⟨-, -, k3⟩ := vx_keep h0 e1 hS (fun q _ z => z) (fun q z => z) hLc hF
    cases hv1
    cases hv2
    obtain ⟨t2, a1, b1⟩ := kk T'.heap (locs ++ Lc) ls hl hc (by rw [e1]; exact hP') k3 T' rfl X'
    exact ⟨t2, stp t2 a1, b1⟩
  · cases hno
theorem ro_callSx {E : String} {rt : Option FieldType} {mc2 ms2 : Nat} (h : CtxF VV sz own cc rt R nL (.inr E) M' mc2 ms2) (hD : Does sz I As M mc ms (.inr E) M') (hI : MWs I n) (hl1 : Cond.methodLink own index I.1 ∈ TW) (hn : As.length = n) (hst : st = As.reverse ++ rest) (hcat : (rest.map fun v => v.category).sum ≤ 8) (hroom : fitsIn I R) (hdg : decode cc pc = .ok (.invokestatic index, 3)) (hf : cells + mc ≤ R.cells ∧ slots + ms ≤ R.slots) (h2 : cells + mc ≤ mc2 ∧ slots + ms ≤ ms2) : VV cells slots pc L st M := by
  obtain ⟨p, l, e, s, m, args, below, meth, c, D, cy, hx, hb, hml, hown, hts, hE, hfl, hr, hlk, htab, rfl⟩ := h
  subst hst
  intro H locs ls hl hc hP hS T hT X
  have run := vx_runS (e := e) (below := below) (meth := meth) (locs := locs) (As := As) (rest := rest) ⟨hx, hb, hml, hown, hts⟩ (hD l D cy hfl) ⟨callB_tw hts hI.1 hroom hl1, hts _ hI.2⟩ ⟨EN.blind, fun U hU hW => pre_tw hE hP hS U hU hW _⟩ (g := F0 m pc ls (As.reverse ++ rest)) rfl hn hl.1 rfl (lv_room hcat) hdg hf
  rcases run T hT X with ⟨v, st₀, t, T', Lc, h0, X', hLc, e1, e2, ⟨⟨v', hv1, hv2⟩, hP', hF⟩, stp⟩ | ⟨q, st₀, t, T', Lc, E', ce, h0, X', hLc, e1, e2, ⟨hE', hP', hF⟩, hce, hcv, hcl9, stp⟩
  · cases hv1
  · cases hE'
    obtain ⟨-, -, k3⟩ := vx_keep h0 e1 hS (fun q _ z => z) (fun q z => z) hLc hF
    have hout : vx_W p l e R s m args below meth c T'.heap (locs ++ Lc) (cells + mc) (slots + ms) (vx_MQ below (QcM D cy sz (.inr E) M') (XcM D cy sz (.inr E) M') args s mc2 ms2 (fun q => sz ≤ q)) (F0 m pc ls rest) q := vx_out (fun x hx => (htab x hx).elim) hlk (by rw [e1]; exact hce) hcv hcl9 (fun t' ht' hA => ⟨rfl, by rw [ht', e1]; exact hP', k3.F ht'⟩) k3.2.2 h2.1 h2.2
    obtain ⟨t2, a1, b1⟩ := hout T' rfl X'
    exact ⟨t2, stp.trans a1, b1⟩
theorem ro_callSNi {host : String} {x : Int32} (h : Ctx VV sz own cc R nL) (hD : Does sz I As M mc ms (.inl (some x)) M') (hI : MWs I n) (hl1 : Cond.methodLinkNest own index I.1 host ∈ TW) (hn : As.length = n) (hst : st = As.reverse ++ rest) (hcat : (rest.map fun v => v.category).sum ≤ 8) (hroom : fitsIn I R) (hdg : decode cc pc = .ok (.invokestatic index, 3)) (hf : cells + mc ≤ R.cells ∧ slots + ms ≤ R.slots) (hq : pc + 3 = q9) (kk : VV (cells + mc) (slots + ms) q9 L (.int x :: rest) M') : VV cells slots pc L st M := by
  obtain ⟨p, l, e, s, m, args, below, meth, c, D, cy, Q, hx, hb, hml, hown, hts, hE, hfl, rfl⟩ := h
  subst hst
  subst hq
  intro H locs ls hl hc hP hS T hT X
  have hB : va_CN R s args own index I.1 host I.2.1 I.2.2.1 I.2.2.2.1 [Cond.code I.1 I.2.1 I.2.2.1 I.2.2.2.1] (roomOf I mc ms) mc ms n := by
    obtain ⟨⟨h1, h2, h3, h4⟩, h5⟩ := hI
    refine ⟨⟨rfl, rfl, hroom.1, hroom.2, fun w hw a' U hW => ?_, List.mem_cons_self⟩, hts _ h1, hts _ h2, h3, fun sig hs => ?_, hts _ hl1⟩
    · rw [List.mem_singleton.mp hw]
      exact tw_warm hW (List.mem_filter.mp h1).2 (hts _ h1)
    · rw [hs] at h4
      exact (Option.some.inj h4).symm
  have run := vx_runSN (e := e) (below := below) (meth := meth) (locs := locs) (As := As) (rest := rest) ⟨hx, hb, hml, hown, hts⟩ (hD l D cy hfl) ⟨hB, hts _ hI.2, trivial⟩ ⟨EN.blind, fun U hU hW => pre_tw hE hP hS U hU hW _⟩ (g := F0 m pc ls (As.reverse ++ rest)) rfl hn hl.1 rfl (lv_room hcat) hdg hf
  rcases run T hT X with ⟨v, st₀, t, T', Lc, h0, X', hLc, e1, e2, ⟨⟨v', hv1, hv2⟩, hP', hF⟩, stp⟩ | ⟨q, st₀, t, T', Lc, E, ce, h0, X', hLc, e1, e2, ⟨hno, -, -⟩, -⟩
  · obtain ⟨-, -, k3⟩ := vx_keep h0 e1 hS (fun q _ z => z) (fun q z => z) hLc hF
    cases hv1
    cases hv2
    obtain ⟨t2, a1, b1⟩ := kk T'.heap (locs ++ Lc) ls hl hc (by rw [e1]; exact hP') k3 T' rfl X'
    exact ⟨t2, stp t2 a1, b1⟩
  · cases hno
theorem ro_callSNv {host : String} (h : Ctx VV sz own cc R nL) (hD : Does sz I As M mc ms (.inl none) M') (hI : MWs I n) (hl1 : Cond.methodLinkNest own index I.1 host ∈ TW) (hn : As.length = n) (hst : st = As.reverse ++ rest) (hcat : (rest.map fun v => v.category).sum ≤ 8) (hroom : fitsIn I R) (hdg : decode cc pc = .ok (.invokestatic index, 3)) (hf : cells + mc ≤ R.cells ∧ slots + ms ≤ R.slots) (hq : pc + 3 = q9) (kk : VV (cells + mc) (slots + ms) q9 L (rest) M') : VV cells slots pc L st M := by
  obtain ⟨p, l, e, s, m, args, below, meth, c, D, cy, Q, hx, hb, hml, hown, hts, hE, hfl, rfl⟩ := h
  subst hst
  subst hq
  intro H locs ls hl hc hP hS T hT X
  have hB : va_CN R s args own index I.1 host I.2.1 I.2.2.1 I.2.2.2.1 [Cond.code I.1 I.2.1 I.2.2.1 I.2.2.2.1] (roomOf I mc ms) mc ms n := by
    obtain ⟨⟨h1, h2, h3, h4⟩, h5⟩ := hI
    refine ⟨⟨rfl, rfl, hroom.1, hroom.2, fun w hw a' U hW => ?_, List.mem_cons_self⟩, hts _ h1, hts _ h2, h3, fun sig hs => ?_, hts _ hl1⟩
    · rw [List.mem_singleton.mp hw]
      exact tw_warm hW (List.mem_filter.mp h1).2 (hts _ h1)
    · rw [hs] at h4
      exact (Option.some.inj h4).symm
  have run := vx_runSN (e := e) (below := below) (meth := meth) (locs := locs) (As := As) (rest := rest) ⟨hx, hb, hml, hown, hts⟩ (hD l D cy hfl) ⟨hB, hts _ hI.2, trivial⟩ ⟨EN.blind, fun U hU hW => pre_tw hE hP hS U hU hW _⟩ (g := F0 m pc ls (As.reverse ++ rest)) rfl hn hl.1 rfl (lv_room hcat) hdg hf
  rcases run T hT X with ⟨v, st₀, t, T', Lc, h0, X', hLc, e1, e2, ⟨⟨v', hv1, hv2⟩, hP', hF⟩, stp⟩ | ⟨q, st₀, t, T', Lc, E, ce, h0, X', hLc, e1, e2, ⟨hno, -, -⟩, -⟩
  · obtain ⟨-, -, k3⟩ := vx_keep h0 e1 hS (fun q _ z => z) (fun q z => z) hLc hF
    cases hv1
    cases hv2
    obtain ⟨t2, a1, b1⟩ := kk T'.heap (locs ++ Lc) ls hl hc (by rw [e1]; exact hP') k3 T' rfl X'
    exact ⟨t2, stp t2 a1, b1⟩
  · cases hno
end CALLS
