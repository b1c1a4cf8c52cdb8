/-! a method with handlers -/
def tabH (hh : List (Nat × Nat × Nat × Nat)) : List ExceptionTableEntry := hh.map fun q => { startPc := q.1, endPc := q.2.1, handlerPc := q.2.2.1, catchType := q.2.2.2 }
def DoesH (sz : Nat) (I : MI) (hh : List (Nat × Nat × Nat × Nat)) (As : List Value) (M : Mem) (mc ms : Nat) (o : Option Int32 ⊕ String) (M' : Mem) : Prop :=
  ∀ (l : Launch) (D : va_G) (cy : Nat → ClassId), l.flags = flags0 → vx_Met l I.1 [Cond.codeWith I.1 I.2.1 I.2.2.1 I.2.2.2.1 hh] (roomOf I mc ms) (PcM D cy sz As M) (QcM D cy sz o M') (XcM D cy sz o M') mc ms (fun q => sz ≤ q)
def CtxH (VV : VT) (sz : Nat) (own : String) (cc : ByteArray) (rt : Option FieldType) (R : Room) (nL : Nat) (hh : List (Nat × Nat × Nat × Nat)) (o : Option Int32 ⊕ String) (M' : Mem) (mc ms : Nat) : Prop :=
  ∃ (p : Program) (l : Launch) (e : Env) (s : State) (m : MethodId) (args : Array Value) (below : List Frame) (meth : Method) (c : Code) (D : va_G) (cy : Nat → ClassId),
    p.tables.exec = Jvm.exec ∧ c.code = cc ∧ c.maxLocals = nL ∧ s.vm.findClass own = some m.cls ∧ (∀ w ∈ TW, w.before args s = true) ∧ EN D cy sz s ∧ l.flags = flags0 ∧ meth.sig.returnType = rt ∧ meth.locks = false ∧ c.exceptionTable.toList = tabH hh ∧
    VV = V p l e R s m args below meth c D cy sz (vx_MQ below (QcM D cy sz o M') (XcM D cy sz o M') args s mc ms (fun q => sz ≤ q)) nL
theorem CtxH.c {VV : VT} {sz : Nat} {own : String} {cc : ByteArray} {rt : Option FieldType} {R : Room} {nL : Nat} {hh : List (Nat × Nat × Nat × Nat)} {o : Option Int32 ⊕ String} {M' : Mem} {mc ms : Nat} (h : CtxH VV sz own cc rt R nL hh o M' mc ms) : Ctx VV sz own cc R nL := by
  obtain ⟨p, l, e, s, m, args, below, meth, c, D, cy, hx, hb, hml, hown, hts, hE, hfl, -, -, -, hV⟩ := h
  exact ⟨p, l, e, s, m, args, below, meth, c, D, cy, _, hx, hb, hml, hown, hts, hE, hfl, hV⟩
theorem DoesH.of {sz : Nat} {I : MI} {hh : List (Nat × Nat × Nat × Nat)} {As : List Value} {M M' : Mem} {mc ms : Nat} {o : Option Int32 ⊕ String} {L : List (Nat × Value)} (hcw : Cond.codeWith I.1 I.2.1 I.2.2.1 I.2.2.2.1 hh ∈ TW) (hy : plainName I.1.cls = true) (hmL : (lg_sl As).length ≤ I.2.2.1) (hL : lv_args 0 As = L) (hc : c1 L)
    (body : ∀ VV, CtxH VV sz I.1.cls I.2.1 I.2.2.2.1 (roomOf I mc ms) I.2.2.1 hh o M' mc ms → VV 0 0 0 L [] M) : DoesH sz I hh As M mc ms o M' := by
  intro l D cy hfl
  refine vx_ofWH (cc := I.2.1) (maxL := I.2.2.1) (ret := I.2.2.2.1) hy rfl ?_
  intro p e s m args below meth c s₁ B hml hv
  obtain ⟨rfl, hP, hE⟩ := hv
  have hts : ∀ w ∈ TW, w.before As.toArray s = true := fun w hw => tw_warm (State.WarmedH.refl s) (List.mem_filter.mp hw).2 (hE.1 w hw)
  rw [lg_entry_eq]
  have hl := lv_entry As hmL
  subst hL
  exact body _ ⟨p, l, e, s, m, As.toArray, below, meth, c, D, cy, B.exec, B.bytes, hml, findClass_of_methodNamed B.named, hts, hE, hfl, B.returns, B.notSynchronized, vx_table (x := I.1) B (hts _ hcw), rfl⟩ s.heap [] _ hl hc hP va_S.rf
section HELP
variable {VV : VT} {sz : Nat} {own : String} {cc : ByteArray} {R : Room} {nL cells slots pc mc ms n index q9 : Nat} {L : List (Nat × Value)} {st rest As : List Value} {M M' : Mem} {I : MI} {hh : List (Nat × Nat × Nat × Nat)}
theorem fin_h {x y : Int32} (h : CtxH VV sz own cc (some .int) R nL hh (.inl (some y)) M' mc ms) (h1 : cells ≤ mc) (h2 : slots ≤ ms) (hdg : decode cc pc = .ok (.ireturn, 1)) (e9 : x = y) (eM : M = M') : VV cells slots pc L [.int x] M := by
  subst e9; subst eM
  obtain ⟨p, l, e, s, m, args, below, meth, c, D, cy, hx, hb, hml, hown, hts, hE, hfl, hr, hlk, htab, rfl⟩ := h
  intro H locs ls hl hc hP hS
  refine W.widen h1 h2 (vx_ret ?_)
  exact W.iret hx hb hr (fun t ht hW => ⟨⟨some x, rfl, rfl⟩, by rw [ht]; exact hP, hS.F ht⟩) hS.2.2 hdg hlk
theorem ro_catchV {k ci : Nat} {fs : List Value} {TT : u_T} {N : Nat} {E : String} {rt : Option FieldType} {mc2 ms2 : Nat} {o : Option Int32 ⊕ String} {M2 : Mem} {pre suf : List ExceptionTableEntry} {x : ExceptionTableEntry} (h : CtxH VV sz own cc rt R nL hh o M2 mc2 ms2) (hD : Does sz I (.ref (sz + k) :: As) M mc ms (.inr E) M') (hI : MWv I n) (hl1 : Cond.methodLink own index I.1 ∈ TW) (hk : k < 80) (hcell : ∀ cy, cellOf cy sz M k = .inr (ci, fs)) (hcl : vwCl[ci]? = some (I.1.cls, TT, N)) (hn : As.length = n) (hst : st = As.reverse ++ .ref (sz + k) :: rest) (hcat : (rest.map fun v => v.category).sum ≤ 8) (hroom : fitsIn I R) (hdg : decode cc pc = .ok (.invokevirtual index, 3)) (hf : cells + mc ≤ R.cells ∧ slots + ms ≤ R.slots)
    (hsp : tabH hh = pre ++ x :: suf) (hcv9 : covers x pc = true) (h0 : x.catchType ≠ 0) (hlink : Cond.classLink own x.catchType E ∈ TW) (hcast : Cond.castable E E ∈ TW) (hpass : ∀ z ∈ pre, z.catchType ≠ 0 ∧ ∃ nm : String, Cond.classLink own z.catchType nm ∈ TW ∧ (E, nm) ∈ ncs)
    (kk : ∀ q, VV (cells + mc) (slots + ms) x.handlerPc L [.ref q] M') : VV cells slots pc L st M := by
  obtain ⟨p, l, e, s, m, args, below, meth, c, D, cy, hx, hb, hml, hown, hts, hE, hfl, hr, hlk, htab, rfl⟩ := h
  subst hst
  intro H locs ls hl hc hP hS T hT X
  have run := vx_runV (e := e) (below := below) (meth := meth) (locs := locs) (As := As) (rest := rest) (C := I.1.cls) ⟨hx, hb, hml, hown, hts⟩ (hD l D cy hfl) ⟨callB_tw hts hI.1 hroom hl1, hts _ hI.2.1, hts _ hI.2.2⟩ ⟨EN.blind, va_recv hE.2.1 hP hcl (by rw [wl_get hk, hcell cy]), fun U hU hW => pre_tw hE hP hS U hU hW _⟩ (g := F0 m pc ls (As.reverse ++ .ref (sz + k) :: rest)) rfl hn hl.1 rfl (lv_room hcat) hdg hf
  rcases run T hT X with ⟨v, st₀, t, T', Lc, h0', X', hLc, e1, e2, ⟨⟨v', hv1, hv2⟩, hP', hF⟩, stp⟩ | ⟨q, st₀, t, T', Lc, E', ce, h0', X', hLc, e1, e2, ⟨hE', hP', hF⟩, hce, hcv, hcl9, stp⟩
  · cases hv1
  · cases hE'
    obtain ⟨-, -, k3⟩ := vx_keep h0' e1 hS (fun q _ z => z) (fun q z => z) hLc hF
    have hout := vx_catch (pc := pc) (rest := rest) (H := T'.heap) (ce := ce) (E := E) (q := q) hown pre x suf (htab.trans hsp) (fun z hz => Or.inr ⟨(hpass z hz).1, (hpass z hz).2.choose, hts _ (hpass z hz).2.choose_spec.1, hE.2.2.2.1 _ (hpass z hz).2.choose_spec.2⟩) hcv9 h0 (hts _ hlink) (hts _ hcast) (by rw [e1]; exact hce) hcv hcl9 (kk q T'.heap (locs ++ Lc) ls hl hc (by rw [e1]; exact hP') k3)
    obtain ⟨t2, a1, b1⟩ := hout T' rfl X'
    exact ⟨t2, stp.trans a1, b1⟩
theorem ro_last {x : Int64} (h : Ctx VV sz own cc R nL) (hdg : decode cc pc = .ok (.lastore, 1)) (hq : pc + 1 = q9) (kk : VV cells slots q9 L st (M.1, (M.2.1, x))) : VV cells slots pc L (.long x :: .int (nI 0) :: .ref (sz + 79) :: st) M := by
  obtain ⟨p, l, e, s, m, args, below, meth, c, D, cy, Q, hx, hb, hml, hown, hts, hE, hfl, rfl⟩ := h
  subst hq
  intro H locs ls hl hc hP hS
  refine va_last (n := 1) (f := fun _ => M.2.2) hx hb hE.2.1 hP wl_D hS 79 4 (by rw [wl_get (by decide)]; rfl) rfl (vp_in_n rfl (by decide) (by decide)) hdg (fun H1 locs1 hP1 hD1 hS1 => ?_)
  refine kk H1 locs1 ls hl hc (fun k q hq => ?_) hS1
  obtain ⟨hk, rfl⟩ := wl_get' hq
  by_cases h79 : k = 79
  · subst h79
    have h1 := hP1 79 _ (by rw [List.getElem?_set_self (by simp [wl])])
    have h2 : H1[sz + 79]? = some (vp_cell (cy 4) (1, .inr (.inl (vp_updL (fun _ => M.2.2) (nI 0).toNatClampNeg x)))) := h1
    show H1[sz + 79]? = some (vp_cell (cy 4) (1, .inr (.inl (fun _ => x))))
    rw [h2, vp_cell_l, vp_cell_l]
    congr 1
  · have h1 := hP1 k (sz + k, cellOf cy sz M k) (by rw [List.getElem?_set_ne (fun e => h79 e.symm)]; exact wl_get hk)
    have hk9 : ∀ j, j < 80 → j ≠ 79 → kd j ≤ 8 := by decide +kernel
    have e3 : cellOf cy sz (M.1, (M.2.1, x)) k = cellOf cy sz M k := by
      have h9 := hk9 k hk h79
      have h8 : kd k = 0 ∨ kd k = 1 ∨ kd k = 2 ∨ kd k = 3 ∨ kd k = 4 ∨ kd k = 5 ∨ kd k = 6 ∨ kd k = 7 ∨ kd k = 8 := by omega
      rcases h8 with h | h | h | h | h | h | h | h | h <;> simp only [cellOf, h]
    rw [e3]
    exact h1
end HELP
