/-! a world that grows: w k is what the cell sz + k holds, for k below N, and the heap ends there -/
def wlN (sz : Nat) (w : Nat → va_E) (N : Nat) : va_W := (List.range N).map fun k => (sz + k, w k)
theorem wlN_get {sz N k : Nat} {w : Nat → va_E} (hk : k < N) : (wlN sz w N)[k]? = some (sz + k, w k) := by
  simp [wlN, hk]
theorem wlN_get' {sz N k : Nat} {w : Nat → va_E} {q : Nat × va_E} (h : (wlN sz w N)[k]? = some q) : k < N ∧ q = (sz + k, w k) := by
  have hk : k < N := by
    have := (List.getElem?_eq_some_iff.mp h).1
    simpa [wlN] using this
  rw [wlN_get hk] at h
  exact ⟨hk, (Option.some.inj h).symm⟩
theorem wlN_D {sz N : Nat} {w : Nat → va_E} : va_D (fun q => sz ≤ q) (wlN sz w N) := by
  refine ⟨fun i j p q hp hq e => ?_, fun k q hq => ?_⟩
  · obtain ⟨-, rfl⟩ := wlN_get' hp
    obtain ⟨-, rfl⟩ := wlN_get' hq
    have e2 : sz + i = sz + j := e
    omega
  · obtain ⟨-, rfl⟩ := wlN_get' hq
    show sz ≤ sz + k
    omega
theorem wlN_set {sz N k : Nat} {w : Nat → va_E} {e : va_E} : (wlN sz w N).set k (sz + k, e) = wlN sz (fun j => if j = k then e else w j) N := by
  apply List.ext_getElem?
  intro j
  by_cases hj : j < N
  · rw [wlN_get hj]
    by_cases hk : k = j
    · subst hk
      rw [List.getElem?_set_self (by simp [wlN]; exact hj), if_pos rfl]
    · rw [List.getElem?_set_ne hk, wlN_get hj, if_neg (Ne.symm hk)]
  · rw [List.getElem?_eq_none (by simp [wlN]; omega), List.getElem?_eq_none (by simp [wlN]; omega)]
theorem wlN_app {sz N : Nat} {w : Nat → va_E} {e : va_E} : wlN sz w N ++ [(sz + N, e)] = wlN sz (fun j => if j = N then e else w j) (N + 1) := by
  apply List.ext_getElem?
  intro j
  have hl : (wlN sz w N).length = N := by simp [wlN]
  by_cases hj : j < N
  · rw [List.getElem?_append_left (by omega), wlN_get hj, wlN_get (by omega), if_neg (by omega)]
  · by_cases e1 : j = N
    · subst e1
      rw [List.getElem?_append_right (by omega), wlN_get (by omega), if_pos rfl, hl, Nat.sub_self]
      rfl
    · rw [List.getElem?_eq_none (by simp [wlN]; omega), List.getElem?_eq_none (by simp [wlN]; omega)]
theorem wlN_cong {sz N : Nat} {w w' : Nat → va_E} (h : ∀ k, k < N → w k = w' k) : wlN sz w N = wlN sz w' N := by
  apply List.ext_getElem?
  intro j
  by_cases hj : j < N
  · rw [wlN_get hj, wlN_get hj, h j hj]
  · rw [List.getElem?_eq_none (by simp [wlN]; omega), List.getElem?_eq_none (by simp [wlN]; omega)]
abbrev VTN : Type := Nat → Nat → Nat → List (Nat × Value) → List Value → (Nat → va_E) → Nat → Prop
def VN (p : Program) (l : Launch) (e : Env) (R : Room) (s : State) (m : MethodId) (args : Array Value) (below : List Frame) (meth : Method) (c : Code) (D : va_G) (sz : Nat) (Q : State → Prop) (nL : Nat) : VTN := fun cells slots pc L st w N =>
  ∀ (H : Heap) (locs : List Loc) (ls : Array Slot), lv_has ls nL L → c1 L → va_P D vwCl (wlN sz w N) H → H.size = sz + N → va_S (fun q => sz ≤ q) s.heap H locs → W p l e R s m args below meth c H locs cells slots Q (F0 m pc ls st)
def CtxN (VV : VTN) (D : va_G) (cy : Nat → ClassId) (sz : Nat) (own : String) (cc : ByteArray) (R : Room) (nL : Nat) (ini : Bool) : Prop :=
  ∃ (p : Program) (l : Launch) (e : Env) (s : State) (m : MethodId) (args : Array Value) (below : List Frame) (meth : Method) (c : Code) (Q : State → Prop),
    p.tables.exec = Jvm.exec ∧ c.code = cc ∧ c.maxLocals = nL ∧ s.vm.findClass own = some m.cls ∧ (∀ w ∈ TW, w.before args s = true) ∧ EN D cy sz s ∧ (Cond.arrayOver (.object RX1)).before args s = true ∧ l.flags = flags0 ∧ (ini = true → meth.name = "<init>") ∧ VV = VN p l e R s m args below meth c D sz Q nL
section GROW
variable {VV : VTN} {D : va_G} {cy : Nat → ClassId} {sz : Nat} {own : String} {cc : ByteArray} {R : Room} {nL cells slots pc q9 : Nat} {ini : Bool} {L : List (Nat × Value)} {st : List Value} {w w' : Nat → va_E} {Nw : Nat}
theorem un_cong (h : CtxN VV D cy sz own cc R nL ini) (he : ∀ k, k < Nw → w k = w' k) (kk : VV cells slots pc L st w' Nw) : VV cells slots pc L st w Nw := by
  obtain ⟨p, l, e, s, m, args, below, meth, c, Q, hx, hb, hml, hown, hts, hE, hov, hfl, hini, rfl⟩ := h
  intro H locs ls hl hc hP hz hS
  rw [wlN_cong he] at hP
  exact kk H locs ls hl hc hP hz hS
theorem un_top {x y : Value} (h : CtxN VV D cy sz own cc R nL ini) (e : x = y) (kk : VV cells slots pc L (y :: st) w Nw) : VV cells slots pc L (x :: st) w Nw := by rw [e]; exact kk
theorem un_loc {L' : List (Nat × Value)} (h : CtxN VV D cy sz own cc R nL ini) (e : L = L') (kk : VV cells slots pc L' st w Nw) : VV cells slots pc L st w Nw := by rw [e]; exact kk
theorem un_wid {c9 s9 : Nat} (h : CtxN VV D cy sz own cc R nL ini) (h1 : cells = c9) (h2 : slots = s9) (kk : VV c9 s9 pc L st w Nw) : VV cells slots pc L st w Nw := by rw [h1, h2]; exact kk
theorem un_iconst {n : Int} {v : Int32} {q : Nat} (h : CtxN VV D cy sz own cc R nL ini) (hdg : decode cc pc = .ok (.iconst n, 1)) (hv : Int32.ofInt n = v) (hq : pc + 1 = q) (kk : VV cells slots q L (.int v :: st) w Nw) : VV cells slots pc L st w Nw := by
  obtain ⟨p, l, e, s, m, args, below, meth, c, Q, hx, hb, hml, hown, hts, hE, hov, hfl, hini, rfl⟩ := h
  subst hq
  intro H locs ls hl hc hP hz hS
  exact lv_iconst hx hb hdg hv (kk H locs ls hl hc hP hz hS)
theorem un_bipush {n : Int} {v : Int32} {q : Nat} (h : CtxN VV D cy sz own cc R nL ini) (hdg : decode cc pc = .ok (.bipush n, 2)) (hv : (Int8.ofInt n).toInt32 = v) (hq : pc + 2 = q) (kk : VV cells slots q L (.int v :: st) w Nw) : VV cells slots pc L st w Nw := by
  obtain ⟨p, l, e, s, m, args, below, meth, c, Q, hx, hb, hml, hown, hts, hE, hov, hfl, hini, rfl⟩ := h
  subst hq
  intro H locs ls hl hc hP hz hS
  exact lv_bipush hx hb hdg hv (kk H locs ls hl hc hP hz hS)
theorem un_sipush {n : Int} {v : Int32} {q : Nat} (h : CtxN VV D cy sz own cc R nL ini) (hdg : decode cc pc = .ok (.sipush n, 3)) (hv : (Int16.ofInt n).toInt32 = v) (hq : pc + 3 = q) (kk : VV cells slots q L (.int v :: st) w Nw) : VV cells slots pc L st w Nw := by
  obtain ⟨p, l, e, s, m, args, below, meth, c, Q, hx, hb, hml, hown, hts, hE, hov, hfl, hini, rfl⟩ := h
  subst hq
  intro H locs ls hl hc hP hz hS
  exact lv_sipush hx hb hdg hv (kk H locs ls hl hc hP hz hS)
theorem un_iload_n {k : Fin 4} {i : Nat} {x : Int32} {q : Nat} (h : CtxN VV D cy sz own cc R nL ini) (hdg : decode cc pc = .ok (.iload_n k, 1)) (hi : (k : Nat) = i) (hL : getL L i = some (.int x)) (hq : pc + 1 = q) (kk : VV cells slots q L (.int x :: st) w Nw) : VV cells slots pc L st w Nw := by
  obtain ⟨p, l, e, s, m, args, below, meth, c, Q, hx, hb, hml, hown, hts, hE, hov, hfl, hini, rfl⟩ := h
  subst hq
  intro H locs ls hl hc hP hz hS
  exact lv_iload_n hx hb hdg hi (hl.2.2 _ (getL_mem hL)) (kk H locs ls hl hc hP hz hS)
theorem un_iload {i : Nat} {x : Int32} {q : Nat} (h : CtxN VV D cy sz own cc R nL ini) (hdg : decode cc pc = .ok (.iload i, 2)) (hL : getL L i = some (.int x)) (hq : pc + 2 = q) (kk : VV cells slots q L (.int x :: st) w Nw) : VV cells slots pc L st w Nw := by
  obtain ⟨p, l, e, s, m, args, below, meth, c, Q, hx, hb, hml, hown, hts, hE, hov, hfl, hini, rfl⟩ := h
  subst hq
  intro H locs ls hl hc hP hz hS
  exact lv_iload hx hb hdg (hl.2.2 _ (getL_mem hL)) (kk H locs ls hl hc hP hz hS)
theorem un_aload_n {k : Fin 4} {i : Nat} {x : Nat} {q : Nat} (h : CtxN VV D cy sz own cc R nL ini) (hdg : decode cc pc = .ok (.aload_n k, 1)) (hi : (k : Nat) = i) (hL : getL L i = some (.ref x)) (hq : pc + 1 = q) (kk : VV cells slots q L (.ref x :: st) w Nw) : VV cells slots pc L st w Nw := by
  obtain ⟨p, l, e, s, m, args, below, meth, c, Q, hx, hb, hml, hown, hts, hE, hov, hfl, hini, rfl⟩ := h
  subst hq
  intro H locs ls hl hc hP hz hS
  exact lv_aload_n hx hb hdg hi (hl.2.2 _ (getL_mem hL)) (kk H locs ls hl hc hP hz hS)
theorem un_dup {va : Value} {q : Nat} (h : CtxN VV D cy sz own cc R nL ini) (hdg : decode cc pc = .ok (.dup, 1)) (hva : va.category = 1) (hq : pc + 1 = q) (kk : VV cells slots q L (va :: va :: st) w Nw) : VV cells slots pc L (va :: st) w Nw := by
  obtain ⟨p, l, e, s, m, args, below, meth, c, Q, hx, hb, hml, hown, hts, hE, hov, hfl, hini, rfl⟩ := h
  subst hq
  intro H locs ls hl hc hP hz hS
  exact lv_dup hx hb hdg hva (kk H locs ls hl hc hP hz hS)
theorem un_istore_n {k : Fin 4} {i q : Nat} {x : Int32} (h : CtxN VV D cy sz own cc R nL ini) (hdg : decode cc pc = .ok (.istore_n k, 1)) (hi : (k : Nat) = i) (hn : i < nL) (hq : pc + 1 = q) (kk : VV cells slots q (setL L i (.int x)) st w Nw) : VV cells slots pc L (.int x :: st) w Nw := by
  obtain ⟨p, l, e, s, m, args, below, meth, c, Q, hx, hb, hml, hown, hts, hE, hov, hfl, hini, rfl⟩ := h
  subst hq
  intro H locs ls hl hc hP hz hS
  exact lv_istore_n hx hb hdg hi hl hn rfl (fun ls1 h1 => kk H locs ls1 (setL_has hc h1) (c1_set hc rfl) hP hz hS)
theorem un_istore {i q : Nat} {x : Int32} (h : CtxN VV D cy sz own cc R nL ini) (hdg : decode cc pc = .ok (.istore i, 2)) (hn : i < nL) (hq : pc + 2 = q) (kk : VV cells slots q (setL L i (.int x)) st w Nw) : VV cells slots pc L (.int x :: st) w Nw := by
  obtain ⟨p, l, e, s, m, args, below, meth, c, Q, hx, hb, hml, hown, hts, hE, hov, hfl, hini, rfl⟩ := h
  subst hq
  intro H locs ls hl hc hP hz hS
  exact lv_istore hx hb hdg hl hn rfl (fun ls1 h1 => kk H locs ls1 (setL_has hc h1) (c1_set hc rfl) hP hz hS)
theorem un_astore_n {k : Fin 4} {i q : Nat} {x : Nat} (h : CtxN VV D cy sz own cc R nL ini) (hdg : decode cc pc = .ok (.astore_n k, 1)) (hi : (k : Nat) = i) (hn : i < nL) (hq : pc + 1 = q) (kk : VV cells slots q (setL L i (.ref x)) st w Nw) : VV cells slots pc L (.ref x :: st) w Nw := by
  obtain ⟨p, l, e, s, m, args, below, meth, c, Q, hx, hb, hml, hown, hts, hE, hov, hfl, hini, rfl⟩ := h
  subst hq
  intro H locs ls hl hc hP hz hS
  exact lv_astore_n hx hb hdg hi hl hn rfl (fun ls1 h1 => kk H locs ls1 (setL_has hc h1) (c1_set hc rfl) hP hz hS)
theorem un_iinc {i q : Nat} {n : Int} {x v : Int32} (h : CtxN VV D cy sz own cc R nL ini) (hdg : decode cc pc = .ok (.iinc i n, 3)) (hg : getL L i = some (.int x)) (hv : x + Int32.ofInt n = v) (hn : i < nL) (hq : pc + 3 = q) (kk : VV cells slots q (setL L i (.int v)) st w Nw) : VV cells slots pc L st w Nw := by
  obtain ⟨p, l, e, s, m, args, below, meth, c, Q, hx, hb, hml, hown, hts, hE, hov, hfl, hini, rfl⟩ := h
  subst hq
  intro H locs ls hl hc hP hz hS
  obtain ⟨k, hk⟩ := List.getElem?_of_mem (getL_mem hg)
  exact lv_iinc hx hb hdg hl hk hv hn rfl (fun ls1 h1 => kk H locs ls1 (setL_has hc h1) (c1_set hc rfl) hP hz hS)
theorem un_goto {off : Int} {tgt : Nat} (h : CtxN VV D cy sz own cc R nL ini) (hdg : decode cc pc = .ok (.goto off, 3)) (ht : (pc : Int) + off = (tgt : Int)) (kk : VV cells slots tgt L st w Nw) : VV cells slots pc L st w Nw := by
  obtain ⟨p, l, e, s, m, args, below, meth, c, Q, hx, hb, hml, hown, hts, hE, hov, hfl, hini, rfl⟩ := h
  intro H locs ls hl hc hP hz hS
  exact lv_goto hx hb hdg ht (kk H locs ls hl hc hP hz hS)
theorem un_icmp_ge {x y : Int32} {off : Int} {tgt q : Nat} (h : CtxN VV D cy sz own cc R nL ini) (hdg : decode cc pc = .ok (.if_icmp .ge off, 3)) (ht : (pc : Int) + off = (tgt : Int)) (hq : pc + 3 = q) (kt : y ≤ x → VV cells slots tgt L st w Nw) (kf : ¬ (y ≤ x) → VV cells slots q L st w Nw) : VV cells slots pc L (.int y :: .int x :: st) w Nw := by
  obtain ⟨p, l, e, s, m, args, below, meth, c, Q, hx, hb, hml, hown, hts, hE, hov, hfl, hini, rfl⟩ := h
  subst hq
  intro H locs ls hl hc hP hz hS
  exact lv_icmp_ge hx hb hdg ht (fun q9 => kt q9 H locs ls hl hc hP hz hS) (fun q9 => kf q9 H locs ls hl hc hP hz hS)
theorem un_imul {x y : Int32} {q : Nat} (h : CtxN VV D cy sz own cc R nL ini) (hdg : decode cc pc = .ok (.imul, 1)) (hq : pc + 1 = q) (kk : VV cells slots q L (.int (x * y) :: st) w Nw) : VV cells slots pc L (.int y :: .int x :: st) w Nw := by
  obtain ⟨p, l, e, s, m, args, below, meth, c, Q, hx, hb, hml, hown, hts, hE, hov, hfl, hini, rfl⟩ := h
  subst hq
  intro H locs ls hl hc hP hz hS
  exact lv_imul hx hb hdg (kk H locs ls hl hc hP hz hS)
theorem un_iadd {x y : Int32} {q : Nat} (h : CtxN VV D cy sz own cc R nL ini) (hdg : decode cc pc = .ok (.iadd, 1)) (hq : pc + 1 = q) (kk : VV cells slots q L (.int (x + y) :: st) w Nw) : VV cells slots pc L (.int y :: .int x :: st) w Nw := by
  obtain ⟨p, l, e, s, m, args, below, meth, c, Q, hx, hb, hml, hown, hts, hE, hov, hfl, hini, rfl⟩ := h
  subst hq
  intro H locs ls hl hc hP hz hS
  exact lv_iadd hx hb hdg (kk H locs ls hl hc hP hz hS)
/-- the start of an object -/
theorem un_obj {index : Nat} {x : Nat} (h : CtxN VV D cy sz own cc R nL ini) (hl1 : Cond.methodLink own index Lib.objectInit ∈ TW) (hin : Cond.instanceMethod Lib.objectInit ∈ TW) (hco : Cond.code Lib.objectInit ⟨#[0xb1]⟩ 1 none ∈ TW) (hR : 1 ≤ R.frames ∧ (st.map fun v => v.category).sum + 12 ≤ R.locals) (hdg : decode cc pc = .ok (.invokespecial index, 3)) (hq : pc + 3 = q9) (kk : VV cells slots q9 L st w Nw) : VV cells slots pc L (.ref x :: st) w Nw := by
  obtain ⟨p, l, e, s, m, args, below, meth, c, Q, hx, hb, hml, hown, hts, hE, hov, hfl, hini, rfl⟩ := h
  subst hq
  intro H locs ls hl hc hP hz hS
  refine W.objInit hx hb hown (hts _ hl1) (hts _ hin) (hts _ hco) rfl (by rw [hml]; exact hl.1) rfl hdg hR.1 ?_ (kk H locs ls hl hc hP hz hS)
  have hR2 := hR.2
  show 2 * (F0 m pc ls (.ref x :: st)).monitorRoom + (st.map fun v => v.category).sum + 12 ≤ R.locals
  have e0 : (F0 m pc ls (.ref x :: st)).monitorRoom = 0 := rfl
  rw [e0]; omega
theorem un_get {index k j ci : Nat} {C : String} {TT : u_T} {N : Nat} {fs : List Value} {v : Value} (h : CtxN VV D cy sz own cc R nL ini) (hk : k < Nw) (hcell : w k = .inr (ci, fs)) (hcl : vwCl[ci]? = some (C, TT, N)) (hin : ∀ w ∈ u_ws C TT N, w ∈ TW) (hj : j < N) (hv : fs[j]? = some v) (hlink : Cond.fieldLink own index (TT j).1 (TT j).2.1 (TT j).2.2.1 ∈ TW) (hdg : decode cc pc = .ok (.getfield index, 3)) (hq : pc + 3 = q9) (kk : VV cells slots q9 L (v :: st) w Nw) : VV cells slots pc L (.ref (sz + k) :: st) w Nw := by
  obtain ⟨p, l, e, s, m, args, below, meth, c, Q, hx, hb, hml, hown, hts, hE, hov, hfl, hini, rfl⟩ := h
  subst hq
  intro H locs ls hl hc hP hz hS
  exact va_get hx hb hts hin hown hE.2.1 hP k (by rw [wlN_get hk, hcell]) hcl j hj (hts _ hlink) (fun _ h9 => h9) hv hdg (kk H locs ls hl hc hP hz hS)
theorem un_put {index k j ci : Nat} {C : String} {TT : u_T} {N : Nat} {fs : List Value} {v : Value} {ty : FieldType} {ty0 : Nat → FieldType} (h : CtxN VV D cy sz own cc R nL ini) (hk : k < Nw) (hcell : w k = .inr (ci, fs)) (hcl : vwCl[ci]? = some (C, TT, N)) (hin : ∀ w ∈ u_ws C TT N, w ∈ TW) (hty : ∀ k, k < N → parseFieldDescriptor (TT k).2.2.1 = some (ty0 k)) (hnm : ∀ a, a < N → ∀ b, b < N → a ≠ b → (TT a).2.1 ≠ (TT b).2.1) (hj : j < N) (hfin : (TT j).2.2.2 = false) (hd : ty0 j = ty) (hn : narrow ty v = v) (hfit : fits ty v = true) (hl9 : j < fs.length) (hlink : Cond.fieldLink own index (TT j).1 (TT j).2.1 (TT j).2.2.1 ∈ TW) (hdg : decode cc pc = .ok (.putfield index, 3)) (hq : pc + 3 = q9) (kk : VV cells slots q9 L st (fun i => if i = k then .inr (ci, fs.set j v) else w i) Nw) : VV cells slots pc L (v :: .ref (sz + k) :: st) w Nw := by
  obtain ⟨p, l, e, s, m, args, below, meth, c, Q, hx, hb, hml, hown, hts, hE, hov, hfl, hini, rfl⟩ := h
  subst hq
  subst hd
  intro H locs ls hl hc hP hz hS0
  have hK := hE.2.1
  have he : (wlN sz w Nw)[k]? = some (sz + k, .inr (ci, fs)) := by rw [wlN_get hk, hcell]
  have hap := va_apart (own := own) hts hin ty0 hty hnm hK hcl
  obtain ⟨r, h1, cell, q1, q2, q3, q4⟩ := hP k _ he
  have hr : r = (C, TT, N) := Option.some.inj (h1.symm.trans hcl)
  subst hr
  obtain ⟨hS, hfc, kC, hkC, hkind⟩ := hK.1 ci _ hcl
  obtain ⟨cf, kf, fi, f, hi, hsl⟩ := hS j hj
  have hlay := hts _ (hin _ (u_in_lay hj))
  unfold u_lay at hlay
  rw [if_neg (by rw [hfin]; decide)] at hlay
  have hst := (u_facts hfc hkC (u_lays hts hin hj) hi).1
  have h6 := u_store hfc hkC hkind hlay hi (hty j hj) hn hfit
  refine W.putK hx hb (f := f) ⟨hown, hts _ hlink, ⟨_, _, _, hi⟩, hst⟩ (by rw [q2]; exact h6) q1 q3 (by rw [hsl]; exact k2_hasslot (q4 j hj)) rfl rfl hdg fun H' e1 e2 e3 => ?_
  rw [hsl] at e1 ⊢
  have hP2 := hP.set (e := .inr (ci, fs.set j v)) wlN_D he ⟨_, hcl, t_OB.to (V := updV (vp_V fs) j v) ⟨_, e1, q2, q3, t_set q4 hap hj v⟩ (fun i _ => vp_updV_set hl9 v i)⟩ e3
  rw [wlN_set] at hP2
  exact kk H' _ ls hl hc hP2 (e2.trans hz) (hS0.put e2 e3 (wlN_D.2 k _ he))
theorem un_putF {index k j ci : Nat} {C : String} {TT : u_T} {N : Nat} {fs : List Value} {v : Value} {ty : FieldType} {ty0 : Nat → FieldType} (h : CtxN VV D cy sz own cc R nL true) (hk : k < Nw) (hcell : w k = .inr (ci, fs)) (hcl : vwCl[ci]? = some (C, TT, N)) (hin : ∀ w ∈ u_ws C TT N, w ∈ TW) (hty : ∀ k, k < N → parseFieldDescriptor (TT k).2.2.1 = some (ty0 k)) (hnm : ∀ a, a < N → ∀ b, b < N → a ≠ b → (TT a).2.1 ≠ (TT b).2.1) (hj : j < N) (hfin : (TT j).2.2.2 = true) (hdecl : (TT j).1 = own) (hd : ty0 j = ty) (hn : narrow ty v = v) (hfit : fits ty v = true) (hl9 : j < fs.length) (hlink : Cond.fieldLink own index (TT j).1 (TT j).2.1 (TT j).2.2.1 ∈ TW) (hdg : decode cc pc = .ok (.putfield index, 3)) (hq : pc + 3 = q9) (kk : VV cells slots q9 L st (fun i => if i = k then .inr (ci, fs.set j v) else w i) Nw) : VV cells slots pc L (v :: .ref (sz + k) :: st) w Nw := by
  obtain ⟨p, l, e, s, m, args, below, meth, c, Q, hx, hb, hml, hown, hts, hE, hov, hfl, hini, rfl⟩ := h
  subst hq
  subst hd
  intro H locs ls hl hc hP hz hS0
  have hK := hE.2.1
  have he : (wlN sz w Nw)[k]? = some (sz + k, .inr (ci, fs)) := by rw [wlN_get hk, hcell]
  have hap := va_apart (own := own) hts hin ty0 hty hnm hK hcl
  obtain ⟨r, h1, cell, q1, q2, q3, q4⟩ := hP k _ he
  have hr : r = (C, TT, N) := Option.some.inj (h1.symm.trans hcl)
  subst hr
  obtain ⟨hS, hfc, kC, hkC, hkind⟩ := hK.1 ci _ hcl
  obtain ⟨cf, kf, fi, f, hi, hsl⟩ := hS j hj
  have hlay := hts _ (hin _ (u_in_lay hj))
  unfold u_lay at hlay
  rw [if_pos hfin] at hlay
  have hst := (u_facts hfc hkC (u_lays hts hin hj) hi).1
  have hcf : m.cls = cf := by
    obtain ⟨_, _, c', _, _, _, -, -, hf', -, -, -, hown2, -⟩ := Cond.laysFinal_spec hlay
    have e1 : c' = cf := by have := hi.symm.trans hf'; simp at this; exact this.1.symm
    rw [hdecl] at hown2
    rw [← e1]; exact Option.some.inj (hown.symm.trans hown2)
  have h6 := u_fits hfc hkC hkind (Or.inr hlay) hi (hty j hj) hn hfit
  refine W.putFinK hx hb hown (hts _ hlink) hi hst hcf (hini rfl) (by rw [q2]; exact h6) q1 q3 (by rw [hsl]; exact k2_hasslot (q4 j hj)) rfl rfl hdg fun H' e1 e2 e3 => ?_
  rw [hsl] at e1 ⊢
  have hP2 := hP.set (e := .inr (ci, fs.set j v)) wlN_D he ⟨_, hcl, t_OB.to (V := updV (vp_V fs) j v) ⟨_, e1, q2, q3, t_set q4 hap hj v⟩ (fun i _ => vp_updV_set hl9 v i)⟩ e3
  rw [wlN_set] at hP2
  exact kk H' _ ls hl hc hP2 (e2.trans hz) (hS0.put e2 e3 (wlN_D.2 k _ he))
/-- one cell more -/
theorem un_push {s : State} {H H1 : Heap} {locs : List Loc} {e : va_E} (hP : va_P D vwCl (wlN sz w Nw) H) (hz : H.size = sz + Nw) (hS : va_S (fun q => sz ≤ q) s.heap H locs) (he : va_at D vwCl (sz + Nw, e) H1) (z1 : H1.size = H.size + 1) (o1 : ∀ q, q < H.size → H1[q]? = H[q]?) : va_P D vwCl (wlN sz (fun j => if j = Nw then e else w j) (Nw + 1)) H1 ∧ H1.size = sz + (Nw + 1) ∧ va_S (fun q => sz ≤ q) s.heap H1 locs := by
  refine ⟨?_, by omega, Nat.le_trans hS.1 (by omega), fun x h1 h2 => (o1 x (Nat.lt_of_lt_of_le h1 hS.1)).trans (hS.2.1 x h1 h2), hS.2.2⟩
  rw [← wlN_app]
  refine (hP.kept fun k x hx => o1 x.1 ?_).app fun k x hx => ?_
  · obtain ⟨hk, rfl⟩ := wlN_get' hx
    show sz + k < H.size
    omega
  · have hz9 : k < 1 := (List.getElem?_eq_some_iff.mp hx).1
    have hk0 : k = 0 := by omega
    subst hk0
    cases hx
    exact he
theorem un_newa {atype : ArrayType} {ty : FieldType} {ia N' : Nat} {n : Int32} {a0 : vp_A} (h : CtxN VV D cy sz own cc R nL ini) (harr : Cond.arrayClass (newarray.typeOf atype) ∈ TW) (hty : (tyL cy)[ia]? = some (cy ia, ty)) (hra : ∀ U cA, va_RA U cA ty → U.vm.findClass ("[" ++ (newarray.typeOf atype).toString) = some cA) (ha : ∀ cA : ClassId, vp_cell cA a0 = arrV cA N' (fun _ => defaultValue (newarray.typeOf atype))) (hn : ¬ n < 0) (hN : n.toNatClampNeg = N') (hby : N' * componentBytes (newarray.typeOf atype) ≤ 536870912) (hf : cells + 1 ≤ R.cells ∧ slots + N' ≤ R.slots) (hdg : decode cc pc = .ok (.newarray atype, 2)) (hq : pc + 2 = q9) (kk : VV (cells + 1) (slots + N') q9 L (.ref (sz + Nw) :: st) (fun j => if j = Nw then .inl (cy ia, a0) else w j) (Nw + 1)) : VV cells slots pc L (.int n :: st) w Nw := by
  obtain ⟨p, l, e, s, m, args, below, meth, c, Q, hx, hb, hml, hown, hts, hE, hov, hfl, hini, rfl⟩ := h
  subst hq
  intro H locs ls hl hc hP hz hS
  refine va_newaK hx hb (hts _ harr) rfl hdg rfl hn hN hby hf.1 hf.2 hz fun H1 cA e1 z1 o1 hAr hNm => ?_
  have ecA : cA = cy ia := Option.some.inj (hNm.symm.trans (hra _ _ (hE.2.1.2 ia _ hty).2))
  subst ecA
  obtain ⟨g1, g2, g3⟩ := un_push (e := .inl (cy ia, a0)) hP hz hS (show H1[sz + Nw]? = some (vp_cell (cy ia) a0) by rw [ha]; exact e1) (by rw [hz]; exact z1) (fun q hq => o1 q (by omega))
  exact kk H1 locs ls hl hc g1 g2 g3
theorem un_new {index ci N' : Nat} {C : String} {TT : u_T} {ty0 : Nat → FieldType} {fs : List Value} (h : CtxN VV D cy sz own cc R nL ini) (hcl : Cond.classLink own index C ∈ TW) (hinst : Cond.instantiable C N' ∈ TW) (hi9 : Cond.initialized C ∈ TW) (hc9 : vwCl[ci]? = some (C, TT, N')) (hin : ∀ w ∈ u_ws C TT N', w ∈ TW) (hty : ∀ k, k < N' → parseFieldDescriptor (TT k).2.2.1 = some (ty0 k)) (hfs : ∀ j, j < N' → defaultValue (ty0 j) = vp_V fs j) (hf : cells + 1 ≤ R.cells ∧ slots + N' ≤ R.slots) (hdg : decode cc pc = .ok (.new index, 3)) (hq : pc + 3 = q9) (kk : VV (cells + 1) (slots + N') q9 L (.ref (sz + Nw) :: st) (fun j => if j = Nw then .inr (ci, fs) else w j) (Nw + 1)) : VV cells slots pc L st w Nw := by
  obtain ⟨p, l, e, s, m, args, below, meth, c, Q, hx, hb, hml, hown, hts, hE, hov, hfl, hini, rfl⟩ := h
  subst hq
  intro H locs ls hl hc hP hz hS
  have hKn := hE.2.1.1 ci _ hc9
  refine W.newcK hx hb hown (hts _ hcl) (hts _ hinst) (hts _ hi9) rfl hdg hf.1 hf.2 hKn.2.1 hz fun H1 kC hkC e1 z1 o1 => ?_
  obtain ⟨g1, g2, g3⟩ := un_push (e := .inr (ci, fs)) hP hz hS ⟨_, hc9, (u_born ty0 hts hin hKn hkC e1 hty).to hfs⟩ (by rw [hz]; exact z1) (fun q hq => o1 q (by omega))
  exact kk H1 locs ls hl hc g1 g2 g3
theorem un_anew {index N' : Nat} {n : Int32} {ia : Nat} (h : CtxN VV D cy sz own cc R nL ini) (hcl : Cond.classLink own index RX1 ∈ TW) (hty : (tyL cy)[ia]? = some (cy ia, .object RX1)) (hn : ¬ n < 0) (hN : n.toNatClampNeg = N') (hby : N' * 4 ≤ 536870912) (hf : cells + 1 ≤ R.cells ∧ slots + N' ≤ R.slots) (hdg : decode cc pc = .ok (.anewarray index, 3)) (hq : pc + 3 = q9) (kk : VV (cells + 1) (slots + N') q9 L (.ref (sz + Nw) :: st) (fun j => if j = Nw then .inl (cy ia, N', .inr (.inr (.inr (.inr (fun _ => none))))) else w j) (Nw + 1)) : VV cells slots pc L (.int n :: st) w Nw := by
  obtain ⟨p, l, e, s, m, args, below, meth, c, Q, hx, hb, hml, hown, hts, hE, hov, hfl, hini, rfl⟩ := h
  subst hq
  subst hN
  intro H locs ls hl hc hP hz hS
  refine W.anew hx hb hown (hts _ hcl) hov rfl hdg rfl hn hby hf.1 hf.2 fun cA kA comp f1 f2 f3 f4 => ?_
  obtain ⟨kA', comp', g1, g2, g3, g4⟩ := (hE.2.1.2 ia _ hty).2
  have ecA : cA = cy ia := Option.some.inj (f1.symm.trans g4)
  subst ecA
  generalize hH1 : H.push ({ cls := cy ia, slots := Array.replicate n.toNatClampNeg .null, vm := .none } : Cell) = H1
  have z1 : H1.size = H.size + 1 := by rw [← hH1, Array.size_push]
  have e1 : H1[H.size]? = some (arrV (cy ia) n.toNatClampNeg (fun _ => .null)) := by rw [← hH1, Array.getElem?_push_size, ← arrV_new]
  have o1 : ∀ q : Nat, q < H.size → H1[q]? = H[q]? := fun q hq => by rw [← hH1, Array.getElem?_push, if_neg (Nat.ne_of_lt hq)]
  rw [hz] at e1
  obtain ⟨i1, i2, i3⟩ := un_push (e := .inl (cy ia, n.toNatClampNeg, .inr (.inr (.inr (.inr (fun _ => none)))))) hP hz hS (show H1[sz + Nw]? = some (vp_cell (cy ia) (n.toNatClampNeg, .inr (.inr (.inr (.inr (fun _ => none)))))) by rw [vp_cell_q]; exact e1) z1 o1
  have k1 := kk H1 locs ls hl hc i1 i2 i3
  rw [← hz] at k1
  exact k1
theorem un_aast {k kq ci ia n i : Nat} {C : String} {TT : u_T} {N' : Nat} {vs : List Value} {f : Nat → Option Nat} {x : Int32} (h : CtxN VV D cy sz own cc R nL ini) (hk : k < Nw) (hcell : w k = .inl (cy ia, n, .inr (.inr (.inr (.inr f))))) (hty : (tyL cy)[ia]? = some (cy ia, .object C)) (hkq : kq < Nw) (hv : w kq = .inr (ci, vs)) (hc9 : vwCl[ci]? = some (C, TT, N')) (hi : x = nI i) (hlt : i < n) (hnb : n < 1000) (hdg : decode cc pc = .ok (.aastore, 1)) (hq : pc + 1 = q9) (kk : VV cells slots q9 L st (fun j => if j = k then .inl (cy ia, n, .inr (.inr (.inr (.inr (va_up f i (some (sz + kq))))))) else w j) Nw) : VV cells slots pc L (.ref (sz + kq) :: .int x :: .ref (sz + k) :: st) w Nw := by
  obtain ⟨p, l, e, s, m, args, below, meth, c, Q, hx, hb, hml, hown, hts, hE, hov, hfl, hini, rfl⟩ := h
  subst hq
  subst hi
  intro H locs ls hl hc hP hz hS
  have hK := hE.2.1
  have ha : (wlN sz w Nw)[k]? = some (sz + k, .inl (cy ia, n, .inr (.inr (.inr (.inr f))))) := by rw [wlN_get hk, hcell]
  have hq9 : (wlN sz w Nw)[kq]? = some (sz + kq, .inr (ci, vs)) := by rw [wlN_get hkq, hv]
  have hcl : (nI i).toNatClampNeg = i := nI_clamp (by omega)
  have h0 : ¬ nI i < 0 := nI_pos (by omega)
  obtain ⟨r', hr', cellV, g1, g2, g3, -⟩ := hP kq _ hq9
  have hcls := (hK.1 ci _ hc9).2
  obtain ⟨kA, comp, k1, k2, k3, -⟩ := (hK.2 ia _ hty).2
  have hcomp : comp = D.1 ci := Option.some.inj (k3.symm.trans hcls.1)
  subst hcomp
  obtain ⟨kC, hkC, -⟩ := hcls.2
  refine W.aast hx hb (hP k _ ha) (fun q h => by cases h) (fun h => by cases h) k1 k2 rfl hkC ⟨h0, by show _ < (arrV _ _ _).slots.size; rw [arrV_size, hcl]; exact hlt⟩ g1 (fun q h => by rw [g3] at h; cases h) (by rw [g2]; exact hkC) (by rw [g2]; exact va_assign hcls) rfl rfl hdg fun H1 e z oq => ?_
  have hP2 := hP.set (e := .inl (cy ia, n, .inr (.inr (.inr (.inr (va_up f i (some (sz + kq)))))))) wlN_D ha (by
    show H1[sz + k]? = some (vp_cell _ _)
    rw [e, vp_cell_q, vp_cell_q, arrV_store]
    congr 2
    funext q
    rw [hcl]
    by_cases hq : q = i
    · subst hq
      simp [updV, va_up, va_rf]
    · simp [updV, va_up, hq]) oq
  rw [wlN_set] at hP2
  exact kk H1 _ ls hl hc hP2 (z.trans hz) (hS.put z oq (wlN_D.2 k _ ha))
theorem un_iast {k ia n i : Nat} {f : Nat → Int32} {x y : Int32} (h : CtxN VV D cy sz own cc R nL ini) (hk : k < Nw) (hcell : w k = .inl (cy ia, n, .inl f)) (hty : (tyL cy)[ia]? = some (cy ia, .int)) (hi : x = nI i) (hlt : i < n) (hnb : n < 100000) (hdg : decode cc pc = .ok (.iastore, 1)) (hq : pc + 1 = q9) (kk : VV cells slots q9 L st (fun j => if j = k then .inl (cy ia, n, .inl (upd f i y)) else w j) Nw) : VV cells slots pc L (.int y :: .int x :: .ref (sz + k) :: st) w Nw := by
  obtain ⟨p, l, e, s, m, args, below, meth, c, Q, hx, hb, hml, hown, hts, hE, hov, hfl, hini, rfl⟩ := h
  subst hq
  intro H locs ls hl hc hP hz hS
  have hK := hE.2.1
  have ha : (wlN sz w Nw)[k]? = some (sz + k, .inl (cy ia, n, .inl f)) := by rw [wlN_get hk, hcell]
  have hcl : x.toNatClampNeg = i := by rw [hi]; exact nI_clamp (by omega)
  have hin : vp_in x n := vp_in_n hi hlt (by omega)
  refine W.iast hx hb (hP k _ ha) ((hK.2 ia _ hty).1 n (fun j => .int (f j))) (fun q => by cases q) (by show ¬ (x < 0 ∨ (arrV _ _ _).slots.size ≤ _); rw [arrV_size]; exact hin) rfl rfl hdg fun H1 e z oq => ?_
  have hP2 := hP.set (e := .inl (cy ia, n, .inl (upd f i y))) wlN_D ha (by
    show H1[sz + k]? = some (vp_cell _ _)
    rw [e, vp_cell_i, vp_cell_i, arrV_store]
    congr 2
    funext q
    rw [hcl]
    by_cases hq : q = i
    · subst hq
      simp [updV, upd]
    · simp [updV, upd, hq]) oq
  rw [wlN_set] at hP2
  exact kk H1 _ ls hl hc hP2 (z.trans hz) (hS.put z oq (wlN_D.2 k _ ha))
end GROW
/-! a constructor's fact -/
def PcN (D : va_G) (cy : Nat → ClassId) (sz : Nat) (As : List Value) (w : Nat → va_E) (N : Nat) : Array Value → State → Prop := fun a U => a = As.toArray ∧ va_P D vwCl (wlN sz w N) U.heap ∧ U.heap.size = sz + N ∧ EN D cy sz U ∧ (Cond.arrayOver (.object RX1)).before a U = true
def QcN (D : va_G) (sz : Nat) (w' : Nat → va_E) (N' : Nat) : Array Value → State → Outcome → State → Prop := fun _ st oc t => oc = .returned none ∧ (va_P D vwCl (wlN sz w' N') t.heap ∧ t.heap.size = sz + N') ∧ va_F (fun q => sz ≤ q) st t
def DoesN (sz : Nat) (I : MI) (As : List Value) (w : (Nat → ClassId) → Nat → va_E) (N mc ms : Nat) (w' : (Nat → ClassId) → Nat → va_E) (N' : Nat) : Prop :=
  ∀ (l : Launch) (D : va_G) (cy : Nat → ClassId), l.flags = flags0 → Met l I.1 [Cond.code I.1 I.2.1 I.2.2.1 I.2.2.2.1] (roomOf I mc ms) (PcN D cy sz As (w cy) N) (QcN D sz (w' cy) N') mc ms (fun q => sz ≤ q)
def CtxE (VV : VTN) (D : va_G) (cy : Nat → ClassId) (sz : Nat) (own : String) (cc : ByteArray) (R : Room) (nL : Nat) (w' : Nat → va_E) (N' mc ms : Nat) : Prop :=
  ∃ (p : Program) (l : Launch) (e : Env) (s : State) (m : MethodId) (args : Array Value) (below : List Frame) (meth : Method) (c : Code),
    p.tables.exec = Jvm.exec ∧ c.code = cc ∧ c.maxLocals = nL ∧ s.vm.findClass own = some m.cls ∧ (∀ w ∈ TW, w.before args s = true) ∧ EN D cy sz s ∧ (Cond.arrayOver (.object RX1)).before args s = true ∧ l.flags = flags0 ∧ meth.name = "<init>" ∧ meth.sig.returnType = none ∧ meth.locks = false ∧ VV = VN p l e R s m args below meth c D sz (MQ below (QcN D sz w' N') args s mc ms (fun q => sz ≤ q)) nL
theorem CtxE.c {VV : VTN} {D : va_G} {cy : Nat → ClassId} {sz : Nat} {own : String} {cc : ByteArray} {R : Room} {nL : Nat} {w' : Nat → va_E} {N' mc ms : Nat} (h : CtxE VV D cy sz own cc R nL w' N' mc ms) : CtxN VV D cy sz own cc R nL true := by
  obtain ⟨p, l, e, s, m, args, below, meth, c, hx, hb, hml, hown, hts, hE, hov, hfl, hini, -, -, hV⟩ := h
  exact ⟨p, l, e, s, m, args, below, meth, c, _, hx, hb, hml, hown, hts, hE, hov, hfl, fun _ => hini, hV⟩
theorem blindN {D : va_G} {cy : Nat → ClassId} {sz : Nat} {As : List Value} {w : Nat → va_E} {N : Nat} : FrameBlind (PcN D cy sz As w N) := by
  intro a U g mk h
  obtain ⟨h1, h2, h3, h4, h5⟩ := h
  refine ⟨h1, h2, h3, ?_, Cond.arrayOver_alike (U := U) (U' := U.calling g mk a) (State.WarmedH.refl U).alike h5⟩
  exact EN.warm (s := U) (U := U.calling g mk a) (State.WarmedH.refl U) (Nat.le_refl _) (fun _ _ _ => rfl) h4
theorem DoesN.of {sz : Nat} {I : MI} {As : List Value} {w w' : (Nat → ClassId) → Nat → va_E} {N N' mc ms : Nat} {L : List (Nat × Value)} (hy : plainName I.1.cls = true) (hI : I.1.name = "<init>") (hret : I.2.2.2.1 = none) (hmL : (lg_sl As).length ≤ I.2.2.1) (hL : lv_args 0 As = L) (hc : c1 L)
    (body : ∀ VV D cy, CtxE VV D cy sz I.1.cls I.2.1 (roomOf I mc ms) I.2.2.1 (w' cy) N' mc ms → VV 0 0 0 L [] (w cy) N) : DoesN sz I As w N mc ms w' N' := by
  intro l D cy hfl
  refine Met.ofW (cc := I.2.1) (maxL := I.2.2.1) (ret := I.2.2.2.1) hy rfl ?_
  intro p e s m args below meth c s₁ B hml hv
  obtain ⟨rfl, hP, hz, hE, hov⟩ := hv
  have hts : ∀ w ∈ TW, w.before As.toArray s = true := fun w hw => tw_warm (State.WarmedH.refl s) (List.mem_filter.mp hw).2 (hE.1 w hw)
  rw [lg_entry_eq]
  have hl := lv_entry As hmL
  subst hL
  exact body _ D cy ⟨p, l, e, s, m, As.toArray, below, meth, c, B.exec, B.bytes, hml, findClass_of_methodNamed B.named, hts, hE, hov, hfl, ((name_of_methodNamed B.named B.method).1).trans hI, B.returns.trans hret, B.notSynchronized, rfl⟩ s.heap [] _ hl hc hP hz va_S.rf
section GROW2
variable {VV : VTN} {D : va_G} {cy : Nat → ClassId} {sz : Nat} {own : String} {cc : ByteArray} {R : Room} {nL cells slots pc q9 : Nat} {ini : Bool} {L : List (Nat × Value)} {st As rest : List Value} {w w' : Nat → va_E} {Nw N' mc ms index n : Nat} {I : MI} {w0 w1 : (Nat → ClassId) → Nat → va_E}
theorem un_ret (h : CtxE VV D cy sz own cc R nL w' N' mc ms) (h1 : cells ≤ mc) (h2 : slots ≤ ms) (hdg : decode cc pc = .ok (.return_, 1)) (hN : Nw = N') (he : ∀ k, k < N' → w k = w' k) : VV cells slots pc L [] w Nw := by
  obtain ⟨p, l, e, s, m, args, below, meth, c, hx, hb, hml, hown, hts, hE, hov, hfl, hini, hr, hlk, rfl⟩ := h
  subst hN
  intro H locs ls hl hc hP hz hS
  rw [wlN_cong he] at hP
  refine W.widen h1 h2 ?_
  exact W.vret hx hb hr (fun t ht hW => ⟨rfl, ⟨by rw [ht]; exact hP, by rw [ht]; exact hz⟩, hS.F ht⟩) hS.2.2 hdg hlk
theorem un_callN {host : String} {x : Nat} (h : CtxN VV D cy sz own cc R nL ini) (hD : DoesN sz I (.ref x :: As) w0 Nw mc ms w1 N') (hI : MW I n ∧ Cond.instanceMethod I.1 ∈ TW) (hnm : I.1.name = "<init>") (hret : I.2.2.2.1 = none) (hl1 : Cond.methodLinkNest own index I.1 host ∈ TW) (hn : As.length = n) (hst : st = As.reverse ++ .ref x :: rest) (hcat : (rest.map fun v => v.category).sum ≤ 8) (hroom : fitsIn I R) (hw : w = w0 cy) (hdg : decode cc pc = .ok (.invokespecial index, 3)) (hf : cells + mc ≤ R.cells ∧ slots + ms ≤ R.slots) (hq : pc + 3 = q9) (kk : VV (cells + mc) (slots + ms) q9 L rest (w1 cy) N') : VV cells slots pc L st w Nw := by
  obtain ⟨p, l, e, s, m, args, below, meth, c, Q, hx, hb, hml, hown, hts, hE, hov, hfl, hini, rfl⟩ := h
  subst hst
  subst hq
  subst hw
  intro H locs ls hl hc hP hz hS T hT X
  have hB : va_CN R s args own index I.1 host I.2.1 I.2.2.1 I.2.2.2.1 [Cond.code I.1 I.2.1 I.2.2.1 I.2.2.2.1] (roomOf I mc ms) mc ms n := by
    obtain ⟨⟨h1, h2, h3, h4⟩, h5⟩ := hI
    refine ⟨⟨rfl, rfl, hroom.1, hroom.2, fun w hw a' U hW => ?_, List.mem_cons_self⟩, hts _ h1, hts _ h2, h3, fun sig hs => ?_, hts _ hl1⟩
    · rw [List.mem_singleton.mp hw]
      exact tw_warm hW (List.mem_filter.mp h1).2 (hts _ h1)
    · rw [hs] at h4
      exact (Option.some.inj h4).symm
  have hM := hD l D cy hfl
  rw [hret] at hB hM
  have run := va_runIN (e := e) (below := below) (meth := meth) (locs := locs) (As := As) (rest := rest) ⟨hx, hb, hml, hown, hts⟩ hM ⟨hB, hnm, hts _ hI.2⟩ ⟨blindN, fun U hU hW => ⟨rfl, by rw [hU]; exact hP, by rw [hU]; exact hz, EN.warm hW (by rw [hU]; exact hS.1) (by rw [hU]; exact fun q h1 h2 => hS.2.1 q h1 h2) hE, Cond.arrayOver_alike hW.alike hov⟩⟩ (g := F0 m pc ls (As.reverse ++ .ref x :: rest)) rfl hn hl.1 rfl (lv_room hcat) hdg hf
  obtain ⟨v, st₀, t, T', Lc, h0, X', hLc, e1, e2, ⟨hv, ⟨hP', hz'⟩, hF⟩, stp⟩ := run T hT X
  obtain ⟨-, -, k3⟩ := vx_keep h0 e1 hS (fun q _ z => z) (fun q z => z) hLc hF
  cases hv
  obtain ⟨t2, a1, b1⟩ := kk T'.heap (locs ++ Lc) ls hl hc (by rw [e1]; exact hP') (by rw [e1]; exact hz') k3 T' rfl X'
  exact ⟨t2, stp t2 a1, b1⟩
theorem un_callP {x : Nat} (h : CtxN VV D cy sz own cc R nL ini) (hD : DoesN sz I (.ref x :: As) w0 Nw mc ms w1 N') (hI : MW I n ∧ Cond.instanceMethod I.1 ∈ TW) (hnm : I.1.name = "<init>") (hret : I.2.2.2.1 = none) (hl1 : Cond.methodLink own index I.1 ∈ TW) (hn : As.length = n) (hst : st = As.reverse ++ .ref x :: rest) (hcat : (rest.map fun v => v.category).sum ≤ 8) (hroom : fitsIn I R) (hw : w = w0 cy) (hdg : decode cc pc = .ok (.invokespecial index, 3)) (hf : cells + mc ≤ R.cells ∧ slots + ms ≤ R.slots) (hq : pc + 3 = q9) (kk : VV (cells + mc) (slots + ms) q9 L rest (w1 cy) N') : VV cells slots pc L st w Nw := by
  obtain ⟨p, l, e, s, m, args, below, meth, c, Q, hx, hb, hml, hown, hts, hE, hov, hfl, hini, rfl⟩ := h
  subst hst
  subst hq
  subst hw
  intro H locs ls hl hc hP hz hS T hT X
  have hB : CallB R s args own index I.1 I.2.1 I.2.2.1 I.2.2.2.1 [Cond.code I.1 I.2.1 I.2.2.1 I.2.2.2.1] (roomOf I mc ms) mc ms n := callB_tw hts hI.1 hroom hl1
  have hM := hD l D cy hfl
  rw [hret] at hB hM
  have run := va_runI (e := e) (below := below) (meth := meth) (locs := locs) (As := As) (rest := rest) ⟨hx, hb, hml, hown, hts⟩ hM ⟨hB, hnm, hts _ hI.2⟩ ⟨blindN, fun U hU hW => ⟨rfl, by rw [hU]; exact hP, by rw [hU]; exact hz, EN.warm hW (by rw [hU]; exact hS.1) (by rw [hU]; exact fun q h1 h2 => hS.2.1 q h1 h2) hE, Cond.arrayOver_alike hW.alike hov⟩⟩ (g := F0 m pc ls (As.reverse ++ .ref x :: rest)) rfl hn hl.1 rfl (lv_room hcat) hdg hf
  obtain ⟨v, st₀, t, T', Lc, h0, X', hLc, e1, e2, ⟨hv, ⟨hP', hz'⟩, hF⟩, stp⟩ := run T hT X
  obtain ⟨-, -, k3⟩ := vx_keep h0 e1 hS (fun q _ z => z) (fun q z => z) hLc hF
  cases hv
  obtain ⟨t2, a1, b1⟩ := kk T'.heap (locs ++ Lc) ls hl hc (by rw [e1]; exact hP') (by rw [e1]; exact hz') k3 T' rfl X'
  exact ⟨t2, stp t2 a1, b1⟩
end GROW2
