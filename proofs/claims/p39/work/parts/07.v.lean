/-! One memory for the whole system: G k j is the int at place j of cell k (cells are counted from the pool's own address on); the saved states' places; the law's own long. -/
abbrev Mem : Type := (Nat → Nat → Int32) × ((Nat → Nat) × Int64)
def put (g : Nat → Nat → Int32) (k j : Nat) (v : Int32) : Nat → Nat → Int32 := fun k' => if k' = k then upd (g k) j v else g k'
def patch (g : Nat → Nat → Int32) (r w : Nat) (f : Nat → Nat → Int32) : Nat → Nat → Int32 := fun k => if r ≤ k ∧ k < r + w then f (k - r) else g k
def view (g : Nat → Nat → Int32) (r : Nat) : Nat → Nat → Int32 := fun a => g (r + a)
theorem put_s {g : Nat → Nat → Int32} {k j : Nat} {v : Int32} : put g k j v k = upd (g k) j v := if_pos rfl
theorem put_n {g : Nat → Nat → Int32} {k k' j : Nat} {v : Int32} (h : k' ≠ k) : put g k j v k' = g k' := if_neg h
theorem patch_in {g f : Nat → Nat → Int32} {r w a : Nat} (h : a < w) : patch g r w f (r + a) = f a := by
  have h1 : r ≤ r + a ∧ r + a < r + w := ⟨by omega, by omega⟩
  have h2 : r + a - r = a := by omega
  simp only [patch, if_pos h1, h2]
theorem patch_out {g f : Nat → Nat → Int32} {r w k : Nat} (h : k < r ∨ r + w ≤ k) : patch g r w f k = g k := by
  have h1 : ¬ (r ≤ k ∧ k < r + w) := by omega
  simp only [patch, if_neg h1]
theorem patch_put {g f : Nat → Nat → Int32} {r w a j : Nat} {v : Int32} (h : a < w) : put (patch g r w f) (r + a) j v = patch g r w (put f a j v) := by
  funext k
  by_cases hk : k = r + a
  · subst hk
    rw [put_s, patch_in h, patch_in h, put_s]
  · rw [put_n hk]
    by_cases h1 : r ≤ k ∧ k < r + w
    · have h2 : k - r ≠ a := by omega
      simp only [patch, if_pos h1, put_n h2]
    · simp only [patch, if_neg h1]
theorem patch_patch {g f f2 : Nat → Nat → Int32} {r w : Nat} : patch (patch g r w f) r w f2 = patch g r w f2 := by
  funext k
  by_cases h1 : r ≤ k ∧ k < r + w
  · simp only [patch, if_pos h1]
  · simp only [patch, if_neg h1]
theorem patch_view {g : Nat → Nat → Int32} {r w : Nat} : patch g r w (view g r) = g := by
  funext k
  by_cases h1 : r ≤ k ∧ k < r + w
  · have h2 : r + (k - r) = k := by omega
    simp only [patch, if_pos h1, view, h2]
  · simp only [patch, if_neg h1]
theorem patch_cong {g f f2 : Nat → Nat → Int32} {r w : Nat} (h : ∀ a, a < w → f a = f2 a) : patch g r w f = patch g r w f2 := by
  funext k
  by_cases h1 : r ≤ k ∧ k < r + w
  · simp only [patch, if_pos h1, h (k - r) (by omega)]
  · simp only [patch, if_neg h1]
/-- the kind of each cell: 0 reader, 1 State, 2 pool, 3 model, 4 char row, 5 int row, 6 boolean row, 7 the saved states, 8 the slots, 9 the law's long row -/
def kdl : List Nat := [2, 1,5,5,5,5,5,5, 1,5,5,5,5,5,5, 7, 8, 4, 0, 1,5,5,5,5,5,5, 1,5,5,5,5,5,5, 1,5,5,5,5,5,5, 1,5,5,5,5,5,5, 1,5,5,5,5,5,5, 1,5,5,5,5,5,5, 1,5,5,5,5,5,5, 1,5,5,5,5,5,5]
def kd (k : Nat) : Nat := kdl.getD k 9
def lnl : List Nat := [0, 0,6,6,6,6,6,30, 0,6,6,6,6,6,30, 6, 2, 80, 0, 0,6,6,6,6,6,30, 0,6,6,6,6,6,30, 0,6,6,6,6,6,30, 0,6,6,6,6,6,30, 0,6,6,6,6,6,30, 0,6,6,6,6,6,30, 0,6,6,6,6,6,30, 0,6,6,6,6,6,30]
def ln (k : Nat) : Nat := lnl.getD k 0
def cellOf (cy : Nat → ClassId) (sz : Nat) (M : Mem) (k : Nat) : va_E :=
  match kd k with
  | 0 => .inr (0, [.int (M.1 k 0), .int (M.1 k 1), .int (M.1 k 2), .int (M.1 k 3)])
  | 1 => .inr (1, [.ref (sz + (k + 1)), .ref (sz + (k + 2)), .ref (sz + (k + 3)), .ref (sz + (k + 4)), .ref (sz + (k + 5)), .ref (sz + (k + 6)), .int (M.1 k 6), .int (M.1 k 7), .int (M.1 k 8), .int (M.1 k 9), .int (M.1 k 10), .int (M.1 k 11), .int (M.1 k 12), .int (M.1 k 13), .int (M.1 k 14)])
  | 2 => .inr (2, [.ref (sz + 1), .ref (sz + 8), .ref (sz + 15), .int (M.1 k 3), .ref (sz + 16), .int (M.1 k 5), .ref (sz + 17), .int (M.1 k 7), .ref (sz + 18)])
  | 3 => .inr (3, [.int (M.1 k 0), .ref (sz + 76), .int (M.1 k 2), .ref (sz + 77), .ref (sz + 78), .int (M.1 k 5), .int (M.1 k 6), .int (M.1 k 7), .int (M.1 k 8), .int (M.1 k 9)])
  | 4 => .inl (cy 0, ln k, .inl (M.1 k))
  | 5 => .inl (cy 1, ln k, .inl (M.1 k))
  | 6 => .inl (cy 2, ln k, .inl (M.1 k))
  | 7 => .inl (cy 2, 6, .inr (.inr (.inr (.inr (fun i => some (sz + M.2.1 i))))))
  | 8 => .inl (cy 2, 2, .inr (.inr (.inr (.inr (fun i => some (sz + (61 + 7 * i)))))))
  | _ => .inl (cy 4, 1, .inr (.inl (fun _ => M.2.2)))
theorem cellOf_cong {cy : Nat → ClassId} {sz : Nat} {M M' : Mem} {k : Nat} (h1 : M.1 k = M'.1 k) (h2 : M.2 = M'.2) : cellOf cy sz M k = cellOf cy sz M' k := by
  simp only [cellOf, h1, h2]
def wl (cy : Nat → ClassId) (sz : Nat) (M : Mem) : va_W := (List.range 75).map fun k => (sz + k, cellOf cy sz M k)
theorem wl_get {cy : Nat → ClassId} {sz : Nat} {M : Mem} {k : Nat} (hk : k < 75) : (wl cy sz M)[k]? = some (sz + k, cellOf cy sz M k) := by
  simp [wl, hk]
theorem wl_get' {cy : Nat → ClassId} {sz : Nat} {M : Mem} {k : Nat} {q : Nat × va_E} (h : (wl cy sz M)[k]? = some q) : k < 75 ∧ q = (sz + k, cellOf cy sz M k) := by
  have hk : k < 75 := by
    have := (List.getElem?_eq_some_iff.mp h).1
    simpa [wl] using this
  rw [wl_get hk] at h
  exact ⟨hk, (Option.some.inj h).symm⟩
theorem wl_set {cy : Nat → ClassId} {sz : Nat} {M M' : Mem} {k : Nat} {e : va_E} (h : ∀ j, j < 75 → cellOf cy sz M' j = if j = k then e else cellOf cy sz M j) : (wl cy sz M).set k (sz + k, e) = wl cy sz M' := by
  apply List.ext_getElem?
  intro j
  by_cases hj : j < 75
  · rw [wl_get hj, h j hj]
    by_cases hk : k = j
    · subst hk
      rw [List.getElem?_set_self (by simp [wl]; exact hj), if_pos rfl]
    · rw [List.getElem?_set_ne hk, wl_get hj, if_neg (Ne.symm hk)]
  · rw [List.getElem?_eq_none (by simp [wl]; omega), List.getElem?_eq_none (by simp [wl]; omega)]
theorem wl_put {cy : Nat → ClassId} {sz : Nat} {G : Nat → Nat → Int32} {T : (Nat → Nat) × Int64} {k j : Nat} {v : Int32} {e : va_E} (h : cellOf cy sz (put G k j v, T) k = e) : (wl cy sz (G, T)).set k (sz + k, e) = wl cy sz (put G k j v, T) := by
  refine wl_set (fun i hi => ?_)
  by_cases hk : i = k
  · subst hk
    rw [if_pos rfl]
    exact h
  · rw [if_neg hk]
    exact cellOf_cong (put_n hk) rfl
theorem wl_D {cy : Nat → ClassId} {sz : Nat} {M : Mem} : va_D (fun q => sz ≤ q) (wl cy sz M) := by
  refine ⟨fun i j p q hi hj hpq => ?_, fun k q hk => ?_⟩
  · have h1 := (wl_get' hi).2
    have h2 := (wl_get' hj).2
    subst h1; subst h2
    have h3 : sz + i = sz + j := hpq
    omega
  · have h1 := (wl_get' hk).2
    subst h1
    show sz ≤ sz + k
    omega
def tyL (cy : Nat → ClassId) : List (ClassId × FieldType) := [(cy 0, .char), (cy 1, .int), (cy 2, .object RX1)]
/-! what every method may take of the machine's tables -/
def nestM : Cond → Bool
  | .methodLinkNest .. => true
  | _ => false
def goodX (w : Cond) : Bool := goodWord w || (w.onTables && w.faceAtom) || nestM w
def TW : List Cond := lw_tbl.filter goodX
theorem tw_in {w : Cond} (h : w ∈ lw_tbl) (hg : goodX w = true) : w ∈ TW := List.mem_filter.mpr ⟨h, hg⟩
theorem tw_warm {args a' : Array Value} {s U : State} (hW : s.WarmedH U.vm) {w : Cond} (hg : goodX w = true) (h : w.before args s = true) : w.before a' U = true := by
  simp only [goodX, Bool.or_eq_true, Bool.and_eq_true] at hg
  rcases hg with (hg | ⟨h1, h2⟩) | hg
  · exact word_at hW (good_of_word hg) h
  · have e := Cond.faceAtom_setVm hW.alike w h2 h
    exact va_Nw.use h1 (U := U) (va_Nw.same h1 (u := s.setVm U.vm) (U := U) rfl (va_Nw.of h1 e))
  · cases w <;> first | (cases hg; done) | exact va_Nw.use rfl (va_Nw.warmM hW (va_Nw.of rfl h))
/-- the strings of the three exceptions -/
def strs (U : State) : Prop := (∃ a, vk_R RX2 229 "there is no such number" a U) ∧ (∃ a, vk_R RX2 236 "the argument is out of range" a U) ∧ (∃ a, vk_R RX2 241 "the pool does not allow this call now" a U)
def ncs : List (String × String) := []
def EN (D : va_G) (cy : Nat → ClassId) (sz : Nat) (U : State) : Prop :=
  (∀ w ∈ TW, w.before #[] U = true) ∧ va_K D vwCl (tyL cy) U ∧ strs U ∧ (∀ q ∈ ncs, va_Nc q.1 q.2 U) ∧
  vx_Zq Bundle.tN "UNASSIGNED_STACK" Bundle.steD (fun q => sz ≤ q) U U.heap ∧ vx_Zq Bundle.tN "SUPPRESSED_SENTINEL" Bundle.listD (fun q => sz ≤ q) U U.heap ∧ sz ≤ U.heap.size
theorem EN.warm {D : va_G} {cy : Nat → ClassId} {sz : Nat} {s U : State} (hW : s.WarmedH U.vm) (hz : s.heap.size ≤ U.heap.size) (hq : ∀ q : Nat, q < s.heap.size → ¬ sz ≤ q → U.heap[q]? = s.heap[q]?) (h : EN D cy sz s) : EN D cy sz U := by
  obtain ⟨h1, h2, ⟨⟨a1, s1⟩, ⟨a2, s2⟩, ⟨a3, s3⟩⟩, h4, h5, h6, h7⟩ := h
  refine ⟨fun w hw => tw_warm hW (List.mem_filter.mp hw).2 (h1 w hw), va_K.moved hW.alike h2, ⟨⟨a1, s1.warm hW⟩, ⟨a2, s2.warm hW⟩, ⟨a3, s3.warm hW⟩⟩, fun q hq => (h4 q hq).moved hW.alike, (h5.moved hW.alike).kept hq, (h6.moved hW.alike).kept hq, Nat.le_trans h7 hz⟩
/-! the judgement -/
def getL : List (Nat × Value) → Nat → Option Value
  | [], _ => none
  | (j, w) :: t, i => bif Nat.beq j i then some w else getL t i
def setL : List (Nat × Value) → Nat → Value → List (Nat × Value)
  | [], i, v => [(i, v)]
  | (j, w) :: t, i, v => bif Nat.beq j i then (i, v) :: t else (j, w) :: setL t i v
theorem getL_mem {L : List (Nat × Value)} {i : Nat} {v : Value} (h : getL L i = some v) : (i, v) ∈ L := by
  induction L with
  | nil => cases h
  | cons q t ih =>
    obtain ⟨j, w⟩ := q
    rw [getL] at h
    cases hb : Nat.beq j i with
    | true =>
      rw [hb] at h
      have e : j = i := Nat.eq_of_beq_eq_true hb
      subst e
      cases h
      exact List.mem_cons_self
    | false =>
      rw [hb] at h
      exact List.mem_cons_of_mem _ (ih h)
theorem setL_mem {L : List (Nat × Value)} {i : Nat} {v : Value} : ∀ q ∈ setL L i v, q = (i, v) ∨ q ∈ L := by
  induction L with
  | nil =>
    intro q hq
    exact Or.inl (List.mem_singleton.mp hq)
  | cons p t ih =>
    obtain ⟨j, w⟩ := p
    intro q hq
    rw [setL] at hq
    cases hb : Nat.beq j i with
    | true =>
      rw [hb] at hq
      rcases List.mem_cons.mp hq with h | h
      · exact Or.inl h
      · exact Or.inr (List.mem_cons_of_mem _ h)
    | false =>
      rw [hb] at hq
      rcases List.mem_cons.mp hq with h | h
      · exact Or.inr (by rw [h]; exact List.mem_cons_self)
      · rcases ih q h with h | h
        · exact Or.inl h
        · exact Or.inr (List.mem_cons_of_mem _ h)
/-- the names of the locals are apart, and each is a word wide -/
def c1 : List (Nat × Value) → Prop
  | [] => True
  | (j, w) :: t => w.category = 1 ∧ (∀ q ∈ t, q.1 ≠ j) ∧ c1 t
theorem c1_cat {L : List (Nat × Value)} (h : c1 L) : ∀ q ∈ L, q.2.category = 1 := by
  induction L with
  | nil => intro q hq; cases hq
  | cons p t ih =>
    obtain ⟨j, w⟩ := p
    intro q hq
    rcases List.mem_cons.mp hq with e | e
    · rw [e]; exact h.1
    · exact ih h.2.2 q e
theorem c1_set {L : List (Nat × Value)} {i : Nat} {v : Value} (h : c1 L) (hv : v.category = 1) : c1 (setL L i v) := by
  induction L with
  | nil => exact ⟨hv, (fun q hq => by cases hq), trivial⟩
  | cons p t ih =>
    obtain ⟨j, w⟩ := p
    rw [setL]
    cases hb : Nat.beq j i with
    | true =>
      have e : j = i := Nat.eq_of_beq_eq_true hb
      subst e
      exact ⟨hv, h.2.1, h.2.2⟩
    | false =>
      refine ⟨h.1, fun q hq => ?_, ih h.2.2⟩
      rcases setL_mem q hq with e | e
      · rw [e]
        intro e2
        have : Nat.beq j i = true := by rw [← e2]; exact Nat.beq_refl _
        rw [hb] at this
        cases this
      · exact h.2.1 q e
theorem setL_has {ls : Array Slot} {nL i : Nat} {v : Value} {L : List (Nat × Value)} (hc : c1 L) (h : lv_has ls nL ((i, v) :: L.filter (fun q => !(q.1 == i) && !(q.1 + 1 == i && q.2.category == 2)))) : lv_has ls nL (setL L i v) := by
  refine ⟨h.1, h.2.1, fun q hq => ?_⟩
  have key : ∀ (L : List (Nat × Value)), c1 L → ∀ q ∈ setL L i v, q = (i, v) ∨ (q ∈ L ∧ q.1 ≠ i) := by
    intro L
    induction L with
    | nil => intro _ q hq; exact Or.inl (List.mem_singleton.mp hq)
    | cons p t ih =>
      obtain ⟨j, w⟩ := p
      intro hc q hq
      rw [setL] at hq
      cases hb : Nat.beq j i with
      | true =>
        have e : j = i := Nat.eq_of_beq_eq_true hb
        subst e
        rw [hb] at hq
        rcases List.mem_cons.mp hq with e | e
        · exact Or.inl e
        · exact Or.inr ⟨List.mem_cons_of_mem _ e, hc.2.1 q e⟩
      | false =>
        rw [hb] at hq
        rcases List.mem_cons.mp hq with e | e
        · refine Or.inr ⟨by rw [e]; exact List.mem_cons_self, ?_⟩
          rw [e]
          intro e2
          have : Nat.beq j i = true := by rw [show j = i from e2]; exact Nat.beq_refl _
          rw [hb] at this
          cases this
        · rcases ih hc.2.2 q e with e | e
          · exact Or.inl e
          · exact Or.inr ⟨List.mem_cons_of_mem _ e.1, e.2⟩
  rcases key L hc q hq with e | ⟨e1, e2⟩
  · exact h.2.2 q (by rw [e]; exact List.mem_cons_self)
  · refine h.2.2 q (List.mem_cons_of_mem _ (List.mem_filter.mpr ⟨e1, ?_⟩))
    have h2 := c1_cat hc q e1
    simp [e2, h2]
/-- the names of the locals are apart, also from a long's second word -/
def c2 : List (Nat × Value) → Prop
  | [] => True
  | (j, w) :: t => (∀ q ∈ t, q.1 ≠ j ∧ (w.category = 2 → q.1 ≠ j + 1) ∧ (q.2.category = 2 → q.1 + 1 ≠ j)) ∧ c2 t
theorem c1.two {L : List (Nat × Value)} (h : c1 L) : c2 L := by
  induction L with
  | nil => trivial
  | cons p t ih =>
    obtain ⟨j, w⟩ := p
    refine ⟨fun q hq => ⟨h.2.1 q hq, fun e => ?_, fun e => ?_⟩, ih h.2.2⟩
    · rw [h.1] at e; cases e
    · rw [c1_cat h.2.2 q hq] at e; cases e
/-- i is no long's second word -/
def noL (L : List (Nat × Value)) (i : Nat) : Bool := L.all fun q => !(Nat.beq (q.1 + 1) i && Nat.beq q.2.category 2)
def mx (L : List (Nat × Value)) (nL i : Nat) : Nat := bif noL L i then i + 1 else nL + 1
theorem mx_c {L : List (Nat × Value)} {nL i : Nat} (h : mx L nL i ≤ nL) : noL L i = true := by
  cases hb : noL L i with
  | true => rfl
  | false =>
    unfold mx at h
    rw [hb] at h
    exact absurd h (Nat.not_succ_le_self nL)
theorem mx_lt {L : List (Nat × Value)} {nL i : Nat} (h : mx L nL i ≤ nL) : i < nL := by
  have hb := mx_c h
  unfold mx at h
  rw [hb] at h
  exact h
theorem noL_at {L : List (Nat × Value)} {i : Nat} (h : noL L i = true) {q : Nat × Value} (hq : q ∈ L) (hc : q.2.category = 2) : q.1 + 1 ≠ i := by
  intro e
  have h1 := List.all_eq_true.mp h q hq
  rw [e, hc, Nat.beq_refl, Nat.beq_refl] at h1
  cases h1
theorem setL_key {L : List (Nat × Value)} {i : Nat} {v : Value} (h : c2 L) : ∀ q ∈ setL L i v, q = (i, v) ∨ (q ∈ L ∧ q.1 ≠ i) := by
  induction L with
  | nil => intro q hq; exact Or.inl (List.mem_singleton.mp hq)
  | cons p t ih =>
    obtain ⟨j, w⟩ := p
    intro q hq
    rw [setL] at hq
    cases hb : Nat.beq j i with
    | true =>
      have e : j = i := Nat.eq_of_beq_eq_true hb
      subst e
      rw [hb] at hq
      rcases List.mem_cons.mp hq with e | e
      · exact Or.inl e
      · exact Or.inr ⟨List.mem_cons_of_mem _ e, (h.1 q e).1⟩
    | false =>
      rw [hb] at hq
      rcases List.mem_cons.mp hq with e | e
      · refine Or.inr ⟨by rw [e]; exact List.mem_cons_self, ?_⟩
        rw [e]
        intro e2
        have : Nat.beq j i = true := by rw [show j = i from e2]; exact Nat.beq_refl _
        rw [hb] at this
        cases this
      · rcases ih h.2 q e with e | e
        · exact Or.inl e
        · exact Or.inr ⟨List.mem_cons_of_mem _ e.1, e.2⟩
theorem c2_set' {L : List (Nat × Value)} {i : Nat} {v : Value} (h : c2 L) (hn : ∀ q ∈ L, q.2.category = 2 → q.1 + 1 ≠ i) (hv : v.category = 2 → ∀ q ∈ L, q.1 ≠ i + 1) : c2 (setL L i v) := by
  induction L with
  | nil => exact ⟨(fun q hq => by cases hq), trivial⟩
  | cons p t ih =>
    obtain ⟨j, w⟩ := p
    rw [setL]
    cases hb : Nat.beq j i with
    | true =>
      have e : j = i := Nat.eq_of_beq_eq_true hb
      subst e
      exact ⟨fun q hq => ⟨(h.1 q hq).1, fun e => hv e q (List.mem_cons_of_mem _ hq), (h.1 q hq).2.2⟩, h.2⟩
    | false =>
      have hji : j ≠ i := fun e => by rw [e, Nat.beq_refl] at hb; cases hb
      refine ⟨fun q hq => ?_, ih h.2 (fun q hq => hn q (List.mem_cons_of_mem _ hq)) (fun e q hq => hv e q (List.mem_cons_of_mem _ hq))⟩
      rcases setL_mem q hq with e | e
      · rw [e]
        exact ⟨fun z => hji z.symm, fun z e2 => hn (j, w) List.mem_cons_self z e2.symm, fun z e2 => hv z (j, w) List.mem_cons_self e2.symm⟩
      · exact h.1 q e
theorem c2_set {L : List (Nat × Value)} {i : Nat} {v : Value} (h : c2 L) (hn : noL L i = true) (hv : v.category = 1) : c2 (setL L i v) :=
  c2_set' h (fun q hq => noL_at hn hq) (fun e => by rw [hv] at e; cases e)
theorem setL_has2 {ls : Array Slot} {nL i : Nat} {v : Value} {L : List (Nat × Value)} (hc : c2 L) (hn : noL L i = true) (h : lv_has ls nL ((i, v) :: L.filter (fun q => !(q.1 == i) && !(q.1 + 1 == i && q.2.category == 2)))) : lv_has ls nL (setL L i v) := by
  refine ⟨h.1, h.2.1, fun q hq => ?_⟩
  rcases setL_key hc q hq with e | ⟨e1, e2⟩
  · exact h.2.2 q (by rw [e]; exact List.mem_cons_self)
  · refine h.2.2 q (List.mem_cons_of_mem _ (List.mem_filter.mpr ⟨e1, ?_⟩))
    have h3 := noL_at hn e1
    by_cases h2 : q.2.category = 2
    · simp [e2, h2, h3 h2]
    · simp [e2, h2]
/-- i + 1 is no local's name -/
def noM (L : List (Nat × Value)) (i : Nat) : Bool := L.all fun q => !(Nat.beq q.1 (i + 1))
theorem noM_at {L : List (Nat × Value)} {i : Nat} (h : noM L i = true) {q : Nat × Value} (hq : q ∈ L) : q.1 ≠ i + 1 := by
  intro e
  have h1 := List.all_eq_true.mp h q hq
  rw [e, Nat.beq_refl] at h1
  cases h1
theorem setL_hasM {ls : Array Slot} {nL i : Nat} {v : Value} {L : List (Nat × Value)} (hc : c2 L) (hn : noL L i = true) (hm : noM L i = true) (h : lv_has ls nL ((i, v) :: L.filter (fun q => !(q.1 == i) && (!(q.1 == i + 1) && !(q.1 + 1 == i && q.2.category == 2))))) : lv_has ls nL (setL L i v) := by
  refine ⟨h.1, h.2.1, fun q hq => ?_⟩
  rcases setL_key hc q hq with e | ⟨e1, e2⟩
  · exact h.2.2 q (by rw [e]; exact List.mem_cons_self)
  · refine h.2.2 q (List.mem_cons_of_mem _ (List.mem_filter.mpr ⟨e1, ?_⟩))
    have h3 := noL_at hn e1
    have h4 := noM_at hm e1
    by_cases h2 : q.2.category = 2
    · simp [e2, h2, h3 h2, h4]
    · simp [e2, h2, h4]
theorem c2_sub {L L' : List (Nat × Value)} (h : c2 L) (hs : L'.Sublist L) : c2 L' := by
  induction hs with
  | slnil => exact h
  | cons a hs ih => exact ih h.2
  | cons_cons a hs ih => exact ⟨fun q hq => h.1 q (hs.subset hq), ih h.2⟩
abbrev VT : Type := Nat → Nat → Nat → List (Nat × Value) → List Value → Mem → Prop
def V (p : Program) (l : Launch) (e : Env) (R : Room) (s : State) (m : MethodId) (args : Array Value) (below : List Frame) (meth : Method) (c : Code) (D : va_G) (cy : Nat → ClassId) (sz : Nat) (Q : State → Prop) (nL : Nat) : VT := fun cells slots pc L st M =>
  ∀ (H : Heap) (locs : List Loc) (ls : Array Slot), lv_has ls nL L → c2 L → va_P D vwCl (wl cy sz M) H → va_S (fun q => sz ≤ q) s.heap H locs → W p l e R s m args below meth c H locs cells slots Q (F0 m pc ls st)
/-- a place in a method: what each row takes -/
def Ctx (VV : VT) (sz : Nat) (own : String) (cc : ByteArray) (R : Room) (nL : Nat) : Prop :=
  ∃ (p : Program) (l : Launch) (e : Env) (s : State) (m : MethodId) (args : Array Value) (below : List Frame) (meth : Method) (c : Code) (D : va_G) (cy : Nat → ClassId) (Q : State → Prop),
    p.tables.exec = Jvm.exec ∧ c.code = cc ∧ c.maxLocals = nL ∧ s.vm.findClass own = some m.cls ∧ (∀ w ∈ TW, w.before args s = true) ∧ EN D cy sz s ∧ l.flags = flags0 ∧ VV = V p l e R s m args below meth c D cy sz Q nL

section ROWS
variable {VV : VT} {sz : Nat} {own : String} {cc : ByteArray} {R : Room} {nL cells slots pc : Nat} {L L' : List (Nat × Value)} {st : List Value} {M : Mem}
theorem ro_iconst {n : Int} {v : Int32} {q : Nat} (h : Ctx VV sz own cc R nL) (hdg : decode cc pc = .ok (.iconst n, 1)) (hv : Int32.ofInt n = v) (hq : pc + 1 = q) (kk : VV cells slots q L (.int v :: st) M) : VV cells slots pc L st M := by
  obtain ⟨p, l, e, s, m, args, below, meth, c, D, cy, Q, hx, hb, hml, hown, hts, hE, hfl, rfl⟩ := h
  subst hq
  intro H locs ls hl hc hP hS
  exact lv_iconst hx hb hdg hv (kk H locs ls hl hc hP hS)
theorem ro_bipush {n : Int} {v : Int32} {q : Nat} (h : Ctx VV sz own cc R nL) (hdg : decode cc pc = .ok (.bipush n, 2)) (hv : (Int8.ofInt n).toInt32 = v) (hq : pc + 2 = q) (kk : VV cells slots q L (.int v :: st) M) : VV cells slots pc L st M := by
  obtain ⟨p, l, e, s, m, args, below, meth, c, D, cy, Q, hx, hb, hml, hown, hts, hE, hfl, rfl⟩ := h
  subst hq
  intro H locs ls hl hc hP hS
  exact lv_bipush hx hb hdg hv (kk H locs ls hl hc hP hS)
theorem ro_sipush {n : Int} {v : Int32} {q : Nat} (h : Ctx VV sz own cc R nL) (hdg : decode cc pc = .ok (.sipush n, 3)) (hv : (Int16.ofInt n).toInt32 = v) (hq : pc + 3 = q) (kk : VV cells slots q L (.int v :: st) M) : VV cells slots pc L st M := by
  obtain ⟨p, l, e, s, m, args, below, meth, c, D, cy, Q, hx, hb, hml, hown, hts, hE, hfl, rfl⟩ := h
  subst hq
  intro H locs ls hl hc hP hS
  exact lv_sipush hx hb hdg hv (kk H locs ls hl hc hP hS)
theorem ro_ldc {index : Nat} {v : Int32} {q : Nat} (h : Ctx VV sz own cc R nL) (hk : Cond.constant own index v ∈ TW) (hdg : decode cc pc = .ok (.ldc index, 2)) (hq : pc + 2 = q) (kk : VV cells slots q L (.int v :: st) M) : VV cells slots pc L st M := by
  obtain ⟨p, l, e, s, m, args, below, meth, c, D, cy, Q, hx, hb, hml, hown, hts, hE, hfl, rfl⟩ := h
  subst hq
  intro H locs ls hl hc hP hS
  exact lv_ldc hx hb hown (hts _ hk) hdg (kk H locs ls hl hc hP hS)
theorem ro_ldcw {index : Nat} {v : Int32} {q : Nat} (h : Ctx VV sz own cc R nL) (hk : Cond.constant own index v ∈ TW) (hdg : decode cc pc = .ok (.ldc_w index, 3)) (hq : pc + 3 = q) (kk : VV cells slots q L (.int v :: st) M) : VV cells slots pc L st M := by
  obtain ⟨p, l, e, s, m, args, below, meth, c, D, cy, Q, hx, hb, hml, hown, hts, hE, hfl, rfl⟩ := h
  subst hq
  intro H locs ls hl hc hP hS
  exact lv_ldcw hx hb hown (hts _ hk) hdg (kk H locs ls hl hc hP hS)
theorem ro_lconst {n : Fin 2} {v : Int64} {q : Nat} (h : Ctx VV sz own cc R nL) (hdg : decode cc pc = .ok (.lconst n, 1)) (hv : Int64.ofNat (n : Nat) = v) (hq : pc + 1 = q) (kk : VV cells slots q L (.long v :: st) M) : VV cells slots pc L st M := by
  obtain ⟨p, l, e, s, m, args, below, meth, c, D, cy, Q, hx, hb, hml, hown, hts, hE, hfl, rfl⟩ := h
  subst hq
  intro H locs ls hl hc hP hS
  exact lv_lconst hx hb hdg hv (kk H locs ls hl hc hP hS)
theorem ro_iload_n {k : Fin 4} {i : Nat} {x : Int32} {q : Nat} (h : Ctx VV sz own cc R nL) (hdg : decode cc pc = .ok (.iload_n k, 1)) (hi : (k : Nat) = i) (hL : getL L i = some (.int x)) (hq : pc + 1 = q) (kk : VV cells slots q L (.int x :: st) M) : VV cells slots pc L st M := by
  obtain ⟨p, l, e, s, m, args, below, meth, c, D, cy, Q, hx, hb, hml, hown, hts, hE, hfl, rfl⟩ := h
  subst hq
  intro H locs ls hl hc hP hS
  exact lv_iload_n hx hb hdg hi (hl.2.2 _ (getL_mem hL)) (kk H locs ls hl hc hP hS)
theorem ro_iload {i : Nat} {x : Int32} {q : Nat} (h : Ctx VV sz own cc R nL) (hdg : decode cc pc = .ok (.iload i, 2)) (hL : getL L i = some (.int x)) (hq : pc + 2 = q) (kk : VV cells slots q L (.int x :: st) M) : VV cells slots pc L st M := by
  obtain ⟨p, l, e, s, m, args, below, meth, c, D, cy, Q, hx, hb, hml, hown, hts, hE, hfl, rfl⟩ := h
  subst hq
  intro H locs ls hl hc hP hS
  exact lv_iload hx hb hdg (hl.2.2 _ (getL_mem hL)) (kk H locs ls hl hc hP hS)
theorem ro_aload_n {k : Fin 4} {i : Nat} {x : Nat} {q : Nat} (h : Ctx VV sz own cc R nL) (hdg : decode cc pc = .ok (.aload_n k, 1)) (hi : (k : Nat) = i) (hL : getL L i = some (.ref x)) (hq : pc + 1 = q) (kk : VV cells slots q L (.ref x :: st) M) : VV cells slots pc L st M := by
  obtain ⟨p, l, e, s, m, args, below, meth, c, D, cy, Q, hx, hb, hml, hown, hts, hE, hfl, rfl⟩ := h
  subst hq
  intro H locs ls hl hc hP hS
  exact lv_aload_n hx hb hdg hi (hl.2.2 _ (getL_mem hL)) (kk H locs ls hl hc hP hS)
theorem ro_aload {i : Nat} {x : Nat} {q : Nat} (h : Ctx VV sz own cc R nL) (hdg : decode cc pc = .ok (.aload i, 2)) (hL : getL L i = some (.ref x)) (hq : pc + 2 = q) (kk : VV cells slots q L (.ref x :: st) M) : VV cells slots pc L st M := by
  obtain ⟨p, l, e, s, m, args, below, meth, c, D, cy, Q, hx, hb, hml, hown, hts, hE, hfl, rfl⟩ := h
  subst hq
  intro H locs ls hl hc hP hS
  exact lv_aload hx hb hdg (hl.2.2 _ (getL_mem hL)) (kk H locs ls hl hc hP hS)
theorem ro_iadd {x y : Int32} {q : Nat} (h : Ctx VV sz own cc R nL) (hdg : decode cc pc = .ok (.iadd, 1)) (hq : pc + 1 = q) (kk : VV cells slots q L (.int (x + y) :: st) M) : VV cells slots pc L (.int y :: .int x :: st) M := by
  obtain ⟨p, l, e, s, m, args, below, meth, c, D, cy, Q, hx, hb, hml, hown, hts, hE, hfl, rfl⟩ := h
  subst hq
  intro H locs ls hl hc hP hS
  exact lv_iadd hx hb hdg (kk H locs ls hl hc hP hS)
theorem ro_isub {x y : Int32} {q : Nat} (h : Ctx VV sz own cc R nL) (hdg : decode cc pc = .ok (.isub, 1)) (hq : pc + 1 = q) (kk : VV cells slots q L (.int (x - y) :: st) M) : VV cells slots pc L (.int y :: .int x :: st) M := by
  obtain ⟨p, l, e, s, m, args, below, meth, c, D, cy, Q, hx, hb, hml, hown, hts, hE, hfl, rfl⟩ := h
  subst hq
  intro H locs ls hl hc hP hS
  exact lv_isub hx hb hdg (kk H locs ls hl hc hP hS)
theorem ro_imul {x y : Int32} {q : Nat} (h : Ctx VV sz own cc R nL) (hdg : decode cc pc = .ok (.imul, 1)) (hq : pc + 1 = q) (kk : VV cells slots q L (.int (x * y) :: st) M) : VV cells slots pc L (.int y :: .int x :: st) M := by
  obtain ⟨p, l, e, s, m, args, below, meth, c, D, cy, Q, hx, hb, hml, hown, hts, hE, hfl, rfl⟩ := h
  subst hq
  intro H locs ls hl hc hP hS
  exact lv_imul hx hb hdg (kk H locs ls hl hc hP hS)
theorem ro_iand {x y : Int32} {q : Nat} (h : Ctx VV sz own cc R nL) (hdg : decode cc pc = .ok (.iand, 1)) (hq : pc + 1 = q) (kk : VV cells slots q L (.int (x &&& y) :: st) M) : VV cells slots pc L (.int y :: .int x :: st) M := by
  obtain ⟨p, l, e, s, m, args, below, meth, c, D, cy, Q, hx, hb, hml, hown, hts, hE, hfl, rfl⟩ := h
  subst hq
  intro H locs ls hl hc hP hS
  exact lv_iand hx hb hdg (kk H locs ls hl hc hP hS)
theorem ro_ior {x y : Int32} {q : Nat} (h : Ctx VV sz own cc R nL) (hdg : decode cc pc = .ok (.ior, 1)) (hq : pc + 1 = q) (kk : VV cells slots q L (.int (x ||| y) :: st) M) : VV cells slots pc L (.int y :: .int x :: st) M := by
  obtain ⟨p, l, e, s, m, args, below, meth, c, D, cy, Q, hx, hb, hml, hown, hts, hE, hfl, rfl⟩ := h
  subst hq
  intro H locs ls hl hc hP hS
  exact lv_ior hx hb hdg (kk H locs ls hl hc hP hS)
theorem ro_ixor {x y : Int32} {q : Nat} (h : Ctx VV sz own cc R nL) (hdg : decode cc pc = .ok (.ixor, 1)) (hq : pc + 1 = q) (kk : VV cells slots q L (.int (x ^^^ y) :: st) M) : VV cells slots pc L (.int y :: .int x :: st) M := by
  obtain ⟨p, l, e, s, m, args, below, meth, c, D, cy, Q, hx, hb, hml, hown, hts, hE, hfl, rfl⟩ := h
  subst hq
  intro H locs ls hl hc hP hS
  exact lv_ixor hx hb hdg (kk H locs ls hl hc hP hS)
theorem ro_ishl {x y : Int32} {q : Nat} (h : Ctx VV sz own cc R nL) (hdg : decode cc pc = .ok (.ishl, 1)) (hq : pc + 1 = q) (kk : VV cells slots q L (.int (x <<< (y &&& 31)) :: st) M) : VV cells slots pc L (.int y :: .int x :: st) M := by
  obtain ⟨p, l, e, s, m, args, below, meth, c, D, cy, Q, hx, hb, hml, hown, hts, hE, hfl, rfl⟩ := h
  subst hq
  intro H locs ls hl hc hP hS
  exact lv_ishl hx hb hdg (kk H locs ls hl hc hP hS)
theorem ro_ishr {x y : Int32} {q : Nat} (h : Ctx VV sz own cc R nL) (hdg : decode cc pc = .ok (.ishr, 1)) (hq : pc + 1 = q) (kk : VV cells slots q L (.int (x >>> (y &&& 31)) :: st) M) : VV cells slots pc L (.int y :: .int x :: st) M := by
  obtain ⟨p, l, e, s, m, args, below, meth, c, D, cy, Q, hx, hb, hml, hown, hts, hE, hfl, rfl⟩ := h
  subst hq
  intro H locs ls hl hc hP hS
  exact lv_ishr hx hb hdg (kk H locs ls hl hc hP hS)
theorem ro_iushr {x y v : Int32} {q : Nat} (h : Ctx VV sz own cc R nL) (hdg : decode cc pc = .ok (.iushr, 1)) (hv : (x.toUInt32 >>> (y.toUInt32 &&& Int32.toUInt32 31)).toInt32 = v) (hq : pc + 1 = q) (kk : VV cells slots q L (.int v :: st) M) : VV cells slots pc L (.int y :: .int x :: st) M := by
  obtain ⟨p, l, e, s, m, args, below, meth, c, D, cy, Q, hx, hb, hml, hown, hts, hE, hfl, rfl⟩ := h
  subst hq
  intro H locs ls hl hc hP hS
  exact lv_iushr hx hb hdg hv (kk H locs ls hl hc hP hS)
theorem ro_idiv {x y v : Int32} {q : Nat} (h : Ctx VV sz own cc R nL) (hdg : decode cc pc = .ok (.idiv, 1)) (hne : ¬ y = 0) (hv : x / y = v) (hq : pc + 1 = q) (kk : VV cells slots q L (.int v :: st) M) : VV cells slots pc L (.int y :: .int x :: st) M := by
  obtain ⟨p, l, e, s, m, args, below, meth, c, D, cy, Q, hx, hb, hml, hown, hts, hE, hfl, rfl⟩ := h
  subst hq
  intro H locs ls hl hc hP hS
  exact lv_idiv hx hb hdg hne <| by rw [hv]; exact (kk H locs ls hl hc hP hS)
theorem ro_irem {x y v : Int32} {q : Nat} (h : Ctx VV sz own cc R nL) (hdg : decode cc pc = .ok (.irem, 1)) (hne : ¬ y = 0) (hv : x - x / y * y = v) (hq : pc + 1 = q) (kk : VV cells slots q L (.int v :: st) M) : VV cells slots pc L (.int y :: .int x :: st) M := by
  obtain ⟨p, l, e, s, m, args, below, meth, c, D, cy, Q, hx, hb, hml, hown, hts, hE, hfl, rfl⟩ := h
  subst hq
  intro H locs ls hl hc hP hS
  exact lv_irem hx hb hdg hne <| by rw [hv]; exact (kk H locs ls hl hc hP hS)
theorem ro_i2l {x : Int32} {v : Int64} {q : Nat} (h : Ctx VV sz own cc R nL) (hdg : decode cc pc = .ok (.i2l, 1)) (hv : x.toInt64 = v) (hq : pc + 1 = q) (kk : VV cells slots q L (.long v :: st) M) : VV cells slots pc L (.int x :: st) M := by
  obtain ⟨p, l, e, s, m, args, below, meth, c, D, cy, Q, hx, hb, hml, hown, hts, hE, hfl, rfl⟩ := h
  subst hq
  intro H locs ls hl hc hP hS
  exact lv_i2l hx hb hdg hv (kk H locs ls hl hc hP hS)
theorem ro_i2c {x v : Int32} {q : Nat} (h : Ctx VV sz own cc R nL) (hdg : decode cc pc = .ok (.i2c, 1)) (hv : (x.toUInt32 % 65536).toInt32 = v) (hq : pc + 1 = q) (kk : VV cells slots q L (.int v :: st) M) : VV cells slots pc L (.int x :: st) M := by
  obtain ⟨p, l, e, s, m, args, below, meth, c, D, cy, Q, hx, hb, hml, hown, hts, hE, hfl, rfl⟩ := h
  subst hq
  intro H locs ls hl hc hP hS
  exact lv_i2c hx hb hdg hv (kk H locs ls hl hc hP hS)
theorem ro_lcmp {x y : Int64} {q : Nat} (h : Ctx VV sz own cc R nL) (hdg : decode cc pc = .ok (.lcmp, 1)) (hq : pc + 1 = q) (kk : VV cells slots q L (.int (lg_cmp x y) :: st) M) : VV cells slots pc L (.long y :: .long x :: st) M := by
  obtain ⟨p, l, e, s, m, args, below, meth, c, D, cy, Q, hx, hb, hml, hown, hts, hE, hfl, rfl⟩ := h
  subst hq
  intro H locs ls hl hc hP hS
  exact W.lcmp hx hb hdg (kk H locs ls hl hc hP hS)
theorem ro_dup {va : Value} {q : Nat} (h : Ctx VV sz own cc R nL) (hdg : decode cc pc = .ok (.dup, 1)) (hva : va.category = 1) (hq : pc + 1 = q) (kk : VV cells slots q L (va :: va :: st) M) : VV cells slots pc L (va :: st) M := by
  obtain ⟨p, l, e, s, m, args, below, meth, c, D, cy, Q, hx, hb, hml, hown, hts, hE, hfl, rfl⟩ := h
  subst hq
  intro H locs ls hl hc hP hS
  exact lv_dup hx hb hdg hva (kk H locs ls hl hc hP hS)
theorem ro_dup2 {va vb : Value} {q : Nat} (h : Ctx VV sz own cc R nL) (hdg : decode cc pc = .ok (.dup2, 1)) (hva : va.category = 1) (hvb : vb.category = 1) (hq : pc + 1 = q) (kk : VV cells slots q L (va :: vb :: va :: vb :: st) M) : VV cells slots pc L (va :: vb :: st) M := by
  obtain ⟨p, l, e, s, m, args, below, meth, c, D, cy, Q, hx, hb, hml, hown, hts, hE, hfl, rfl⟩ := h
  subst hq
  intro H locs ls hl hc hP hS
  exact lv_dup2_11 hx hb hdg hva hvb (kk H locs ls hl hc hP hS)
theorem ro_pop {va : Value} {q : Nat} (h : Ctx VV sz own cc R nL) (hdg : decode cc pc = .ok (.pop, 1)) (hva : va.category = 1) (hq : pc + 1 = q) (kk : VV cells slots q L st M) : VV cells slots pc L (va :: st) M := by
  obtain ⟨p, l, e, s, m, args, below, meth, c, D, cy, Q, hx, hb, hml, hown, hts, hE, hfl, rfl⟩ := h
  subst hq
  intro H locs ls hl hc hP hS
  exact lv_pop hx hb hdg hva (kk H locs ls hl hc hP hS)
theorem ro_goto {off : Int} {tgt : Nat} (h : Ctx VV sz own cc R nL) (hdg : decode cc pc = .ok (.goto off, 3)) (ht : (pc : Int) + off = (tgt : Int)) (kk : VV cells slots tgt L st M) : VV cells slots pc L st M := by
  obtain ⟨p, l, e, s, m, args, below, meth, c, D, cy, Q, hx, hb, hml, hown, hts, hE, hfl, rfl⟩ := h
  intro H locs ls hl hc hP hS
  exact lv_goto hx hb hdg ht (kk H locs ls hl hc hP hS)
theorem ro_ifnonnull {x : Nat} {off : Int} {tgt : Nat} (h : Ctx VV sz own cc R nL) (hdg : decode cc pc = .ok (.ifnonnull off, 3)) (ht : (pc : Int) + off = (tgt : Int)) (kk : VV cells slots tgt L st M) : VV cells slots pc L (.ref x :: st) M := by
  obtain ⟨p, l, e, s, m, args, below, meth, c, D, cy, Q, hx, hb, hml, hown, hts, hE, hfl, rfl⟩ := h
  intro H locs ls hl hc hP hS
  exact lv_ifnonnull hx hb hdg ht (kk H locs ls hl hc hP hS)
theorem ro_ifnull {x : Nat} {off : Int} {q : Nat} (h : Ctx VV sz own cc R nL) (hdg : decode cc pc = .ok (.ifnull off, 3)) (hq : pc + 3 = q) (kk : VV cells slots q L st M) : VV cells slots pc L (.ref x :: st) M := by
  obtain ⟨p, l, e, s, m, args, below, meth, c, D, cy, Q, hx, hb, hml, hown, hts, hE, hfl, rfl⟩ := h
  subst hq
  intro H locs ls hl hc hP hS
  exact lv_ifnull hx hb hdg (kk H locs ls hl hc hP hS)
theorem ro_tableOut {dflt lo hi : Int} {offs : Array Int} {len : Nat} {x : Int32} {tgt : Nat} (h : Ctx VV sz own cc R nL) (hdg : decode cc pc = .ok (.tableswitch dflt lo hi offs, len)) (hr : x.toInt < lo ∨ hi < x.toInt) (ht : (pc : Int) + dflt = (tgt : Int)) (kk : VV cells slots tgt L st M) : VV cells slots pc L (.int x :: st) M := by
  obtain ⟨p, l, e, s, m, args, below, meth, c, D, cy, Q, hx, hb, hml, hown, hts, hE, hfl, rfl⟩ := h
  intro H locs ls hl hc hP hS
  exact lv_tableOut hx hb hdg hr ht (kk H locs ls hl hc hP hS)
theorem ro_tableIn {dflt lo hi : Int} {offs : Array Int} {len : Nat} {x : Int32} {off : Int} {tgt : Nat} (h : Ctx VV sz own cc R nL) (hdg : decode cc pc = .ok (.tableswitch dflt lo hi offs, len)) (h1 : ¬ x.toInt < lo) (h2 : ¬ hi < x.toInt) (ho : offs[(x.toInt - lo).toNat]? = some off) (ht : (pc : Int) + off = (tgt : Int)) (kk : VV cells slots tgt L st M) : VV cells slots pc L (.int x :: st) M := by
  obtain ⟨p, l, e, s, m, args, below, meth, c, D, cy, Q, hx, hb, hml, hown, hts, hE, hfl, rfl⟩ := h
  intro H locs ls hl hc hP hS
  exact lv_tableIn hx hb hdg h1 h2 ho ht (kk H locs ls hl hc hP hS)
theorem ro_if_eq {x : Int32} {off : Int} {tgt q : Nat} (h : Ctx VV sz own cc R nL) (hdg : decode cc pc = .ok (.ifCond .eq off, 3)) (ht : (pc : Int) + off = (tgt : Int)) (hq : pc + 3 = q) (kt : x = 0 → VV cells slots tgt L st M) (kf : ¬ (x = 0) → VV cells slots q L st M) : VV cells slots pc L (.int x :: st) M := by
  obtain ⟨p, l, e, s, m, args, below, meth, c, D, cy, Q, hx, hb, hml, hown, hts, hE, hfl, rfl⟩ := h
  subst hq
  intro H locs ls hl hc hP hS
  exact lv_if_eq hx hb hdg ht (fun q9 => kt q9 H locs ls hl hc hP hS) (fun q9 => kf q9 H locs ls hl hc hP hS)
theorem ro_if_ne {x : Int32} {off : Int} {tgt q : Nat} (h : Ctx VV sz own cc R nL) (hdg : decode cc pc = .ok (.ifCond .ne off, 3)) (ht : (pc : Int) + off = (tgt : Int)) (hq : pc + 3 = q) (kt : ¬ x = 0 → VV cells slots tgt L st M) (kf : x = 0 → VV cells slots q L st M) : VV cells slots pc L (.int x :: st) M := by
  obtain ⟨p, l, e, s, m, args, below, meth, c, D, cy, Q, hx, hb, hml, hown, hts, hE, hfl, rfl⟩ := h
  subst hq
  intro H locs ls hl hc hP hS
  exact lv_if_ne hx hb hdg ht (fun q9 => kt q9 H locs ls hl hc hP hS) (fun q9 => kf q9 H locs ls hl hc hP hS)
theorem ro_if_lt {x : Int32} {off : Int} {tgt q : Nat} (h : Ctx VV sz own cc R nL) (hdg : decode cc pc = .ok (.ifCond .lt off, 3)) (ht : (pc : Int) + off = (tgt : Int)) (hq : pc + 3 = q) (kt : x < 0 → VV cells slots tgt L st M) (kf : ¬ (x < 0) → VV cells slots q L st M) : VV cells slots pc L (.int x :: st) M := by
  obtain ⟨p, l, e, s, m, args, below, meth, c, D, cy, Q, hx, hb, hml, hown, hts, hE, hfl, rfl⟩ := h
  subst hq
  intro H locs ls hl hc hP hS
  exact lv_if_lt hx hb hdg ht (fun q9 => kt q9 H locs ls hl hc hP hS) (fun q9 => kf q9 H locs ls hl hc hP hS)
theorem ro_if_ge {x : Int32} {off : Int} {tgt q : Nat} (h : Ctx VV sz own cc R nL) (hdg : decode cc pc = .ok (.ifCond .ge off, 3)) (ht : (pc : Int) + off = (tgt : Int)) (hq : pc + 3 = q) (kt : 0 ≤ x → VV cells slots tgt L st M) (kf : ¬ (0 ≤ x) → VV cells slots q L st M) : VV cells slots pc L (.int x :: st) M := by
  obtain ⟨p, l, e, s, m, args, below, meth, c, D, cy, Q, hx, hb, hml, hown, hts, hE, hfl, rfl⟩ := h
  subst hq
  intro H locs ls hl hc hP hS
  exact lv_if_ge hx hb hdg ht (fun q9 => kt q9 H locs ls hl hc hP hS) (fun q9 => kf q9 H locs ls hl hc hP hS)
theorem ro_if_gt {x : Int32} {off : Int} {tgt q : Nat} (h : Ctx VV sz own cc R nL) (hdg : decode cc pc = .ok (.ifCond .gt off, 3)) (ht : (pc : Int) + off = (tgt : Int)) (hq : pc + 3 = q) (kt : 0 < x → VV cells slots tgt L st M) (kf : ¬ (0 < x) → VV cells slots q L st M) : VV cells slots pc L (.int x :: st) M := by
  obtain ⟨p, l, e, s, m, args, below, meth, c, D, cy, Q, hx, hb, hml, hown, hts, hE, hfl, rfl⟩ := h
  subst hq
  intro H locs ls hl hc hP hS
  exact lv_if_gt hx hb hdg ht (fun q9 => kt q9 H locs ls hl hc hP hS) (fun q9 => kf q9 H locs ls hl hc hP hS)
theorem ro_if_le {x : Int32} {off : Int} {tgt q : Nat} (h : Ctx VV sz own cc R nL) (hdg : decode cc pc = .ok (.ifCond .le off, 3)) (ht : (pc : Int) + off = (tgt : Int)) (hq : pc + 3 = q) (kt : x ≤ 0 → VV cells slots tgt L st M) (kf : ¬ (x ≤ 0) → VV cells slots q L st M) : VV cells slots pc L (.int x :: st) M := by
  obtain ⟨p, l, e, s, m, args, below, meth, c, D, cy, Q, hx, hb, hml, hown, hts, hE, hfl, rfl⟩ := h
  subst hq
  intro H locs ls hl hc hP hS
  exact lv_if_le hx hb hdg ht (fun q9 => kt q9 H locs ls hl hc hP hS) (fun q9 => kf q9 H locs ls hl hc hP hS)
theorem ro_icmp_eq {x y : Int32} {off : Int} {tgt q : Nat} (h : Ctx VV sz own cc R nL) (hdg : decode cc pc = .ok (.if_icmp .eq off, 3)) (ht : (pc : Int) + off = (tgt : Int)) (hq : pc + 3 = q) (kt : x = y → VV cells slots tgt L st M) (kf : ¬ (x = y) → VV cells slots q L st M) : VV cells slots pc L (.int y :: .int x :: st) M := by
  obtain ⟨p, l, e, s, m, args, below, meth, c, D, cy, Q, hx, hb, hml, hown, hts, hE, hfl, rfl⟩ := h
  subst hq
  intro H locs ls hl hc hP hS
  exact lv_icmp_eq hx hb hdg ht (fun q9 => kt q9 H locs ls hl hc hP hS) (fun q9 => kf q9 H locs ls hl hc hP hS)
theorem ro_icmp_ne {x y : Int32} {off : Int} {tgt q : Nat} (h : Ctx VV sz own cc R nL) (hdg : decode cc pc = .ok (.if_icmp .ne off, 3)) (ht : (pc : Int) + off = (tgt : Int)) (hq : pc + 3 = q) (kt : ¬ x = y → VV cells slots tgt L st M) (kf : x = y → VV cells slots q L st M) : VV cells slots pc L (.int y :: .int x :: st) M := by
  obtain ⟨p, l, e, s, m, args, below, meth, c, D, cy, Q, hx, hb, hml, hown, hts, hE, hfl, rfl⟩ := h
  subst hq
  intro H locs ls hl hc hP hS
  exact lv_icmp_ne hx hb hdg ht (fun q9 => kt q9 H locs ls hl hc hP hS) (fun q9 => kf q9 H locs ls hl hc hP hS)
theorem ro_icmp_lt {x y : Int32} {off : Int} {tgt q : Nat} (h : Ctx VV sz own cc R nL) (hdg : decode cc pc = .ok (.if_icmp .lt off, 3)) (ht : (pc : Int) + off = (tgt : Int)) (hq : pc + 3 = q) (kt : x < y → VV cells slots tgt L st M) (kf : ¬ (x < y) → VV cells slots q L st M) : VV cells slots pc L (.int y :: .int x :: st) M := by
  obtain ⟨p, l, e, s, m, args, below, meth, c, D, cy, Q, hx, hb, hml, hown, hts, hE, hfl, rfl⟩ := h
  subst hq
  intro H locs ls hl hc hP hS
  exact lv_icmp_lt hx hb hdg ht (fun q9 => kt q9 H locs ls hl hc hP hS) (fun q9 => kf q9 H locs ls hl hc hP hS)
theorem ro_icmp_ge {x y : Int32} {off : Int} {tgt q : Nat} (h : Ctx VV sz own cc R nL) (hdg : decode cc pc = .ok (.if_icmp .ge off, 3)) (ht : (pc : Int) + off = (tgt : Int)) (hq : pc + 3 = q) (kt : y ≤ x → VV cells slots tgt L st M) (kf : ¬ (y ≤ x) → VV cells slots q L st M) : VV cells slots pc L (.int y :: .int x :: st) M := by
  obtain ⟨p, l, e, s, m, args, below, meth, c, D, cy, Q, hx, hb, hml, hown, hts, hE, hfl, rfl⟩ := h
  subst hq
  intro H locs ls hl hc hP hS
  exact lv_icmp_ge hx hb hdg ht (fun q9 => kt q9 H locs ls hl hc hP hS) (fun q9 => kf q9 H locs ls hl hc hP hS)
theorem ro_icmp_gt {x y : Int32} {off : Int} {tgt q : Nat} (h : Ctx VV sz own cc R nL) (hdg : decode cc pc = .ok (.if_icmp .gt off, 3)) (ht : (pc : Int) + off = (tgt : Int)) (hq : pc + 3 = q) (kt : y < x → VV cells slots tgt L st M) (kf : ¬ (y < x) → VV cells slots q L st M) : VV cells slots pc L (.int y :: .int x :: st) M := by
  obtain ⟨p, l, e, s, m, args, below, meth, c, D, cy, Q, hx, hb, hml, hown, hts, hE, hfl, rfl⟩ := h
  subst hq
  intro H locs ls hl hc hP hS
  exact lv_icmp_gt hx hb hdg ht (fun q9 => kt q9 H locs ls hl hc hP hS) (fun q9 => kf q9 H locs ls hl hc hP hS)
theorem ro_icmp_le {x y : Int32} {off : Int} {tgt q : Nat} (h : Ctx VV sz own cc R nL) (hdg : decode cc pc = .ok (.if_icmp .le off, 3)) (ht : (pc : Int) + off = (tgt : Int)) (hq : pc + 3 = q) (kt : x ≤ y → VV cells slots tgt L st M) (kf : ¬ (x ≤ y) → VV cells slots q L st M) : VV cells slots pc L (.int y :: .int x :: st) M := by
  obtain ⟨p, l, e, s, m, args, below, meth, c, D, cy, Q, hx, hb, hml, hown, hts, hE, hfl, rfl⟩ := h
  subst hq
  intro H locs ls hl hc hP hS
  exact lv_icmp_le hx hb hdg ht (fun q9 => kt q9 H locs ls hl hc hP hS) (fun q9 => kf q9 H locs ls hl hc hP hS)
theorem ro_istore_n {k : Fin 4} {i q : Nat} {x : Int32} (h : Ctx VV sz own cc R nL) (hdg : decode cc pc = .ok (.istore_n k, 1)) (hi : (k : Nat) = i) (hn : mx L nL i ≤ nL) (hq : pc + 1 = q) (kk : VV cells slots q (setL L i (.int x)) st M) : VV cells slots pc L (.int x :: st) M := by
  obtain ⟨p, l, e, s, m, args, below, meth, c, D, cy, Q, hx, hb, hml, hown, hts, hE, hfl, rfl⟩ := h
  subst hq
  intro H locs ls hl hc hP hS
  exact lv_istore_n hx hb hdg hi hl (mx_lt hn) rfl (fun ls1 h1 => kk H locs ls1 (setL_has2 hc (mx_c hn) h1) (c2_set hc (mx_c hn) rfl) hP hS)
theorem ro_istore {i q : Nat} {x : Int32} (h : Ctx VV sz own cc R nL) (hdg : decode cc pc = .ok (.istore i, 2)) (hn : mx L nL i ≤ nL) (hq : pc + 2 = q) (kk : VV cells slots q (setL L i (.int x)) st M) : VV cells slots pc L (.int x :: st) M := by
  obtain ⟨p, l, e, s, m, args, below, meth, c, D, cy, Q, hx, hb, hml, hown, hts, hE, hfl, rfl⟩ := h
  subst hq
  intro H locs ls hl hc hP hS
  exact lv_istore hx hb hdg hl (mx_lt hn) rfl (fun ls1 h1 => kk H locs ls1 (setL_has2 hc (mx_c hn) h1) (c2_set hc (mx_c hn) rfl) hP hS)
theorem ro_astore_n {k : Fin 4} {i q : Nat} {x : Nat} (h : Ctx VV sz own cc R nL) (hdg : decode cc pc = .ok (.astore_n k, 1)) (hi : (k : Nat) = i) (hn : mx L nL i ≤ nL) (hq : pc + 1 = q) (kk : VV cells slots q (setL L i (.ref x)) st M) : VV cells slots pc L (.ref x :: st) M := by
  obtain ⟨p, l, e, s, m, args, below, meth, c, D, cy, Q, hx, hb, hml, hown, hts, hE, hfl, rfl⟩ := h
  subst hq
  intro H locs ls hl hc hP hS
  exact lv_astore_n hx hb hdg hi hl (mx_lt hn) rfl (fun ls1 h1 => kk H locs ls1 (setL_has2 hc (mx_c hn) h1) (c2_set hc (mx_c hn) rfl) hP hS)
theorem ro_astore {i q : Nat} {x : Nat} (h : Ctx VV sz own cc R nL) (hdg : decode cc pc = .ok (.astore i, 2)) (hn : mx L nL i ≤ nL) (hq : pc + 2 = q) (kk : VV cells slots q (setL L i (.ref x)) st M) : VV cells slots pc L (.ref x :: st) M := by
  obtain ⟨p, l, e, s, m, args, below, meth, c, D, cy, Q, hx, hb, hml, hown, hts, hE, hfl, rfl⟩ := h
  subst hq
  intro H locs ls hl hc hP hS
  exact lv_astore hx hb hdg hl (mx_lt hn) rfl (fun ls1 h1 => kk H locs ls1 (setL_has2 hc (mx_c hn) h1) (c2_set hc (mx_c hn) rfl) hP hS)
theorem ro_iinc {i q : Nat} {n : Int} {x v : Int32} (h : Ctx VV sz own cc R nL) (hdg : decode cc pc = .ok (.iinc i n, 3)) (hg : getL L i = some (.int x)) (hv : x + Int32.ofInt n = v) (hn : mx L nL i ≤ nL) (hq : pc + 3 = q) (kk : VV cells slots q (setL L i (.int v)) st M) : VV cells slots pc L st M := by
  obtain ⟨p, l, e, s, m, args, below, meth, c, D, cy, Q, hx, hb, hml, hown, hts, hE, hfl, rfl⟩ := h
  subst hq
  intro H locs ls hl hc hP hS
  obtain ⟨k, hk⟩ := List.getElem?_of_mem (getL_mem hg)
  exact lv_iinc hx hb hdg hl hk hv (mx_lt hn) rfl (fun ls1 h1 => kk H locs ls1 (setL_has2 hc (mx_c hn) h1) (c2_set hc (mx_c hn) rfl) hP hS)
theorem c1_sub {L L' : List (Nat × Value)} (h : c1 L) (hs : L'.Sublist L) : c1 L' := by
  induction hs with
  | slnil => exact h
  | cons a hs ih => exact ih h.2.2
  | cons_cons a hs ih => exact ⟨h.1, fun q hq => h.2.1 q (hs.subset hq), ih h.2.2⟩
def dropL (L : List (Nat × Value)) (ks : List Nat) : List (Nat × Value) := L.filter (fun q => ks.all (fun k => !(Nat.beq q.1 k)))
theorem ro_drop (ks : List Nat) (h : Ctx VV sz own cc R nL) (hL : dropL L ks = L') (kk : VV cells slots pc L' st M) : VV cells slots pc L st M := by
  obtain ⟨p, l, e, s, m, args, below, meth, c, D, cy, Q, hx, hb, hml, hown, hts, hE, hfl, rfl⟩ := h
  intro H locs ls hl hc hP hS
  subst hL
  exact kk H locs ls ⟨hl.1, hl.2.1, fun q hq => hl.2.2 q (List.mem_filter.mp hq).1⟩ (c2_sub hc List.filter_sublist) hP hS
theorem ro_lload_n {k : Fin 4} {i : Nat} {x : Int64} {q : Nat} (h : Ctx VV sz own cc R nL) (hdg : decode cc pc = .ok (.lload_n k, 1)) (hi : (k : Nat) = i) (hL : getL L i = some (.long x)) (hq : pc + 1 = q) (kk : VV cells slots q L (.long x :: st) M) : VV cells slots pc L st M := by
  obtain ⟨p, l, e, s, m, args, below, meth, c, D, cy, Q, hx, hb, hml, hown, hts, hE, hfl, rfl⟩ := h
  subst hq
  intro H locs ls hl hc hP hS
  exact lv_lload_n hx hb hdg hi (hl.2.2 _ (getL_mem hL)) (kk H locs ls hl hc hP hS)
theorem ro_lload {i : Nat} {x : Int64} {q : Nat} (h : Ctx VV sz own cc R nL) (hdg : decode cc pc = .ok (.lload i, 2)) (hL : getL L i = some (.long x)) (hq : pc + 2 = q) (kk : VV cells slots q L (.long x :: st) M) : VV cells slots pc L st M := by
  obtain ⟨p, l, e, s, m, args, below, meth, c, D, cy, Q, hx, hb, hml, hown, hts, hE, hfl, rfl⟩ := h
  subst hq
  intro H locs ls hl hc hP hS
  exact lv_lload hx hb hdg (hl.2.2 _ (getL_mem hL)) (kk H locs ls hl hc hP hS)
theorem ro_ladd {x y : Int64} {q : Nat} (h : Ctx VV sz own cc R nL) (hdg : decode cc pc = .ok (.ladd, 1)) (hq : pc + 1 = q) (kk : VV cells slots q L (.long (x + y) :: st) M) : VV cells slots pc L (.long y :: .long x :: st) M := by
  obtain ⟨p, l, e, s, m, args, below, meth, c, D, cy, Q, hx, hb, hml, hown, hts, hE, hfl, rfl⟩ := h
  subst hq
  intro H locs ls hl hc hP hS
  exact lv_ladd hx hb hdg (kk H locs ls hl hc hP hS)
theorem ro_lmul {x y : Int64} {q : Nat} (h : Ctx VV sz own cc R nL) (hdg : decode cc pc = .ok (.lmul, 1)) (hq : pc + 1 = q) (kk : VV cells slots q L (.long (x * y) :: st) M) : VV cells slots pc L (.long y :: .long x :: st) M := by
  obtain ⟨p, l, e, s, m, args, below, meth, c, D, cy, Q, hx, hb, hml, hown, hts, hE, hfl, rfl⟩ := h
  subst hq
  intro H locs ls hl hc hP hS
  exact lv_lmul hx hb hdg (kk H locs ls hl hc hP hS)
theorem ro_ldc2 {index : Nat} {v : Int64} {q : Nat} (h : Ctx VV sz own cc R nL) (hk : Cond.constantLong own index v ∈ TW) (hdg : decode cc pc = .ok (.ldc2_w index, 3)) (hq : pc + 3 = q) (kk : VV cells slots q L (.long v :: st) M) : VV cells slots pc L st M := by
  obtain ⟨p, l, e, s, m, args, below, meth, c, D, cy, Q, hx, hb, hml, hown, hts, hE, hfl, rfl⟩ := h
  subst hq
  intro H locs ls hl hc hP hS
  exact lv_ldc2 hx hb hown (hts _ hk) hdg (kk H locs ls hl hc hP hS)
theorem ro_lstore_n {k : Fin 4} {i q : Nat} {x : Int64} (h : Ctx VV sz own cc R nL) (hdg : decode cc pc = .ok (.lstore_n k, 1)) (hi : (k : Nat) = i) (hn : mx L nL i ≤ nL) (hm : noM L i = true) (hn2 : i + 1 < nL) (hq : pc + 1 = q) (kk : VV cells slots q (setL L i (.long x)) st M) : VV cells slots pc L (.long x :: st) M := by
  obtain ⟨p, l, e, s, m, args, below, meth, c, D, cy, Q, hx, hb, hml, hown, hts, hE, hfl, rfl⟩ := h
  subst hq
  intro H locs ls hl hc hP hS
  exact lv_lstore_n hx hb hdg hi hl hn2 rfl (fun ls1 h1 => kk H locs ls1 (setL_hasM hc (mx_c hn) hm h1) (c2_set' hc (fun q hq => noL_at (mx_c hn) hq) (fun _ q hq => noM_at hm hq)) hP hS)
theorem ro_lstore {i q : Nat} {x : Int64} (h : Ctx VV sz own cc R nL) (hdg : decode cc pc = .ok (.lstore i, 2)) (hn : mx L nL i ≤ nL) (hm : noM L i = true) (hn2 : i + 1 < nL) (hq : pc + 2 = q) (kk : VV cells slots q (setL L i (.long x)) st M) : VV cells slots pc L (.long x :: st) M := by
  obtain ⟨p, l, e, s, m, args, below, meth, c, D, cy, Q, hx, hb, hml, hown, hts, hE, hfl, rfl⟩ := h
  subst hq
  intro H locs ls hl hc hP hS
  exact lv_lstore hx hb hdg hl hn2 rfl (fun ls1 h1 => kk H locs ls1 (setL_hasM hc (mx_c hn) hm h1) (c2_set' hc (fun q hq => noL_at (mx_c hn) hq) (fun _ q hq => noM_at hm hq)) hP hS)
end ROWS
theorem vv_M {VV : VT} {cells slots pc : Nat} {L : List (Nat × Value)} {st : List Value} {M M' : Mem} (h : M = M') (k : VV cells slots pc L st M') : VV cells slots pc L st M := h ▸ k
theorem vv_top {VV : VT} {cells slots pc : Nat} {L : List (Nat × Value)} {st : List Value} {M : Mem} {x y : Int32} (h : x = y) (k : VV cells slots pc L (.int y :: st) M) : VV cells slots pc L (.int x :: st) M := h ▸ k
theorem vv_L {VV : VT} {cells slots pc : Nat} {L L' : List (Nat × Value)} {st : List Value} {M : Mem} (h : L = L') (k : VV cells slots pc L' st M) : VV cells slots pc L st M := h ▸ k
