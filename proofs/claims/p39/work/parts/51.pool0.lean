/-! a new exception with a text, thrown out of the method -/
theorem ro_throwS {VV : VT} {sz : Nat} {own : String} {cc : ByteArray} {R : Room} {nL cells slots pc ik is ic mc2 ms2 : Nat} {L : List (Nat × Value)} {M : Mem} {rt : Option FieldType} {cls text : String} {names : List String}
    (h : CtxF VV sz own cc rt R nL (.inr cls) M mc2 ms2) (hcls : Bundle.fit cls = true) (hnames : ∀ n ∈ names, Bundle.fit n = true) (hk : Cond.classLink own ik cls ∈ TW) (hini : Cond.initialized cls ∈ TW)
    (hstr : ∀ U : State, strs U → ∃ a, vk_R own is text a U) (hat : ∀ w ∈ vx_atS own ic cls names, w ∈ TW) (hgood : (Cond.classLink own ik cls :: Cond.initialized cls :: vx_atS own ic cls names).all vx_ot = true)
    (d0 : decode cc pc = .ok (.new ik, 3)) (d3 : decode cc (pc + 3) = .ok (.dup, 1)) (d4 : decode cc (pc + 4) = .ok (.ldc is, 2)) (d6 : decode cc (pc + 6) = .ok (.invokespecial ic, 3)) (d9 : decode cc (pc + 9) = .ok (.athrow, 1))
    (hRf : names.length + 3 < R.frames) (hRl : 13 * (names.length + 1) + 43 ≤ R.locals) (hRc : cells + 1 ≤ R.cells) (hRs : slots + 6 ≤ R.slots) (hc2 : cells + 1 ≤ mc2) (hs2 : slots + 6 ≤ ms2) : VV cells slots pc L [] M := by
  obtain ⟨p, l, e, s, m, args, below, meth, c, D, cy, hx, hb, hml, hown, hts, hE, hfl, hr, hlk, htab, rfl⟩ := h
  intro H locs ls hl hc hP hS
  obtain ⟨sa, hsa⟩ := hstr s hE.2.2.1
  refine vx_throwS hx hb (by unfold Launch.stackTraces; rw [hfl]; decide) hown hcls hnames (hts _ hk) (hts _ hini) hsa (fun w hw => hts w (hat w hw)) (fun w hw => List.all_eq_true.mp hgood w hw) hE.2.2.2.2.1 hE.2.2.2.2.2.1 hS (hml.trans hl.1.symm).symm d0 d3 d4 d6 d9 (fun x hx => (htab x hx).elim) hRf (by simpa using hRl) hRc hRs hlk (fun t ht hz hq => ⟨rfl, hP.kept (fun k q hk => hq _ (hP k q hk).lt), ⟨Nat.le_trans hS.1 hz, fun q h1 h2 => (hq q (Nat.lt_of_lt_of_le h1 hS.1)).trans (hS.2.1 q h1 h2)⟩⟩) hS.2.2 hc2 hs2

theorem isR_p {x : Int32} {n : Nat} (h : isR x n = true) : ¬ x < 0 ∧ x < nI n := by
  simp only [isR, Bool.and_eq_true, decide_eq_true_eq] at h
  exact ⟨h.1, Int32.not_le.mp h.2⟩
theorem isR_q {x : Int32} {n : Nat} (h : isR x n = false) (h0 : ¬ x < 0) : ¬ x < nI n := by
  intro h1
  have : isR x n = true := by
    simp only [isR, Bool.and_eq_true, decide_eq_true_eq]
    exact ⟨h0, Int32.not_le.mpr h1⟩
  rw [this] at h; cases h
theorem inB_p {x y z : Int32} (h : inB x y z = true) : ¬ x < y ∧ x ≤ z := by
  unfold inB at h
  split at h
  · cases h
  · rename_i h0
    split at h
    · cases h
    · rename_i h1; exact ⟨h0, Int32.not_lt.mp h1⟩
theorem inB_q {x y z : Int32} (h : inB x y z = false) (h0 : ¬ x < y) : ¬ x ≤ z := by
  intro h1
  unfold inB at h
  rw [if_neg h0, if_neg (Int32.not_lt.mpr h1)] at h
  cases h
/-! the pool's saved states -/
def isV (r : Nat) : Prop := r ∈ [19, 26, 33, 40, 47, 54]
theorem isV_B {r : Nat} (h : isV r) : isB r ∧ 19 ≤ r ∧ r ≤ 54 := by
  have key : ∀ r ∈ [19, 26, 33, 40, 47, 54], isB r ∧ 19 ≤ r ∧ r ≤ 54 := by
    intro r h
    simp only [List.mem_cons, List.not_mem_nil, or_false] at h
    rcases h with rfl | rfl | rfl | rfl | rfl | rfl <;> exact ⟨by unfold isB; decide, by decide, by decide⟩
  exact key r h
def rtL (t : Nat → Nat) : Nat → Nat → Nat
  | 0 => t
  | k + 1 => if k = 0 then t else va_up (rtL t k) (k - 1) (rtL t k k)
theorem va_up_at {t : Nat → Nat} {n v i : Nat} : va_up t n v i = if i = n then v else t i := by
  unfold va_up; rfl
theorem rtL_V {t : Nat → Nat} (hT : ∀ i, i < 6 → isV (t i)) : ∀ k, k ≤ 6 → ∀ i, i < 6 → isV (rtL t k i) := by
  intro k
  induction k with
  | zero => intro _ i hi; exact hT i hi
  | succ k ih =>
    intro hk i hi
    unfold rtL
    split
    · exact hT i hi
    · rw [va_up_at]
      split
      · exact ih (by omega) k (by omega)
      · exact ih (by omega) i hi
/-- the places behind a remembering -/
def rmT (T : (Nat → Nat) × Int64) (n : Nat) : (Nat → Nat) × Int64 := if n < 6 then T else (va_up (rtL T.1 6) 5 (T.1 0), T.2)
/-- where it is remembered -/
def rmR (T : (Nat → Nat) × Int64) (n : Nat) : Nat := if n < 6 then T.1 n else T.1 0
def rmN (n : Nat) : Nat := if n < 6 then n + 1 else 6
def rmG (G : Nat → Nat → Int32) (f : SV) (T : (Nat → Nat) × Int64) (n : Nat) : Nat → Nat → Int32 := put (patch G (rmR T n) 7 f) 0 3 (nI (rmN n))
theorem pP_put {G : Nat → Nat → Int32} {f : SV} {j : Nat} {v : Int32} {k : Nat} (hk : k < 1 ∨ 8 ≤ k) : put (patch G 1 7 f) k j v = patch (put G k j v) 1 7 f := by
  funext a b
  unfold patch
  rw [put_at]
  by_cases hin : 1 ≤ a ∧ a < 1 + 7
  · rw [if_neg (by omega), if_pos hin, if_pos hin]
  · rw [if_neg hin, if_neg hin, put_at]
theorem view_patch {G : Nat → Nat → Int32} {f : SV} {r w a : Nat} (h : a < w) : view (patch G r w f) r a = f a := by
  unfold view; exact patch_in h
theorem pV {G : Nat → Nat → Int32} {f : SV} {r : Nat} (h : 8 ≤ r) : patch (patch G 1 7 f) r 7 (view (patch G 1 7 f) 1) = patch (patch G r 7 f) 1 7 f := by
  rw [patch_cong (f := view (patch G 1 7 f) 1) (f2 := f) (fun a ha => view_patch ha)]
  funext k
  by_cases h1 : 1 ≤ k ∧ k < 1 + 7
  · rw [patch_out (Or.inl (by omega))]
    unfold patch
    rw [if_pos h1, if_pos h1]
  · rw [patch_out (r := 1) (w := 7) (k := k) (by omega)]
    by_cases h2 : r ≤ k ∧ k < r + 7
    · unfold patch; rw [if_pos h2, if_pos h2]
    · rw [patch_out (by omega), patch_out (by omega), patch_out (by omega)]
theorem rtL_s {t : Nat → Nat} {k : Nat} (h : k ≠ 0) : rtL t (k + 1) = va_up (rtL t k) (k - 1) (rtL t k k) := if_neg h
theorem mV {G : Nat → Nat → Int32} {f : SV} {r : Nat} {T : (Nat → Nat) × Int64} (h : 8 ≤ r) : (patch (patch G 1 7 f) r 7 (view (patch G 1 7 f) 1), T) = (patch (patch G r 7 f) 1 7 f, T) := by rw [pV h]
theorem mP {G : Nat → Nat → Int32} {f : SV} {k j : Nat} {v : Int32} {T : (Nat → Nat) × Int64} (hk : k < 1 ∨ 8 ≤ k) : (put (patch G 1 7 f) k j v, T) = (patch (put G k j v) 1 7 f, T) := by rw [pP_put hk]
theorem pPp {G : Nat → Nat → Int32} {f : SV} {r j : Nat} {u v : Int32} (h : 1 ≤ r) : put (patch (put G 0 j u) r 7 f) 0 j v = put (patch G r 7 f) 0 j v := by
  funext k i
  rw [put_at, put_at]
  split
  · rfl
  · rename_i h1
    by_cases h2 : r ≤ k ∧ k < r + 7
    · unfold patch; rw [if_pos h2, if_pos h2]
    · rw [patch_out (by omega), patch_out (by omega), put_at, if_neg h1]
theorem mU {G : Nat → Nat → Int32} {f : SV} {r : Nat} {T : (Nat → Nat) × Int64} (h : 8 ≤ r) : (patch (patch G 1 7 f) 1 7 (view (patch G 1 7 f) r), T) = (patch G 1 7 (view G r), T) := by
  rw [patch_patch, patch_cong (f := view (patch G 1 7 f) r) (f2 := view G r) (fun a ha => patch_out (Or.inr (by omega)))]
theorem isB_sl {c : Nat} (hc : c < 2) : isB (61 + 7 * c) := by
  have : c = 0 ∨ c = 1 := by omega
  rcases this with rfl | rfl <;> (unfold isB; decide)
theorem sl_0 {G : Nat → Nat → Int32} {f : SV} {r j : Nat} (h : 8 ≤ r) : patch (patch G r 7 f) 1 7 f 0 j = G 0 j := by
  show patch G r 7 f 0 j = G 0 j
  rw [patch_out (Or.inl (by omega))]
theorem i2c_n {c : Nat} (h : c < 128) : ((nI c).toUInt32 % 65536).toInt32 = nI c := by
  have key : ∀ c : Fin 128, ((nI c.val).toUInt32 % 65536).toInt32 = nI c.val := by decide +kernel
  exact key ⟨c, h⟩
theorem nar_c {c : Nat} (h : c < 128) : vp_nar .char (nI c) = nI c := by
  have key : ∀ c : Fin 128, vp_nar .char (nI c.val) = nI c.val := by decide +kernel
  exact key ⟨c, h⟩
theorem view_put {G : Nat → Nat → Int32} {r k j : Nat} {v : Int32} (h : k < r) : view (put G k j v) r = view G r := by
  funext a
  unfold view
  rw [put_n (by omega)]
