/-! the pool between two calls of the law: a good State, the saved ones' places, the slot -/
def GoodS (f : SV) (B M : Nat) : Prop := (∃ s, Sim f s 0 ∧ JJ s 0 B M ∧ J6 s 0) ∧ XtS f
def WorldS (G : Nat → Nat → Int32) (T : (Nat → Nat) × Int64) (n : Nat) (g : SV) : Prop :=
  (∀ i, i < 6 → isV (T.1 i)) ∧ (∀ i j, i < 6 → j < 6 → T.1 i = T.1 j → i = j) ∧ n ≤ 6 ∧ G 0 3 = nI n ∧ tb (G 0 5) (nI 0) = true ∧ ∀ a, a < 7 → view G 61 a = g a
/-- the last State saved is f -/
def TopS (G : Nat → Nat → Int32) (T : (Nat → Nat) × Int64) (n : Nat) (f : SV) : Prop := 1 ≤ n ∧ ∀ a, a < 7 → view G (T.1 (n - 1)) a = f a
theorem JJ.monoM {s : NV} {b B B' M M' : Nat} (h : JJ s b B M) (hB : B ≤ B') (hM : M ≤ M') : JJ s b B' M' := JJ.mk (JC.mono h.c hB) (h.t.mono hM)
theorem GoodS.mono {f : SV} {B B' M M' : Nat} (h : GoodS f B M) (hB : B ≤ B') (hM : M ≤ M') : GoodS f B' M' := by
  obtain ⟨⟨s, h1, h2, h3⟩, h4⟩ := h
  exact ⟨⟨s, h1, h2.monoM hB hM, h3⟩, h4⟩
section
variable {sz n m : Nat} {G : Nat → Nat → Int32} {T : (Nat → Nat) × Int64} {f f' g X : SV}
theorem rmR_v (hW : WorldS G T n g) : isV (rmR T n) := by
  unfold rmR
  split
  · exact hW.1 _ (by assumption)
  · exact hW.1 0 (by decide)
theorem rmN_1 : 1 ≤ rmN n ∧ rmN n ≤ 6 := by
  unfold rmN
  split <;> omega
theorem rmG_row (hW : WorldS G T n g) {k : Nat} (h0 : k ≠ 0) (hk : k < rmR T n ∨ rmR T n + 7 ≤ k) : rmG G f T n k = G k := by
  unfold rmG
  rw [put_n h0, patch_out hk]
theorem rmG_in (hW : WorldS G T n g) {a : Nat} (ha : a < 7) : rmG G f T n (rmR T n + a) = f a := by
  have := isV_B (rmR_v hW)
  unfold rmG
  rw [put_n (by omega), patch_in ha]
theorem WorldS.rm (hW : WorldS G T n g) : WorldS (rmG G f T n) (rmT T n) (rmN n) g := by
  have hv := isV_B (rmR_v hW)
  obtain ⟨h1, h2, h3, h4, h5, h6⟩ := id hW
  refine ⟨fun i hi => ?_, fun i j hi hj e => ?_, rmN_1.2, ?_, ?_, fun a ha => ?_⟩
  · rw [rmT_at hi]
    (repeat' split) <;> apply h1 <;> omega
  · rw [rmT_at hi, rmT_at hj] at e
    by_cases q : n < 6
    · rw [if_pos q, if_pos q] at e; exact h2 i j hi hj e
    · rw [if_neg q, if_neg q] at e
      by_cases ei : i = 5
      · by_cases ej : j = 5
        · omega
        · rw [if_pos ei, if_neg ej] at e
          have := h2 _ _ (by decide) (by omega) e
          omega
      · by_cases ej : j = 5
        · rw [if_neg ei, if_pos ej] at e
          have := h2 _ _ (by omega) (by decide) e
          omega
        · rw [if_neg ei, if_neg ej] at e
          have := h2 _ _ (by omega) (by omega) e
          omega
  · unfold rmG
    rw [put_at, if_pos ⟨rfl, rfl⟩]
  · rw [rm_0 hv.2.1 (by decide)]; exact h5
  · have e : view (rmG G f T n) 61 a = view G 61 a := by
      unfold view
      exact rmG_row hW (by omega) (by omega)
    rw [e]; exact h6 a ha
theorem rmT_top (hW : WorldS G T n g) : (rmT T n).1 (rmN n - 1) = rmR T n := by
  have h3 := hW.2.2.1
  unfold rmN rmR
  by_cases q : n < 6
  · rw [if_pos q, if_pos q, Nat.add_sub_cancel, rmT_at q, if_pos q]
  · rw [if_neg q, if_neg q, rmT_at (by decide), if_neg q, if_pos rfl]
theorem TopS.rm (hW : WorldS G T n g) : TopS (rmG G f T n) (rmT T n) (rmN n) f := by
  refine ⟨rmN_1.1, fun a ha => ?_⟩
  rw [rmT_top hW]
  exact rmG_in hW ha
/-- a State taken back -/
theorem WorldS.un (hW : WorldS G T (m + 1) g) : WorldS (put G 0 3 (nI m)) T m g := by
  obtain ⟨h1, h2, h3, h4, h5, h6⟩ := hW
  refine ⟨h1, h2, by omega, ?_, ?_, fun a ha => ?_⟩
  · rw [put_at, if_pos ⟨rfl, rfl⟩]
  · rw [put_at, if_neg (by decide)]; exact h5
  · have e : view (put G 0 3 (nI m)) 61 a = view G 61 a := by
      unfold view
      exact put_n (by omega)
    rw [e]; exact h6 a ha
/-- what lay below the last one lies on top again, when that one is taken back -/
theorem TopS.under (hW : WorldS G T n g) (ht : TopS G T n f) : TopS (put (rmG G X T n) 0 3 (nI (rmN n - 1))) (rmT T n) (rmN n - 1) f := by
  obtain ⟨h1, h2, h3, h4, h5, h6⟩ := id hW
  obtain ⟨t1, t2⟩ := ht
  have hv := isV_B (h1 (n - 1) (by omega))
  have key : (rmT T n).1 (rmN n - 1 - 1) = T.1 (n - 1) := by
    unfold rmN
    by_cases q : n < 6
    · rw [if_pos q, Nat.add_sub_cancel, rmT_at (by omega), if_pos q]
    · rw [if_neg q, rmT_at (by decide), if_neg q, if_neg (by decide), show 6 - 1 - 1 + 1 = n - 1 by omega]
  refine ⟨?_, fun a ha => ?_⟩
  · unfold rmN
    split <;> omega
  · rw [key]
    have hne : rmR T n ≠ T.1 (n - 1) := by
      unfold rmR
      by_cases q : n < 6
      · rw [if_pos q]
        intro e
        have := h2 _ _ q (by omega) e
        omega
      · rw [if_neg q]
        intro e
        have := h2 _ _ (by decide) (by omega) e
        omega
    have hap := isV_ap (rmR_v hW) (h1 (n - 1) (by omega)) hne
    have e : view (put (rmG G X T n) 0 3 (nI (rmN n - 1))) (T.1 (n - 1)) a = view G (T.1 (n - 1)) a := by
      unfold view
      rw [put_n (by omega)]
      exact rmG_row hW (by omega) (by omega)
    rw [e]; exact t2 a ha
/-- the forecast says nothing -/
theorem WorldS.fc (hW : WorldS G T n g) : WorldS (patch G 8 7 X) T n g := by
  obtain ⟨h1, h2, h3, h4, h5, h6⟩ := hW
  have e0 : patch G 8 7 X 0 = G 0 := patch_out (by omega)
  refine ⟨h1, h2, h3, by rw [e0]; exact h4, by rw [e0]; exact h5, fun a ha => ?_⟩
  have e : view (patch G 8 7 X) 61 a = view G 61 a := by
    unfold view
    exact patch_out (by omega)
  rw [e]; exact h6 a ha
theorem TopS.fc (hW : WorldS G T n g) (ht : TopS G T n f) : TopS (patch G 8 7 X) T n f := by
  have hv := isV_B (hW.1 (n - 1) (by have := hW.2.2.1; have := ht.1; omega))
  refine ⟨ht.1, fun a ha => ?_⟩
  have e : view (patch G 8 7 X) (T.1 (n - 1)) a = view G (T.1 (n - 1)) a := by
    unfold view
    exact patch_out (by omega)
  rw [e]; exact ht.2 a ha
/-- the slot is written -/
theorem WorldS.sv (hW : WorldS G T n g) : WorldS (put (patch G (61 + 7 * 0) 7 f) 0 5 (G 0 5 ||| (nI 1 <<< (nI 0 &&& 31)))) T n f := by
  obtain ⟨h1, h2, h3, h4, h5, h6⟩ := hW
  refine ⟨h1, h2, h3, ?_, ?_, fun a ha => ?_⟩
  · rw [put_at, if_neg (by decide)]
    have : patch G (61 + 7 * 0) 7 f 0 = G 0 := patch_out (by omega)
    rw [this]; exact h4
  · rw [put_at, if_pos ⟨rfl, rfl⟩, tb_or (by decide) (by decide)]
    simp
  · unfold view
    rw [put_n (by omega)]
    exact patch_in ha
theorem x_undoT (hW : WorldS G T (m + 1) g) (ht : TopS G T (m + 1) f) : Does sz I_X2_undo [.ref (sz + 0)] (patch G 1 7 f', T) 0 0 (.inl (some (nI m))) (patch (put G 0 3 (nI m)) 1 7 f, T) := by
  have h := x_undo (sz := sz) (f := f') hW.1 (m := m) (by have := hW.2.2.1; omega) hW.2.2.2.1
  rw [patch_cong (f := view G (T.1 m)) (f2 := f) (fun a ha => ht.2 a ha)] at h
  exact h
end
/-! an operation of the pool: what it answers is a number, and the State behind it is good -/
def OpOk (f g : SV) (B M : Nat) (I : MI) (As : List Value) : Prop :=
  ∃ v f', v < 2147483648 ∧ GoodS f' (B + 1) (M + 50) ∧ ∀ sz G T n, WorldS G T n g → Does sz I (.ref (sz + 0) :: As) (patch G 1 7 f, T) 0 0 (.inl (some (nI v))) (patch (rmG G f T n) 1 7 f', rmT T n)
theorem bcI_nn (x : Int32) : ∃ v, v < 2147483648 ∧ bcI x = nI v := ⟨fb_ct (bt x) 32, by have := fb_ct_le (bt x) 32; omega, bcI_ct x⟩
section
variable {f g : SV} {B M : Nat}
theorem ok_of {I : MI} {As : List Value} {x : Int32} {f' : SV} (hx : ∃ v, v < 2147483648 ∧ x = nI v) (hG : GoodS f' (B + 1) (M + 50)) (h : ∀ sz G T n, WorldS G T n g → Does sz I (.ref (sz + 0) :: As) (patch G 1 7 f, T) 0 0 (.inl (some x)) (patch (rmG G f T n) 1 7 f', rmT T n)) : OpOk f g B M I As := by
  obtain ⟨v, hv, rfl⟩ := hx
  exact ⟨v, f', hv, hG, h⟩
theorem opG {f' : SV} {s' s : NV} {B' : Nat} (h : OpA f' s' s B' (M + 50)) (hB : B' ≤ B + 1) (hX : XtS f') : GoodS f' (B + 1) (M + 50) := ⟨⟨s', h.1, h.2.1.mono hB, h.2.2.1⟩, hX⟩
theorem ok_pass (hf : GoodS f B M) (hM : M ≤ 500000) {k : Nat} (hk : 1 ≤ k ∧ k ≤ 50) : OpOk f g B M I_X2_pass [.int (nI k)] := by
  obtain ⟨⟨s, hS, hJ, h6⟩, hX⟩ := hf
  obtain ⟨t, l, t1, t2, -⟩ := id hJ.t
  have hop := op_pass (M := M + 50) (k := k) (by omega) hS (hJ.monoM (Nat.le_refl _) (by omega)) h6 (t := t) t2 (by omega)
  obtain ⟨hA, -, d, hd, ed⟩ := hop
  refine ok_of ⟨d, by omega, ?_⟩ (opG hA (by omega) (by rw [hS.1.1.trans t2, nI_add]; exact xt_av (M := M + 50) (B := B) (by omega) k k f s t (Nat.le_refl k) hS (hJ.monoM (Nat.le_refl _) (by omega)) h6 t2 (by omega) hX)) fun sz G T n hW => x_pass (by omega) ((inB_t (by omega) (by decide) (by decide)).mpr (by omega)) ((adv_iff hS t2 (by omega) (by omega)).1.mpr (by omega)) hW.1 hW.2.2.1 hW.2.2.2.1
  have e1 := hS.1.2.2.1
  have e2 := hA.1.1.2.2.1
  rw [e2, e1]
  show spL s 0 k 3 - s 3 = nI d
  rw [ed, Int32.add_comm, Int32.add_sub_cancel]
theorem ok_stt (hf : GoodS f B M) (hM : M ≤ 500000) {k : Nat} (hk : 1 ≤ k ∧ k ≤ 60) : OpOk f g B M I_X2_setTransferTime [.int (nI k)] := by
  obtain ⟨⟨s, hS, hJ, h6⟩, hX⟩ := hf
  obtain ⟨t, l, t1, t2, l1, l2, l3, -⟩ := id hJ.t
  refine ok_of ⟨l, by omega, hS.1.2.1.trans l3⟩ (opG (op_stt (M := M + 50) hS (hJ.monoM (Nat.le_refl _) (by omega)) h6 hk) (by omega) (xt_stt hX)) fun sz G T n hW => x_setTransferTime ((inB_t (by omega) (by decide) (by decide)).mpr (by omega)) hW.1 hW.2.2.1 hW.2.2.2.1
theorem ok_store (hf : GoodS f B M) (hB : B < 500000) (hM : M ≤ 500000) {p v : Nat} (hp : p < 30) (hv : v < 10000) (hc : caddS f p = true) : OpOk f g B M I_X2_store [.int (nI p), .int (nI v)] := by
  obtain ⟨⟨s, hS, hJ, h6⟩, hX⟩ := hf
  have hA := (op_store (M := M + 50) (v := nI v) (by omega) (by omega) hS (hJ.monoM (Nat.le_refl _) (by omega)) hp ((sim_cadd hS hp).symm.trans hc)).1
  exact ok_of (bcI_nn _) (opG hA (by omega) (xt_store hX hp hS (by unfold caddS at hc; cases q : exS f p with | false => rfl | true => (rw [q] at hc; cases hc)) hA.1 hA.2.1.2.2.2.1)) fun sz G T n hW => x_store hp ((inB_t (by omega) (by decide) (by decide)).mpr (by omega)) hc hW.1 hW.2.2.1 hW.2.2.2.1
theorem ok_write (hf : GoodS f B M) (hB : B < 500000) (hM : M ≤ 500000) {p v : Nat} (hp : p < 30) (hv : v < 10000) (hc : reS f p = true) : OpOk f g B M I_X2_write [.int (nI p), .int (nI v)] := by
  obtain ⟨⟨s, hS, hJ, h6⟩, hX⟩ := hf
  have hA := (op_write (M := M + 50) (v := nI v) (by omega) (by omega) hS (hJ.monoM (Nat.le_refl _) (by omega)) hp ((sim_re hS hJ.2.1 hp).symm.trans hc)).1
  exact ok_of (bcI_nn _) (opG hA (by omega) (xt_write hX hp hS hJ.2.2.1 hA.1 hA.2.1.2.2.2.1)) fun sz G T n hW => x_write hp ((inB_t (by omega) (by decide) (by decide)).mpr (by omega)) hc hW.1 hW.2.2.1 hW.2.2.2.1
theorem ok_remove (hf : GoodS f B M) (hM : M ≤ 500000) {p : Nat} (hp : p < 30) (hc : exS f p = true) : OpOk f g B M I_X2_remove [.int (nI p)] := by
  obtain ⟨⟨s, hS, hJ, h6⟩, hX⟩ := hf
  have hth : thM s 0 p = true := by
    have := (hS.2.2.2.2.2.1 p hp).1
    rw [← this]; exact hc
  exact ok_of (bcI_nn _) (opG (op_remove (M := M + 50) (by omega) hS (hJ.monoM (Nat.le_refl _) (by omega)) hp hth).1 (by omega) (xt_remove hX hp hS hJ.2.2.1)) fun sz G T n hW => x_remove hp hc hW.1 hW.2.2.1 hW.2.2.2.1
theorem ok_lend (hf : GoodS f B M) (hM : M ≤ 500000) {h c : Nat} (hh : h < 6) (hy : 1 ≤ c ∧ c ≤ 20) (hc : cbegS f h = true) : OpOk f g B M I_X2_lend [.int (nI h), .int (nI c)] := by
  obtain ⟨⟨s, hS, hJ, h6⟩, hX⟩ := hf
  have hop := op_lend (M := M + 50) (y := nI c) (by omega) hS (hJ.monoM (Nat.le_refl _) (by omega)) hh ((sim_cbeg hS hh).symm.trans hc) ⟨c, hy.1, hy.2, rfl⟩
  obtain ⟨hA, h2, h3⟩ := hop
  obtain ⟨e1, n, n1, n2⟩ := sum_le h2 h3 6 (Nat.le_refl 6)
  exact ok_of ⟨n, by omega, e1.trans n2⟩ (opG hA (by omega) (xt_lend hX)) fun sz G T n hW => x_lend hh ((inB_t (by omega) (by decide) (by decide)).mpr (by omega)) hc hW.1 hW.2.2.1 hW.2.2.2.1
theorem ok_recall (hf : GoodS f B M) (hM : M ≤ 500000) {h c : Nat} (hh : h < 6) (hy : 1 ≤ c ∧ c ≤ 600) (hc : opS f h = true) : OpOk f g B M I_X2_recall [.int (nI h), .int (nI c)] := by
  obtain ⟨⟨s, hS, hJ, h6⟩, hX⟩ := hf
  exact ok_of (bcI_nn _) (opG (op_recall (M := M + 50) (by omega) hS (hJ.monoM (Nat.le_refl _) (by omega)) hh ((sim_opn hS hh).symm.trans hc) hy).1 (by omega) (xt_recall hX)) fun sz G T n hW => x_recall hh ((inB_t (by omega) (by decide) (by decide)).mpr (by omega)) hc hW.1 hW.2.2.1 hW.2.2.2.1
theorem ok_disconnect (hf : GoodS f B M) (hM : M ≤ 500000) {h : Nat} (hh : h < 6) (hc : cdetS f h = true) : OpOk f g B M I_X2_disconnect [.int (nI h)] := by
  obtain ⟨⟨s, hS, hJ, h6⟩, hX⟩ := hf
  exact ok_of (bcI_nn _) (opG (op_disc (M := M + 50) (by omega) hS (hJ.monoM (Nat.le_refl _) (by omega)) hh ((sim_cdet hS hh).symm.trans hc)).1 (by omega) (xt_disc hX)) fun sz G T n hW => x_disconnect hh hc hW.1 hW.2.2.1 hW.2.2.2.1
theorem ok_crash (hf : GoodS f B M) (hM : M ≤ 500000) {h : Nat} (hh : h < 6) (hc : cbrkS f h = true) : OpOk f g B M I_X2_crash [.int (nI h)] := by
  obtain ⟨⟨s, hS, hJ, h6⟩, hX⟩ := hf
  exact ok_of (bcI_nn _) (opG (op_crash (M := M + 50) (by omega) hS (hJ.monoM (Nat.le_refl _) (by omega)) hh) (by omega) (xt_crash hX)) fun sz G T n hW => x_crash hh hc hW.1 hW.2.2.1 hW.2.2.2.1
theorem ok_reconnect (hf : GoodS f B M) (hM : M ≤ 500000) {h : Nat} (hh : h < 6) (hc : tb (f 0 7) (nI h) = false) : OpOk f g B M I_X2_reconnect [.int (nI h)] := by
  obtain ⟨⟨s, hS, hJ, h6⟩, hX⟩ := hf
  have ha : cattS f h = true := by unfold cattS; rw [hc]; rfl
  have hd : ¬ ofM s 0 h 1 = nI 1 := by
    intro e
    have := (sim_catt hS hh).symm.trans ha
    rw [decide_eq_true e] at this
    cases this
  exact ok_of (bcI_nn _) (opG (op_recon (M := M + 50) (by omega) hS (hJ.monoM (Nat.le_refl _) (by omega)) hh hd).1 (by omega) (xt_recon hX hS hJ.2.2.1 hc)) fun sz G T n hW => x_reconnect hh ha hW.1 hW.2.2.1 hW.2.2.2.1
theorem ok_restore (hg : GoodS g B M) (hM : M ≤ 500000) : OpOk f g B M I_X2_restore [.int (nI 0)] := by
  have hg0 := hg
  obtain ⟨⟨s, hS, hJ, h6⟩, hX⟩ := hg
  obtain ⟨t, l, t1, t2, -⟩ := id hJ.t
  refine ⟨t, g, by omega, hg0.mono (by omega) (by omega), fun sz G T n hW => ?_⟩
  have e5 := (hW.rm (f := f)).2.2.2.2.2
  have h := x_restore (sz := sz) (f := f) (c := 0) (by decide) hW.2.2.2.2.1 hW.1 hW.2.2.1 hW.2.2.2.1
  have ev : view (rmG G f T n) (61 + 7 * 0) 0 8 = nI t := (congrFun (e5 0 (by decide)) 8).trans (hS.1.1.trans t2)
  rw [ev, patch_cong (f := view (rmG G f T n) (61 + 7 * 0)) (f2 := g) (fun a ha => e5 a ha)] at h
  exact h
end
