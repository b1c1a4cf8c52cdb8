/-! what stays where a host goes -/
theorem lg_self (x : Int64) : lg_cmp x x = nI 0 := by
  unfold lg_cmp
  simp
  rfl
section
variable {f g : SV} {s : NV} {B M h p : Nat}
theorem good_re (hf : GoodS f B M) (hp : p < 30) (hn : ¬ cpS f p = 0) : reS f p = true := by
  have hex : ∃ h, h < 6 ∧ tb (f 4 h) (nI p) = true := Classical.byContradiction fun q => hn (by
    refine b_ext fun i hi => ?_
    unfold cpS
    rw [b_and, frS_bt (by omega) 6 (Nat.le_refl 6) i hi, b_0]
    by_cases h6 : i < 6
    · cases e : bt (f 4 i) p with
      | false => rw [Bool.and_false, Bool.false_and]
      | true => exact absurd ⟨i, h6, by rw [tb_bt (by omega)]; exact e⟩ q
    · rw [decide_eq_false h6, Bool.false_and, Bool.false_and])
  obtain ⟨h, hh, e⟩ := hex
  unfold reS
  rw [good_ex hf hp hh e, decide_eq_true hn]; rfl
theorem good_told (hf : GoodS f B M) : ∀ p, p < 10 → ¬ cpS f p = 0 → reS f p = true := fun p hp hn => good_re hf (by omega) hn
theorem cp_n0 (hp : p < 30) (hh : h < 6) (e : tb (cpS f p) (nI h) = true) : ¬ cpS f p = 0 := by
  intro q
  rw [q, tb_bt (by omega), b_0] at e
  cases e
/-- of two copies one is on another host -/
theorem good_two (hf : GoodS f B M) (hp : p < 30) (hs : stS f p = nI 2) (hh : h < 6) : ∃ k, k < 6 ∧ k ≠ h ∧ tb (cpS f p) (nI k) = true := by
  rcases st_cases hf hp with ⟨e, -⟩ | ⟨-, ⟨c, hc, hc6, eb⟩, -⟩ | ⟨e, -⟩ | ⟨e, -⟩ | ⟨e, -⟩
  · exact absurd (hs.symm.trans e) (by decide)
  · obtain ⟨⟨s, hS, hJ, h6⟩, hX⟩ := hf
    have e1 := sim_cp hS hJ.2.1 hp
    rw [e1] at eb ⊢
    have e2 : onM (cpM s 0 p) = nI (fb_ct (bt (cpM s 0 p)) 6) := onL_ct 6 (by decide)
    have hl := fb_ct_le (bt (cpM s 0 p)) 6
    have ec : c = fb_ct (bt (cpM s 0 p)) 6 := (nI_eq (by omega) (by omega)).mp (eb.symm.trans e2)
    have hu := fb_ct_upd (bt (cpM s 0 p)) false (i := h) (n := 6) hh
    have hpos : 0 < fb_ct (fun k => if k = h then false else bt (cpM s 0 p) k) 6 := by
      have h1 : (if bt (cpM s 0 p) h = true then 1 else 0) ≤ 1 := by split <;> omega
      simp only [Bool.false_eq_true, reduceIte] at hu
      omega
    obtain ⟨k, hk, e⟩ := fb_ct_pos.mp hpos
    by_cases q : k = h
    · rw [if_pos q] at e; cases e
    · rw [if_neg q] at e
      exact ⟨k, hk, q, by rw [tb_bt (by omega)]; exact e⟩
  · exact absurd (hs.symm.trans e) (by decide)
  · exact absurd (hs.symm.trans e) (by decide)
  · exact absurd (hs.symm.trans e) (by decide)
theorem good_mode (hf : GoodS f B M) (hp : p < 30) (hh : h < 6) (e : tb (f 4 h) (nI p) = true) : ¬ f 1 h = 0 := by
  intro hm
  obtain ⟨⟨s, hS, hJ, h6⟩, hX⟩ := hf
  have h1 := (hJ.2.2.2.1 h hh).2.1 ((hS.2.2.2.1 h hh).1.symm.trans hm) p hp
  have h2 := (rp_m hS hh hp).mpr h1
  rw [rp_1.mpr e] at h2
  exact absurd h2 (by decide)
theorem ctH_pos (hp : p < 30) (e : tb (f 4 h) (nI p) = true) : 0 < ctH f h := by
  refine fb_ct_pos.mpr ⟨p, by omega, ?_⟩
  rw [b_or, ← tb_bt (s := f 4 h) (by omega), e, Bool.true_or]
theorem ctH_32 : ctH f h ≤ 32 := fb_ct_le _ _
theorem br_row {r : Nat} (h0 : r ≠ 0) (h1 : r ≠ 1) : brG f h r = lvS f h r := by
  unfold brG
  rw [seS_row h0 h1, ctS_row (by omega)]
  unfold brG1
  exact put_n h0
theorem br_0 {j : Nat} (hj : j < 11 ∨ 14 < j) (h7 : j ≠ 7) : brG f h 0 j = f 0 j := by
  unfold brG
  rw [seS_0 hj, ctS_0 (by omega)]
  unfold brG1
  rw [put_at, if_neg (fun z => h7 z.2), lvS_at, if_neg (by omega)]
theorem br_7 : brG f h 0 7 = f 0 7 ||| bitP h := by
  unfold brG
  rw [seS_0 (by omega), ctS_0 (by omega)]
  unfold brG1
  rw [put_at, if_pos ⟨rfl, rfl⟩, lvS_at, if_neg (by omega)]
theorem de_row {r : Nat} (h0 : r ≠ 0) (h1 : r ≠ 1) : deG f h r = f r := by
  unfold deG
  rw [seS_row h0 h1, ctS_row (by omega), put_n h0]
theorem de_0 {j : Nat} (hj : j < 11 ∨ 14 < j) (h7 : j ≠ 7) : deG f h 0 j = f 0 j := by
  unfold deG
  rw [seS_0 hj, ctS_0 (by omega), put_at, if_neg (fun z => h7 z.2)]
theorem de_7 : deG f h 0 7 = f 0 7 &&& (bitP h ^^^ (-1)) := by
  unfold deG
  rw [seS_0 (by omega), ctS_0 (by omega), put_at, if_pos ⟨rfl, rfl⟩]
/-- what holds behind the going of a host that held a copy of a page with two -/
def Stays (f f' : SV) (p : Nat) : Prop := ¬ cpS f' p = 0 ∧ reS f' p = true ∧ f' 6 p = f 6 p
theorem kept_of {f' : SV} {k : Nat} (hp : p < 30) (hk : k < 6) (he : exS f p = true) (ec : tb (cpS f p) (nI k) = true) (e4 : f' 4 k = f 4 k) (e7 : tb (f' 0 7) (nI k) = true) (e6 : f' 0 6 = f 0 6) (ev : f' 6 p = f 6 p) : Stays f f' p := by
  rw [cp_tb (by omega) hk, Bool.and_eq_true] at ec
  have h1 : tb (cpS f' p) (nI k) = true := by rw [cp_tb (by omega) hk, e4, ec.1, e7]; rfl
  have h2 := cp_n0 hp hk h1
  refine ⟨h2, ?_, ev⟩
  unfold reS exS
  rw [e6, decide_eq_true h2, Bool.and_true]
  exact he
theorem kept_ex (hs : stS f p = nI 2) : exS f p = true := by
  cases q : exS f p with
  | true => rfl
  | false => exact absurd (hs.symm.trans (st_none.mpr q)) (by decide)
theorem kept_br (hf : GoodS f B M) (hp : p < 30) (hs : stS f p = nI 2) (hh : h < 6) : Stays f (brG f h) p := by
  obtain ⟨k, hk, hn, ec⟩ := good_two hf hp hs hh
  refine kept_of hp hk (kept_ex hs) ec ?_ ?_ (br_0 (by omega) (by omega)) ?_
  · rw [br_row (by decide) (by decide), lvS_at, if_neg (fun z => hn z.2)]
  · rw [br_7, bitP_or (by omega) (by omega)]
    rw [cp_tb (by omega) hk, Bool.and_eq_true] at ec
    rw [ec.2]; rfl
  · rw [br_row (by decide) (by decide), lvS_at, if_neg (by omega)]
theorem kept_de (hf : GoodS f B M) (hp : p < 30) (hs : stS f p = nI 2) (hh : h < 6) : Stays f (deG f h) p := by
  obtain ⟨k, hk, hn, ec⟩ := good_two hf hp hs hh
  refine kept_of hp hk (kept_ex hs) ec ?_ ?_ (de_0 (by omega) (by omega)) ?_
  · rw [de_row (by decide) (by decide)]
  · rw [de_7, bitP_off (by omega) (by omega)]
    rw [cp_tb (by omega) hk, Bool.and_eq_true] at ec
    rw [ec.2, decide_eq_true hn]; rfl
  · rw [de_row (by decide) (by decide)]
/-- the two ways that a host goes -/
def GoOk (f g : SV) (p h : Nat) (I : MI) : Prop := ∃ v f', 0 < v ∧ v < 2147483648 ∧ Stays f f' p ∧ ∀ sz G T n, WorldS G T n g → Does sz I [.ref (sz + 0), .int (nI h)] (patch G 1 7 f, T) 0 0 (.inl (some (nI v))) (patch (rmG G f T n) 1 7 f', rmT T n)
theorem go_crash (hf : GoodS f B M) (hp : p < 30) (hs : stS f p = nI 2) (hh : h < 6) (ec : tb (cpS f p) (nI h) = true) : GoOk f g p h I_X2_crash := by
  have e4 : tb (f 4 h) (nI p) = true := by rw [cp_tb (by omega) hh, Bool.and_eq_true] at ec; exact ec.1
  have := ctH_32 (f := f) (h := h)
  refine ⟨ctH f h, brG f h, ctH_pos hp e4, by omega, kept_br hf hp hs hh, fun sz G T n hW => ?_⟩
  rw [← ctH_hd]
  exact x_crash hh (by unfold cbrkS; exact decide_eq_true (good_mode hf hp hh e4)) hW.1 hW.2.2.1 hW.2.2.2.1
theorem go_disc (hf : GoodS f B M) (hp : p < 30) (hs : stS f p = nI 2) (hh : h < 6) (ec : tb (cpS f p) (nI h) = true) : GoOk f g p h I_X2_disconnect := by
  rw [cp_tb (by omega) hh, Bool.and_eq_true] at ec
  have := ctH_32 (f := f) (h := h)
  refine ⟨ctH f h, deG f h, ctH_pos hp ec.1, by omega, kept_de hf hp hs hh, fun sz G T n hW => ?_⟩
  rw [← ctH_cong (f := f) (f' := deG f h) (by rw [de_row (by decide) (by decide)]) (by rw [de_row (by decide) (by decide)]), ← ctH_hd]
  exact x_disconnect hh (by unfold cdetS; rw [decide_eq_true (good_mode hf hp hh ec.1), ec.2]; rfl) hW.1 hW.2.2.1 hW.2.2.2.1
end
