/-! a copy that is the only one -/
theorem one_bit {x : Int32} {h : Nat} (hh : h < 6) (hb : bt x h = true) (h6 : ∀ i, i < 32 → 6 ≤ i → bt x i = false) : x = bitP h ↔ onM x = nI 1 := by
  have hk : onM x = nI (fb_ct (bt x) 6) := onL_ct 6 (by decide)
  have hu := fb_ct_upd (bt x) false (i := h) (n := 6) hh
  rw [if_pos hb, if_neg (by decide)] at hu
  rw [hk, nI_eq (Nat.lt_of_le_of_lt (fb_ct_le _ 6) (by decide)) (by decide)]
  constructor
  · intro e
    have hz : fb_ct (fun k => if k = h then false else bt x k) 6 = 0 := fb_ct_zero.mpr fun k hk6 => by
      by_cases e2 : k = h
      · rw [if_pos e2]
      · rw [if_neg e2, e]
        unfold bitP
        rw [bt_one (by omega) (by omega), decide_eq_false e2]
    omega
  · intro e
    have hz : fb_ct (fun k => if k = h then false else bt x k) 6 = 0 := by omega
    have hz2 := fb_ct_zero.mp hz
    refine b_ext fun i hi => ?_
    unfold bitP
    rw [bt_one (by omega) hi]
    by_cases e2 : i = h
    · rw [decide_eq_true e2, e2, hb]
    · rw [decide_eq_false e2]
      by_cases h7 : i < 6
      · have := hz2 i h7
        rw [if_neg e2] at this
        exact this
      · exact h6 i hi (by omega)
theorem cpM_hi {s : NV} {b p : Nat} : ∀ i, i < 32 → 6 ≤ i → bt (cpM s b p) i = false := fun i hi h => by
  unfold cpM
  rw [cpML_bt 6 (by decide) i hi, decide_eq_false (by omega), Bool.false_and]
def rkN (c : Nat) (d : Int32) : Int32 := if c = 1 then nI 10000000 + d else if c = 2 then nI 20000000 else if c = 3 then nI 30000000 + d else nI 90000000
theorem sim_rk {f : SV} {s : NV} {b p h : Nat} (hS : Sim f s b) (hC : BlkC s b) (hp : p < 30) (hh : h < 6) (hb : (boM s b p).isNone = false) : rkS f h (cpS f p) = rkN (clsM s b p h) (ofM s b h 3) := by
  rw [sim_cp hS hC hp]
  unfold rkS clsM
  rw [(hS.2.2.2.1 h hh).1, (hS.2.2.2.1 h hh).2.2, hb]
  cases ht : tb (cpM s b p) (nI h) with
  | false =>
    have h0 : ((cpM s b p >>> (nI h &&& 31)) &&& nI 1) = 0 := by
      unfold tb at ht
      exact Classical.not_not.mp (of_decide_eq_false ht)
    rw [if_neg (by decide), if_pos h0]; rfl
  | true =>
    have h0 : ¬ ((cpM s b p >>> (nI h &&& 31)) &&& nI 1) = 0 := by
      unfold tb at ht
      exact of_decide_eq_true ht
    have ho := one_bit hh (by rw [← tb_bt (by omega)]; exact ht) (cpM_hi (s := s) (b := b) (p := p))
    rw [if_pos rfl, if_neg h0, if_neg Bool.false_ne_true]
    by_cases h1 : onM (cpM s b p) = nI 1
    · simp only [if_pos h1, if_pos (ho.mpr h1)]
      by_cases h2 : ofM s b h 0 = nI 2
      · rw [if_pos h2, if_pos h2]; rfl
      · rw [if_neg h2, if_neg h2]; rfl
    · simp only [if_neg h1, if_neg (fun e => h1 (ho.mp e))]
      by_cases h2 : ofM s b h 0 = nI 2
      · rw [if_pos h2, if_pos h2]; rfl
      · rw [if_neg h2, if_neg h2]; rfl
