/-! Integer.bitCount counts the bits -/
theorem bt_nI {n i : Nat} (hn : n < 2 ^ 32) : bt (nI n) i = n.testBit i := by
  show (BitVec.ofNat 32 n).getLsbD i = n.testBit i
  rw [BitVec.getLsbD_ofNat]
  by_cases h : i < 32
  · simp [h]
  · have : n.testBit i = false := Nat.testBit_lt_two_pow (Nat.lt_of_lt_of_le hn (Nat.pow_le_pow_right (by decide) (by omega)))
    rw [this]; simp
theorem nI_and {a b : Nat} (ha : a < 2 ^ 32) (hb : b < 2 ^ 32) : nI a &&& nI b = nI (a &&& b) := by
  refine b_ext fun i hi => ?_
  rw [b_and, bt_nI ha, bt_nI hb, bt_nI (Nat.lt_of_le_of_lt Nat.and_le_left ha), Nat.testBit_and]
theorem ush_nI {n k : Nat} (hn : n < 2 ^ 32) (hk : k < 32) : ush (nI n) (nI k) = nI (n / 2 ^ k) := by
  refine b_ext fun i hi => ?_
  unfold ush
  rw [b_ushr k hk, bt_nI hn, bt_nI (Nat.lt_of_le_of_lt (Nat.div_le_self _ _) hn), Nat.testBit_div_two_pow, Nat.add_comm]
theorem bcI_n {n : Nat} (hn : n < 2 ^ 32) : bcI (nI n) = nI ((g3B 4 (g2B 4 (g1B 4 n)) + g3B 4 (g2B 4 (g1B 4 n)) / 256 + (g3B 4 (g2B 4 (g1B 4 n)) + g3B 4 (g2B 4 (g1B 4 n)) / 256) / 65536) % 64) := by
  have k1 : mkB 85 4 = 1431655765 := by decide
  have k2 : mkB 51 4 = 858993459 := by decide
  have k3 : mkB 15 4 = 252645135 := by decide
  have a1 : n / 2 &&& 1431655765 ≤ n := Nat.le_trans Nat.and_le_left (Nat.div_le_self _ _)
  have e1 : bc1 (nI n) = nI (g1B 4 n) := by
    unfold bc1 g1B
    rw [k1, ush_nI hn (by decide), nI_and (Nat.lt_of_le_of_lt (Nat.div_le_self _ _) hn) (by decide), ni_sub a1]
  have l1 : g1B 4 n < 2 ^ 32 := Nat.lt_of_le_of_lt (Nat.sub_le _ _) hn
  have e2 : bc2 (nI (g1B 4 n)) = nI (g2B 4 (g1B 4 n)) := by
    unfold bc2 g2B
    rw [k2, ush_nI l1 (by decide), nI_and l1 (by decide), nI_and (Nat.lt_of_le_of_lt (Nat.div_le_self _ _) l1) (by decide), nI_add]
  have l2 : g2B 4 (g1B 4 n) ≤ 858993459 + 858993459 := by
    unfold g2B
    rw [k2]
    exact Nat.add_le_add Nat.and_le_right Nat.and_le_right
  have e3 : bc3 (nI (g2B 4 (g1B 4 n))) = nI (g3B 4 (g2B 4 (g1B 4 n))) := by
    unfold bc3
    rw [ush_nI (by omega) (by decide), nI_add, nI_and (by omega) (by decide)]
    unfold g3B
    rw [k3]
  have l3 : g3B 4 (g2B 4 (g1B 4 n)) ≤ 252645135 := by
    unfold g3B
    rw [k3]
    exact Nat.and_le_right
  unfold bcI
  rw [e1, e2, e3]
  generalize g3B 4 (g2B 4 (g1B 4 n)) = w at l3 ⊢
  unfold bc4 bc5
  rw [ush_nI (by omega) (by decide), nI_add, ush_nI (by omega) (by decide), nI_add, nI_and (by omega) (by decide)]
  rw [show (63 : Nat) = 2 ^ 6 - 1 from rfl, Nat.and_two_pow_sub_one_eq_mod]
theorem p8_at {n j : Nat} : p8B (n / 2 ^ j % 256) = fb_ct (fun i => n.testBit (j + i)) 8 := by
  unfold p8B
  refine fb_ct_cong fun i hi => ?_
  show (n / 2 ^ j % 2 ^ 8).testBit i = n.testBit (j + i)
  rw [Nat.testBit_mod_two_pow, decide_eq_true hi, Bool.true_and, Nat.testBit_div_two_pow, Nat.add_comm]
theorem bcI_ct (x : Int32) : bcI x = nI (fb_ct (bt x) 32) := by
  obtain ⟨n, hn, rfl⟩ : ∃ n, n < 2 ^ 32 ∧ x = nI n := ⟨x.toBitVec.toNat, x.toBitVec.isLt, Int32.toBitVec_inj.mp (by show _ = BitVec.ofNat 32 _; simp)⟩
  have e0 : n = n / 2 ^ 0 % 256 + 256 * (n / 2 ^ 8 % 256 + 256 * (n / 2 ^ 16 % 256 + 256 * (n / 2 ^ 24 % 256))) := by omega
  have l0 : n / 2 ^ 0 % 256 < 256 := by omega
  have l1 : n / 2 ^ 8 % 256 < 256 := by omega
  have l2 : n / 2 ^ 16 % 256 < 256 := by omega
  have l3 : n / 2 ^ 24 % 256 < 256 := by omega
  have es := b_sum l0 l1 l2 l3
  rw [← e0] at es
  rw [bcI_n hn, b_tail (p8_le _ l0) (p8_le _ l1) (p8_le _ l2) (p8_le _ l3) es rfl, p8_at, p8_at, p8_at, p8_at]
  have hc : fb_ct (bt (nI n)) 32 = fb_ct (fun i => n.testBit i) 32 := fb_ct_cong fun i hi => bt_nI hn
  rw [hc, show (32 : Nat) = 8 + (8 + (8 + 8)) from rfl, fb_ct_split, fb_ct_split, fb_ct_split]
  congr 1
  simp only [Nat.zero_add, ← Nat.add_assoc]
