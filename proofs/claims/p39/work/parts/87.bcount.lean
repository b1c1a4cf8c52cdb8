/-! how many bits are set: the sum in words -/
theorem land_split {a m c M : Nat} (ha : a < 256) (hc : c < 256) : (a + 256 * m) &&& (c + 256 * M) = (a &&& c) + 256 * (m &&& M) := by
  have h1 : ((a + 256 * m) &&& (c + 256 * M)) / 2 ^ 8 = m &&& M := by
    rw [Nat.and_div_two_pow]
    congr 1 <;> omega
  have h2 : ((a + 256 * m) &&& (c + 256 * M)) % 2 ^ 8 = a &&& c := by
    rw [Nat.and_mod_two_pow]
    congr 1 <;> omega
  omega
def f1B (a : Nat) : Nat := a - (a / 2 &&& 85)
def f2B (a : Nat) : Nat := (a &&& 51) + (a / 4 &&& 51)
def f3B (a : Nat) : Nat := (a + a / 16) &&& 15
def mkB (c : Nat) : Nat → Nat
  | 0 => 0
  | k + 1 => c + 256 * mkB c k
def g1B (k n : Nat) : Nat := n - (n / 2 &&& mkB 85 k)
def g2B (k n : Nat) : Nat := (n &&& mkB 51 k) + (n / 4 &&& mkB 51 k)
def g3B (k n : Nat) : Nat := (n + n / 16) &&& mkB 15 k
theorem f1_key : ∀ a, a < 256 → ∀ e, e < 2 → (a / 2 + 128 * e) &&& 85 = a / 2 &&& 85 := by decide +kernel
theorem f1_le : ∀ a, a < 256 → (a / 2 &&& 85) ≤ a ∧ f1B a < 256 := by decide +kernel
theorem f2_key : ∀ a, a < 256 → ∀ e, e < 4 → (a / 4 + 64 * e) &&& 51 = a / 4 &&& 51 := by decide +kernel
theorem f2_le : ∀ a, a < 256 → f2B a < 256 := by decide +kernel
theorem g1_s {k a m : Nat} (ha : a < 256) : g1B (k + 1) (a + 256 * m) = f1B a + 256 * g1B k m := by
  have e1 : (a + 256 * m) / 2 = (a / 2 + 128 * (m % 2)) + 256 * (m / 2) := by omega
  have e2 := f1_key a ha (m % 2) (by omega)
  have e3 := (f1_le a ha).1
  have e4 : m / 2 &&& mkB 85 k ≤ m := Nat.le_trans Nat.and_le_left (Nat.div_le_self _ _)
  unfold g1B f1B
  rw [mkB, e1, land_split (by omega) (by decide), e2]
  omega
theorem g2_s {k a m : Nat} (ha : a < 256) : g2B (k + 1) (a + 256 * m) = f2B a + 256 * g2B k m := by
  have e1 : (a + 256 * m) / 4 = (a / 4 + 64 * (m % 4)) + 256 * (m / 4) := by omega
  have e2 := f2_key a ha (m % 4) (by omega)
  unfold g2B f2B
  rw [mkB, e1, land_split ha (by decide), land_split (a := a / 4 + 64 * (m % 4)) (by omega) (by decide), e2]
  omega
/-- the figures behind the second step -/
theorem f2_nib : ∀ a, a < 256 → f2B (f1B a) % 16 ≤ 4 ∧ f2B (f1B a) / 16 ≤ 4 := by decide +kernel
theorem f3_key : ∀ u, u < 5 → ∀ v, v < 5 → ∀ e, e < 5 → ((u + 16 * v) + (v + 16 * e)) &&& 15 = f3B (u + 16 * v) := by decide +kernel
theorem g3_s {k a m : Nat} (h1 : a % 16 ≤ 4) (h2 : a / 16 ≤ 4) (h3 : m % 16 ≤ 4) : g3B (k + 1) (a + 256 * m) = f3B a + 256 * g3B k m := by
  have e1 : (a + 256 * m) + (a + 256 * m) / 16 = ((a % 16 + 16 * (a / 16)) + (a / 16 + 16 * (m % 16))) + 256 * (m + m / 16) := by omega
  have e2 := f3_key (a % 16) (by omega) (a / 16) (by omega) (m % 16) (by omega)
  have e3 : a % 16 + 16 * (a / 16) = a := by omega
  unfold g3B
  rw [mkB, e1, land_split (by omega) (by decide), e2, e3]
def p8B (a : Nat) : Nat := fb_ct (fun i => a.testBit i) 8
theorem f3_p : ∀ a, a < 256 → f3B (f2B (f1B a)) = p8B a := by decide +kernel
theorem p8_le : ∀ a, a < 256 → p8B a ≤ 8 := fun a _ => fb_ct_le _ 8
theorem b_sum {b0 b1 b2 b3 : Nat} (h0 : b0 < 256) (h1 : b1 < 256) (h2 : b2 < 256) (h3 : b3 < 256) : g3B 4 (g2B 4 (g1B 4 (b0 + 256 * (b1 + 256 * (b2 + 256 * b3))))) = p8B b0 + 256 * (p8B b1 + 256 * (p8B b2 + 256 * p8B b3)) := by
  have z1 : ∀ n, g1B 0 n = n := by intro n; unfold g1B mkB; simp
  have s1 : g1B 4 (b0 + 256 * (b1 + 256 * (b2 + 256 * b3))) = f1B b0 + 256 * (f1B b1 + 256 * (f1B b2 + 256 * f1B b3)) := by
    rw [g1_s h0, g1_s h1, g1_s h2]
    have : g1B 1 b3 = f1B b3 := by
      have := g1_s (k := 0) (a := b3) (m := 0) h3
      simpa [z1] using this
    rw [this]
  have t0 := (f1_le b0 h0).2
  have t1 := (f1_le b1 h1).2
  have t2 := (f1_le b2 h2).2
  have t3 := (f1_le b3 h3).2
  have s2 : g2B 4 (f1B b0 + 256 * (f1B b1 + 256 * (f1B b2 + 256 * f1B b3))) = f2B (f1B b0) + 256 * (f2B (f1B b1) + 256 * (f2B (f1B b2) + 256 * f2B (f1B b3))) := by
    rw [g2_s t0, g2_s t1, g2_s t2]
    have : g2B 1 (f1B b3) = f2B (f1B b3) := by
      have := g2_s (k := 0) (a := f1B b3) (m := 0) t3
      simpa [g2B, mkB] using this
    rw [this]
  have n0 := f2_nib b0 h0
  have n1 := f2_nib b1 h1
  have n2 := f2_nib b2 h2
  have n3 := f2_nib b3 h3
  rw [s1, s2, g3_s n0.1 n0.2 (by omega), g3_s n1.1 n1.2 (by omega), g3_s n2.1 n2.2 (by omega)]
  have : g3B 1 (f2B (f1B b3)) = f3B (f2B (f1B b3)) := by
    have := g3_s (k := 0) (a := f2B (f1B b3)) (m := 0) n3.1 n3.2 (by decide)
    simpa [g3B, mkB] using this
  rw [this, f3_p b0 h0, f3_p b1 h1, f3_p b2 h2, f3_p b3 h3]
theorem b_tail {w0 w1 w2 w3 : Nat} (h0 : w0 ≤ 8) (h1 : w1 ≤ 8) (h2 : w2 ≤ 8) (h3 : w3 ≤ 8) {n n4 : Nat} (e : n = w0 + 256 * (w1 + 256 * (w2 + 256 * w3))) (e4 : n4 = n + n / 256) : (n4 + n4 / 65536) % 64 = w0 + w1 + w2 + w3 := by
  have q1 : n / 256 = w1 + 256 * (w2 + 256 * w3) := by omega
  rw [q1] at e4
  have q2 : n4 / 65536 = (w2 + w3) + 256 * w3 := by omega
  rw [q2]
  omega
