/-! texts: what the model's reader of a text answers, in words of the text tx of length L -/
theorem ni_sub {a b : Nat} (h : b ≤ a) : nI a - nI b = nI (a - b) := by
  have h1 : nI (a - b) + nI b = nI a := by rw [nI_add]; congr 1; omega
  rw [← h1, Int32.add_sub_cancel]
theorem ni_sub' {x y : Int32} {a b : Nat} (hx : x = nI a) (hy : y = nI b) (h : b ≤ a) : x - y = nI (a - b) := by rw [hx, hy, ni_sub h]
theorem inB_n {a b c : Nat} (ha : a < 2147483648) (hb : b < 2147483648) (hc : c < 2147483648) : inB (nI a) (nI b) (nI c) = decide (b ≤ a ∧ a ≤ c) := by
  unfold inB
  by_cases h1 : a < b
  · rw [if_pos (ni_lt h1 hb)]; symm; rw [decide_eq_false_iff_not]; omega
  · rw [if_neg (ni_nlt (by omega) ha)]
    by_cases h2 : c < a
    · rw [if_pos (ni_lt h2 ha)]; symm; rw [decide_eq_false_iff_not]; omega
    · rw [if_neg (ni_nlt (by omega) hc)]; symm; rw [decide_eq_true_iff]; omega
theorem inB_t {a b c : Nat} (ha : a < 2147483648) (hb : b < 2147483648) (hc : c < 2147483648) : inB (nI a) (nI b) (nI c) = true ↔ b ≤ a ∧ a ≤ c := by
  rw [inB_n ha hb hc, decide_eq_true_iff]
theorem inB_f {a b c : Nat} (ha : a < 2147483648) (hb : b < 2147483648) (hc : c < 2147483648) : inB (nI a) (nI b) (nI c) = false ↔ ¬ (b ≤ a ∧ a ≤ c) := by
  rw [inB_n ha hb hc, decide_eq_false_iff_not]
def tF (F : SV) (A : Nat) (l x y : Int32) : SV := put (put (put (put F 0 6 (nI A)) 0 7 l) 0 8 x) 0 9 y
section
variable {F : SV} {A B : Nat} {l x y v : Int32} {G : Nat → Nat → Int32} {T : (Nat → Nat) × Int64} {s : NV}
theorem tF_6 : put (tF F A l x y) 0 6 (nI B) = tF F B l x y := by
  funext k j
  simp only [tF, put_at]
  (repeat' split) <;> first | rfl | (exfalso; omega)
theorem tF_7 : put (tF F A l x y) 0 7 v = tF F A v x y := by
  funext k j
  simp only [tF, put_at]
  (repeat' split) <;> first | rfl | (exfalso; omega)
theorem tF_8 : put (tF F A l x y) 0 8 v = tF F A l v y := by
  funext k j
  simp only [tF, put_at]
  (repeat' split) <;> first | rfl | (exfalso; omega)
theorem tF_9 : put (tF F A l x y) 0 9 v = tF F A l x v := by
  funext k j
  simp only [tF, put_at]
  (repeat' split) <;> first | rfl | (exfalso; omega)
theorem tF_st : put F 0 6 (nI B) = tF F B (F 0 7) (F 0 8) (F 0 9) := by
  funext k j
  simp only [tF, put_at]
  (repeat' split) <;> first | rfl | (exfalso; omega) | (rename_i h; obtain ⟨h1, h2⟩ := h; subst h1; subst h2; rfl) | simp_all
theorem mT6 : (patch G 75 4 (mS (put (tF F A l x y) 0 6 (nI B)) s), T) = (patch G 75 4 (mS (tF F B l x y) s), T) := by rw [tF_6]
theorem mT7 : (patch G 75 4 (mS (put (tF F A l x y) 0 7 v) s), T) = (patch G 75 4 (mS (tF F A v x y) s), T) := by rw [tF_7]
theorem mT8 : (patch G 75 4 (mS (put (tF F A l x y) 0 8 v) s), T) = (patch G 75 4 (mS (tF F A l v y) s), T) := by rw [tF_8]
theorem mT9 : (patch G 75 4 (mS (put (tF F A l x y) 0 9 v) s), T) = (patch G 75 4 (mS (tF F A l x v) s), T) := by rw [tF_9]
theorem mTs : (patch G 75 4 (mS (put F 0 6 (nI B)) s), T) = (patch G 75 4 (mS (tF F B (F 0 7) (F 0 8) (F 0 9)) s), T) := by rw [tF_st]
end
def sgT (L : Nat) (tx : Nat → Nat) (A : Nat) : Nat := if L ≤ A then 0 else tx A
theorem sgT_lt {L : Nat} {tx : Nat → Nat} (h : ∀ i, i < L → tx i < 128) {A : Nat} : sgT L tx A < 128 := by
  unfold sgT
  split
  · omega
  · exact h A (by omega)
/-- the sign is a figure that a number may begin with -/
abbrev nuO (L : Nat) (tx : Nat → Nat) (lo hi A : Nat) : Prop := (48 + lo ≤ sgT L tx A ∧ sgT L tx A ≤ 57) ∧ sgT L tx A - 48 ≤ hi
/-- the number read after k further figures -/
def nuV (L : Nat) (tx : Nat → Nat) (A : Nat) : Nat → Nat
  | 0 => sgT L tx A - 48
  | k + 1 => 10 * nuV L tx A k + sgT L tx (A + 1 + k) - 48
abbrev nuC (L : Nat) (tx : Nat → Nat) (hi A k : Nat) : Prop := 0 < nuV L tx A k ∧ (48 ≤ sgT L tx (A + 1 + k) ∧ sgT L tx (A + 1 + k) ≤ 57) ∧ 10 * nuV L tx A k + sgT L tx (A + 1 + k) - 48 ≤ hi
theorem nuV_le {L : Nat} {tx : Nat → Nat} {hi A N : Nat} (h0 : sgT L tx A - 48 ≤ hi) (hc : ∀ k, k < N → nuC L tx hi A k) : ∀ k, k ≤ N → nuV L tx A k ≤ hi := by
  intro k hk
  cases k with
  | zero => exact h0
  | succ k => exact (hc k (by omega)).2.2
/-- the first k of no more than n where p fails, or n -/
def fsN (p : Nat → Bool) : Nat → Nat
  | 0 => 0
  | n + 1 => if p 0 then fsN (fun k => p (k + 1)) n + 1 else 0
theorem fsN_le {p : Nat → Bool} {n : Nat} : fsN p n ≤ n := by
  induction n generalizing p with
  | zero => exact Nat.le_refl 0
  | succ n ih =>
    unfold fsN
    split
    · have := ih (p := fun k => p (k + 1)); omega
    · omega
theorem fsN_lt {p : Nat → Bool} {n k : Nat} (h : k < fsN p n) : p k = true := by
  induction n generalizing p k with
  | zero => unfold fsN at h; omega
  | succ n ih =>
    unfold fsN at h
    split at h
    · cases k with
      | zero => assumption
      | succ k => exact ih (p := fun k => p (k + 1)) (by omega)
    · omega
theorem fsN_at {p : Nat → Bool} {n : Nat} (h : fsN p n < n) : p (fsN p n) = false := by
  induction n generalizing p with
  | zero => omega
  | succ n ih =>
    unfold fsN at h ⊢
    split
    · rename_i h1
      rw [if_pos h1] at h
      exact ih (p := fun k => p (k + 1)) (by omega)
    · rename_i h1; simpa using h1
/-- how many further figures the number at A takes -/
def nuN (L : Nat) (tx : Nat → Nat) (hi A : Nat) : Nat := fsN (fun k => decide (nuC L tx hi A k)) 81
theorem nuN_c {L : Nat} {tx : Nat → Nat} {hi A k : Nat} (h : k < nuN L tx hi A) : nuC L tx hi A k := of_decide_eq_true (fsN_lt (p := fun k => decide (nuC L tx hi A k)) h)
theorem nuN_lt {L : Nat} {tx : Nat → Nat} {hi A : Nat} (hL : L ≤ 80) : A + nuN L tx hi A < L ∨ nuN L tx hi A = 0 := by
  by_cases h : nuN L tx hi A = 0
  · exact Or.inr h
  · left
    have h1 := nuN_c (L := L) (tx := tx) (hi := hi) (A := A) (k := nuN L tx hi A - 1) (by omega)
    have h2 := h1.2.1.1
    unfold sgT at h2
    split at h2
    · omega
    · omega
theorem nuN_n {L : Nat} {tx : Nat → Nat} {hi A : Nat} (hL : L ≤ 80) : ¬ nuC L tx hi A (nuN L tx hi A) := by
  have h1 := nuN_lt (tx := tx) (hi := hi) (A := A) hL
  have h2 := fsN_at (p := fun k => decide (nuC L tx hi A k)) (n := 81) (by show nuN L tx hi A < 81; omega)
  exact of_decide_eq_false h2
/-- a number between lo and hi read at A: what and where after it -/
def nuR (L : Nat) (tx : Nat → Nat) (lo hi A : Nat) : Option Nat := if nuO L tx lo hi A then some (nuV L tx A (nuN L tx hi A)) else none
def nuA (L : Nat) (tx : Nat → Nat) (lo hi A : Nat) : Nat := if nuO L tx lo hi A then A + 1 + nuN L tx hi A else A
abbrev RC : Type := Bool × Nat × Int32 × Int32 × Int32
def r2T (L : Nat) (tx : Nat → Nat) (m1 l2 m2 A : Nat) (l y : Int32) : RC :=
  if nuR L tx 0 m1 A = none then (false, nuA L tx 0 m1 A, l, -1, -1)
  else if sgT L tx (nuA L tx 0 m1 A) = 44 then ((nuR L tx l2 m2 (nuA L tx 0 m1 A + 1)).isSome, nuA L tx l2 m2 (nuA L tx 0 m1 A + 1), l, oN (nuR L tx 0 m1 A), oN (nuR L tx l2 m2 (nuA L tx 0 m1 A + 1)))
  else (false, nuA L tx 0 m1 A, l, oN (nuR L tx 0 m1 A), -1)
def r1T (L : Nat) (tx : Nat → Nat) (lo hi A : Nat) (l y : Int32) : RC := ((nuR L tx lo hi A).isSome, nuA L tx lo hi A, l, oN (nuR L tx lo hi A), y)
def rcT (L : Nat) (tx : Nat → Nat) (A : Nat) (x y : Int32) : RC :=
  let c := sgT L tx A
  if c = 115 ∨ c = 119 then r2T L tx 29 0 9999 (A + 1) (nI c) y
  else if c = 100 then r1T L tx 0 29 (A + 1) (nI c) y
  else if c = 108 then r2T L tx 5 1 20 (A + 1) (nI c) y
  else if c = 114 then r2T L tx 5 1 600 (A + 1) (nI c) y
  else if c = 99 ∨ c = 111 ∨ c = 120 then r1T L tx 0 5 (A + 1) (nI c) y
  else if c = 116 then r1T L tx 1 600 (A + 1) (nI c) y
  else (false, A, nI c, x, y)
def mRC (F : SV) (r : RC) : SV := tF F r.2.1 r.2.2.1 r.2.2.2.1 r.2.2.2.2
