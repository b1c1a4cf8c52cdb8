/-! a text of commands, read twice: first to see whether it is valid, then to do it -/
theorem r1T_le {L : Nat} {tx : Nat → Nat} {lo hi A : Nat} {l y : Int32} (hL8 : L ≤ 80) (hA : A ≤ 80) : (r1T L tx lo hi A l y).2.1 ≤ 80 ∧ A ≤ (r1T L tx lo hi A l y).2.1 := nuA_le hL8 hA
theorem r2T_le {L : Nat} {tx : Nat → Nat} {m1 l2 m2 A : Nat} {l y : Int32} (hL8 : L ≤ 80) (hA : A ≤ 80) : (r2T L tx m1 l2 m2 A l y).2.1 ≤ 80 ∧ A ≤ (r2T L tx m1 l2 m2 A l y).2.1 := by
  have h1 := nuA_le (tx := tx) (lo := 0) (hi := m1) hL8 hA
  unfold r2T
  split
  · exact h1
  · split
    · rename_i h
      have h3 : nuA L tx 0 m1 A < 80 := by
        have := h; unfold sgT at this; split at this <;> omega
      have h2 := nuA_le (tx := tx) (lo := l2) (hi := m2) (A := nuA L tx 0 m1 A + 1) hL8 (by omega)
      show nuA L tx l2 m2 (nuA L tx 0 m1 A + 1) ≤ 80 ∧ A ≤ nuA L tx l2 m2 (nuA L tx 0 m1 A + 1)
      omega
    · exact h1
theorem rcT_le {L : Nat} {tx : Nat → Nat} {A : Nat} {x y : Int32} (hL8 : L ≤ 80) (hA : A ≤ 80) : (rcT L tx A x y).2.1 ≤ 80 ∧ A ≤ (rcT L tx A x y).2.1 := by
  have key : sgT L tx A ≠ 0 → A + 1 ≤ 80 := by
    intro h; unfold sgT at h; split at h <;> omega
  unfold rcT
  simp only
  split
  · have := r2T_le (tx := tx) (m1 := 29) (l2 := 0) (m2 := 9999) (A := A + 1) (l := nI (sgT L tx A)) (y := y) hL8 (key (by omega)); omega
  · split
    · have := r1T_le (tx := tx) (lo := 0) (hi := 29) (A := A + 1) (l := nI (sgT L tx A)) (y := y) hL8 (key (by omega)); omega
    · split
      · have := r2T_le (tx := tx) (m1 := 5) (l2 := 1) (m2 := 20) (A := A + 1) (l := nI (sgT L tx A)) (y := y) hL8 (key (by omega)); omega
      · split
        · have := r2T_le (tx := tx) (m1 := 5) (l2 := 1) (m2 := 600) (A := A + 1) (l := nI (sgT L tx A)) (y := y) hL8 (key (by omega)); omega
        · split
          · have := r1T_le (tx := tx) (lo := 0) (hi := 5) (A := A + 1) (l := nI (sgT L tx A)) (y := y) hL8 (key (by omega)); omega
          · split
            · have := r1T_le (tx := tx) (lo := 1) (hi := 600) (A := A + 1) (l := nI (sgT L tx A)) (y := y) hL8 (key (by omega)); omega
            · exact ⟨hA, Nat.le_refl _⟩
/-- what a well read command holds -/
def tOK (c p : Nat) : Prop := ((c = 115 ∨ c = 119 ∨ c = 100) ∧ p < 30) ∨ ((c = 108 ∨ c = 114 ∨ c = 99 ∨ c = 111 ∨ c = 120) ∧ p < 6) ∨ (c = 116 ∧ p ≤ 600)
theorem r1T_ok {L : Nat} {tx : Nat → Nat} {lo hi A : Nat} {l y : Int32} (h : (r1T L tx lo hi A l y).1 = true) : ∃ p, (r1T L tx lo hi A l y).2.2.1 = l ∧ (r1T L tx lo hi A l y).2.2.2.1 = nI p ∧ p ≤ hi := by
  cases hn : nuR L tx lo hi A with
  | none =>
    have h2 : (nuR L tx lo hi A).isSome = true := h
    rw [hn] at h2; cases h2
  | some p =>
    refine ⟨p, rfl, ?_, nuR_le hn⟩
    show oN (nuR L tx lo hi A) = nI p
    rw [hn]; rfl
theorem r2T_ok {L : Nat} {tx : Nat → Nat} {m1 l2 m2 A : Nat} {l y : Int32} (h : (r2T L tx m1 l2 m2 A l y).1 = true) : ∃ p, (r2T L tx m1 l2 m2 A l y).2.2.1 = l ∧ (r2T L tx m1 l2 m2 A l y).2.2.2.1 = nI p ∧ p ≤ m1 := by
  cases hn : nuR L tx 0 m1 A with
  | none =>
    unfold r2T at h
    rw [if_pos hn] at h
    cases h
  | some p =>
    have h1 : ¬ nuR L tx 0 m1 A = none := by rw [hn]; exact fun e => by cases e
    by_cases h2 : sgT L tx (nuA L tx 0 m1 A) = 44
    · refine ⟨p, ?_, ?_, nuR_le hn⟩
      · unfold r2T; rw [if_neg h1, if_pos h2]
      · unfold r2T; rw [if_neg h1, if_pos h2, hn]; rfl
    · unfold r2T at h
      rw [if_neg h1, if_neg h2] at h
      cases h
theorem rcT_ok {L : Nat} {tx : Nat → Nat} {A : Nat} {x y : Int32} (h : (rcT L tx A x y).1 = true) : ∃ c p, (rcT L tx A x y).2.2.1 = nI c ∧ (rcT L tx A x y).2.2.2.1 = nI p ∧ tOK c p := by
  unfold rcT at h ⊢
  simp only at h ⊢
  split at h
  · rename_i h9
    rw [if_pos h9]
    obtain ⟨p, e1, e2, e3⟩ := r2T_ok h
    exact ⟨_, p, e1, e2, Or.inl ⟨by omega, by omega⟩⟩
  · rename_i h9
    rw [if_neg h9]
    split at h
    · rename_i h8
      rw [if_pos h8]
      obtain ⟨p, e1, e2, e3⟩ := r1T_ok h
      exact ⟨_, p, e1, e2, Or.inl ⟨by omega, by omega⟩⟩
    · rename_i h8
      rw [if_neg h8]
      split at h
      · rename_i h7
        rw [if_pos h7]
        obtain ⟨p, e1, e2, e3⟩ := r2T_ok h
        exact ⟨_, p, e1, e2, Or.inr (Or.inl ⟨by omega, by omega⟩)⟩
      · rename_i h7
        rw [if_neg h7]
        split at h
        · rename_i h6
          rw [if_pos h6]
          obtain ⟨p, e1, e2, e3⟩ := r2T_ok h
          exact ⟨_, p, e1, e2, Or.inr (Or.inl ⟨by omega, by omega⟩)⟩
        · rename_i h6
          rw [if_neg h6]
          split at h
          · rename_i h5
            rw [if_pos h5]
            obtain ⟨p, e1, e2, e3⟩ := r1T_ok h
            exact ⟨_, p, e1, e2, Or.inr (Or.inl ⟨by omega, by omega⟩)⟩
          · rename_i h5
            rw [if_neg h5]
            split at h
            · rename_i h4
              rw [if_pos h4]
              obtain ⟨p, e1, e2, e3⟩ := r1T_ok h
              exact ⟨_, p, e1, e2, Or.inr (Or.inr ⟨by omega, by omega⟩)⟩
            · cases h
/-- where the first reading stands before its command k -/
def hdT (L : Nat) (tx : Nat → Nat) (l x y : Int32) : Nat → RC
  | 0 => (true, 0, l, x, y)
  | k + 1 =>
    let r := rcT L tx (hdT L tx l x y k).2.1 (hdT L tx l x y k).2.2.2.1 (hdT L tx l x y k).2.2.2.2
    (true, r.2.1 + 1, r.2.2)
abbrev rdT (L : Nat) (tx : Nat → Nat) (l x y : Int32) (k : Nat) : RC := rcT L tx (hdT L tx l x y k).2.1 (hdT L tx l x y k).2.2.2.1 (hdT L tx l x y k).2.2.2.2
abbrev vaC (L : Nat) (tx : Nat → Nat) (l x y : Int32) (k : Nat) : Prop := (rdT L tx l x y k).1 = true ∧ ¬ (rdT L tx l x y k).2.1 = L ∧ sgT L tx (rdT L tx l x y k).2.1 = 59
theorem hdT_le {L : Nat} {tx : Nat → Nat} {l x y : Int32} {K : Nat} (hL8 : L ≤ 80) (hcc : ∀ k, k < K → vaC L tx l x y k) : ∀ k, k ≤ K → (hdT L tx l x y k).2.1 ≤ 80 ∧ k ≤ (hdT L tx l x y k).2.1 := by
  intro k
  induction k with
  | zero => intro _; exact ⟨Nat.zero_le _, Nat.zero_le _⟩
  | succ k ih =>
    intro hk
    have h := (hcc k (by omega)).2.2
    have h1 := rcT_le (tx := tx) (x := (hdT L tx l x y k).2.2.2.1) (y := (hdT L tx l x y k).2.2.2.2) hL8 (ih (by omega)).1
    have h2 := (ih (by omega)).2
    show (rdT L tx l x y k).2.1 + 1 ≤ 80 ∧ k + 1 ≤ (rdT L tx l x y k).2.1 + 1
    have h3 : k ≤ (rdT L tx l x y k).2.1 := Nat.le_trans h2 h1.2
    unfold sgT at h
    split at h
    · omega
    · omega
def vaK (L : Nat) (tx : Nat → Nat) (l x y : Int32) : Nat := fsN (fun k => decide (vaC L tx l x y k)) 82
theorem vaK_c {L : Nat} {tx : Nat → Nat} {l x y : Int32} {k : Nat} (h : k < vaK L tx l x y) : vaC L tx l x y k := of_decide_eq_true (fsN_lt (p := fun k => decide (vaC L tx l x y k)) h)
theorem vaK_n {L : Nat} {tx : Nat → Nat} {l x y : Int32} (hL : L ≤ 80) : ¬ vaC L tx l x y (vaK L tx l x y) := by
  have h1 := hdT_le hL (fun k hk => vaK_c (L := L) (tx := tx) (l := l) (x := x) (y := y) hk) _ (Nat.le_refl _)
  have h2 := fsN_at (p := fun k => decide (vaC L tx l x y k)) (n := 82) (by show vaK L tx l x y < 82; omega)
  exact of_decide_eq_false h2
/-- the first reading ends well -/
def vaT (L : Nat) (tx : Nat → Nat) (l x y : Int32) : Bool := (rdT L tx l x y (vaK L tx l x y)).1 && decide ((rdT L tx l x y (vaK L tx l x y)).2.1 = L)
def cN (x : Int32) : Nat := x.toInt.toNat
theorem cN_n {k : Nat} (hk : k < 2147483648) : cN (nI k) = k := by unfold cN; rw [nI_toInt hk]; omega
/-- may the command be done -/
def canT (s : NV) (c p : Nat) : Bool :=
  if c = 115 then csM s p else if c = 119 then cwM s p else if c = 100 then thM s 0 p else if c = 108 then clB s p else if c = 114 then crB s p
  else if c = 111 then cdB s p else if c = 99 then decide (ofM s 0 p 1 = 0) else if c = 120 then decide (¬ ofM s 0 p 0 = 0) else decide (¬ nI 1000000 < s 0 + nI p)
/-- what doing it answers -/
def dvT (s : NV) (c p : Nat) (y : Int32) : Int32 :=
  if c = 115 then onM (cpM (st2 s p y) 0 p) else if c = 119 then onM (cpM (st1 s p y) 0 p) else if c = 100 then onM (cpM s 0 p) else if c = 108 then leL (le1 s p y) 6 else if c = 114 then nI (hdM (re1 s p y) 0 p)
  else if c = 111 then nI (hdM (di1 s p) 0 p) else if c = 99 then nI (rcL (rc1 s p) p 30).2 else if c = 120 then nI (hdM s 0 p) else spL s 0 p 3 - s 3
/-- the numbers after it -/
def dsT (s : NV) (c p : Nat) (y : Int32) : NV :=
  if c = 115 then seM (st2 s p y) 0 else if c = 119 then wrM s p y else if c = 100 then rvM s p else if c = 108 then seM (le1 s p y) 0 else if c = 114 then seM (re1 s p y) 0
  else if c = 111 then seM (di1 s p) 0 else if c = 99 then seM (rcL (rc1 s p) p 30).1 0 else if c = 120 then seM (cr1 s p) 0 else spL s 0 p
/-- where the second reading stands before its command k -/
def h2T (L : Nat) (tx : Nat → Nat) (l x y : Int32) : Nat → RC
  | 0 => (true, 0, l, x, y)
  | k + 1 =>
    let r := rcT L tx (h2T L tx l x y k).2.1 (h2T L tx l x y k).2.2.2.1 (h2T L tx l x y k).2.2.2.2
    (true, if sgT L tx r.2.1 = 59 then r.2.1 + 1 else r.2.1, r.2.2)
abbrev rd2 (L : Nat) (tx : Nat → Nat) (l x y : Int32) (k : Nat) : RC := rcT L tx (h2T L tx l x y k).2.1 (h2T L tx l x y k).2.2.2.1 (h2T L tx l x y k).2.2.2.2
theorem h2T_le {L : Nat} {tx : Nat → Nat} {l x y : Int32} (hL8 : L ≤ 80) : ∀ k, (h2T L tx l x y k).2.1 ≤ 80 := by
  intro k
  induction k with
  | zero => exact Nat.zero_le _
  | succ k ih =>
    have h1 := rcT_le (tx := tx) (x := (h2T L tx l x y k).2.2.2.1) (y := (h2T L tx l x y k).2.2.2.2) hL8 ih
    show (if sgT L tx (rd2 L tx l x y k).2.1 = 59 then (rd2 L tx l x y k).2.1 + 1 else (rd2 L tx l x y k).2.1) ≤ 80
    split
    · rename_i h
      unfold sgT at h
      split at h
      · omega
      · omega
    · exact h1.1
def sqT (L : Nat) (tx : Nat → Nat) (l x y : Int32) (s : NV) : Nat → NV
  | 0 => s
  | k + 1 => dsT (sqT L tx l x y s k) (cN (rd2 L tx l x y k).2.2.1) (cN (rd2 L tx l x y k).2.2.2.1) (rd2 L tx l x y k).2.2.2.2
def cnT (L : Nat) (tx : Nat → Nat) (l x y : Int32) (s : NV) : Nat → Nat
  | 0 => 0
  | k + 1 => cnT L tx l x y s k + (if dvT (sqT L tx l x y s k) (cN (rd2 L tx l x y k).2.2.1) (cN (rd2 L tx l x y k).2.2.2.1) (rd2 L tx l x y k).2.2.2.2 < 0 then 0 else 1)
abbrev ruC (L : Nat) (tx : Nat → Nat) (l x y : Int32) (s : NV) (k : Nat) : Prop := (rd2 L tx l x y k).1 = true ∧ canT (sqT L tx l x y s k) (cN (rd2 L tx l x y k).2.2.1) (cN (rd2 L tx l x y k).2.2.2.1) = true
