/-! a command of the script: both sides answer alike, and what holds between commands holds again -/
def CnX (k sz : Nat) (IH : MI) (hh : List (Nat × Nat × Nat × Nat)) (IM : MI) (As : List Value) (M : Mem) : Prop := ∃ (cd v : Int32) (M1 M2 M3 : Mem), DoesH sz IH hh (.ref (sz + 0) :: (As ++ [.ref (sz + 79)])) M 1 6 (.inl (some cd)) M1 ∧ Does sz IM (.ref (sz + 75) :: As) M1 0 0 (.inl (some v)) M2 ∧ Does sz I_X3_thrown [.ref (sz + 75)] M2 0 0 (.inl (some cd)) M3 ∧ (cd = 0 → M3.2.2 = v.toInt64) ∧ InvM (k + 1) M3
section
variable {sz k n n' B B' c : Nat} {IH IM IX : MI} {hh : List (Nat × Nat × Nat × Nat)} {As : List Value} {G G' : Nat → Nat → Int32} {f f' F F' : SV} {s s' : NV} {TT : (Nat → Nat) × Int64} {T' : Nat → Nat} {v : Int32}
theorem thr_c (h0 : F 0 0 = nI c) : Does sz I_X3_thrown [.ref (sz + 75)] (patch G 75 4 (mS F s), TT) 0 0 (.inl (some (nI c))) (patch G 75 4 (mS F s), TT) := by
  have h := a_thrown (sz := sz) (G := G) (F := F) (s := s) (T := TT)
  rw [h0] at h
  exact h
theorem cn_ref (hc : c = 1 ∨ c = 2 ∨ c = 3) (hB : B ≤ 100 * k) (hd : Dat G f F s TT.1 n B) (hH : DoesH sz IH hh (.ref (sz + 0) :: (As ++ [.ref (sz + 79)])) (Wd G f F s, TT) 1 6 (.inl (some (nI c))) (Wd G f F s, TT)) (hA : Does sz IM (.ref (sz + 75) :: As) (patch (patch G 1 7 f) 75 4 (mS F s), TT) 0 0 (.inl (some v)) (patch (patch G 1 7 f) 75 4 (mS (put F 0 0 (nI c)) s), TT)) : CnX k sz IH hh IM As (Wd G f F s, TT) := by
  refine ⟨nI c, v, _, _, _, hH, ?_, thr_c (put_e rfl rfl), fun e => ?_, ⟨G, f, put F 0 0 (nI c), s, n, B, by omega, hd.e0 c, Wd_p.symm⟩⟩
  · rw [Wd_p]; exact hA
  · exact absurd e (nI_ne0 (by omega) (by omega))
theorem cn_ok (hH : DoesH sz IH hh (.ref (sz + 0) :: (As ++ [.ref (sz + 79)])) (Wd G f F s, TT) 1 6 (.inl (some (nI 0))) (Wd G' f' F s, (T', v.toInt64))) (hA : Does sz IM (.ref (sz + 75) :: As) (patch (patch G' 1 7 f') 75 4 (mS F s), (T', v.toInt64)) 0 0 (.inl (some v)) (patch (patch G' 1 7 f') 75 4 (mS F' s'), (T', v.toInt64))) (h0 : F' 0 0 = nI 0) (hB : B' ≤ 100 * (k + 1)) (hd : Dat G' f' F' s' T' n' B') : CnX k sz IH hh IM As (Wd G f F s, TT) := by
  refine ⟨nI 0, v, (Wd G' f' F s, (T', v.toInt64)), (patch (patch G' 1 7 f') 75 4 (mS F' s'), (T', v.toInt64)), (patch (patch G' 1 7 f') 75 4 (mS F' s'), (T', v.toInt64)), hH, ?_, thr_c h0, fun _ => rfl, ⟨G', f', F', s', n', B', hB, hd, Wd_p.symm⟩⟩
  rw [Wd_p]; exact hA
/-- a query answered -/
theorem cn_q (hw : ∀ M, Does sz IX (.ref (sz + 0) :: As) M 0 0 (.inl (some v)) M → DoesH sz IH hh (.ref (sz + 0) :: (As ++ [.ref (sz + 79)])) M 1 6 (.inl (some (nI 0))) (M.1, (M.2.1, v.toInt64))) (hx : Does sz IX (.ref (sz + 0) :: As) (Wd G f F s, TT) 0 0 (.inl (some v)) (Wd G f F s, TT)) (hA : ∀ G T, Does sz IM (.ref (sz + 75) :: As) (patch G 75 4 (mS F s), T) 0 0 (.inl (some v)) (patch G 75 4 (mS (put F 0 0 (nI 0)) s), T)) (hB : B ≤ 100 * k) (hd : Dat G f F s TT.1 n B) : CnX k sz IH hh IM As (Wd G f F s, TT) :=
  cn_ok (hw _ hx) (hA _ _) (put_e rfl rfl) (by omega) (hd.e0 0)
/-- an undoable operation done -/
theorem cn_un (hx : Does sz IX (.ref (sz + 0) :: As) (patch (patch G 75 4 (mS F s)) 1 7 f, TT) 0 0 (.inl (some v)) (patch (rmG (patch G 75 4 (mS F s)) f TT n) 1 7 f', rmT TT n)) (hw : ∀ M M', Does sz IX (.ref (sz + 0) :: As) M 0 0 (.inl (some v)) M' → DoesH sz IH hh (.ref (sz + 0) :: (As ++ [.ref (sz + 79)])) M 1 6 (.inl (some (nI 0))) (M'.1, (M'.2.1, v.toInt64))) (ha : ∀ G T, Does sz IM (.ref (sz + 75) :: As) (patch G 75 4 (mS F s), T) 0 0 (.inl (some v)) (patch G 75 4 (mS (FK F n) s'), T)) (hd : Dat G f F s TT.1 n B) (hB : B ≤ 100 * k) (ho : OpA f' s' (kpS s n) (B + 82) 1000000) : CnX k sz IH hh IM As (Wd G f F s, TT) := by
  rw [rm75 (rmR_ge hd.1)] at hx
  have h1 := hw _ _ hx
  refine cn_ok (G' := rmG G f TT n) (f' := f') (T' := (rmT TT n).1) (F' := FK F n) (s' := s') (n' := kpV n) (B' := B + 82) h1 (ha _ _) ?_ (by omega) (hd.keep.op ho (by omega))
  unfold FK
  rw [put_o (by omega), put_e rfl rfl]
end
theorem inB_nI {y : Int32} {lo hi : Nat} (h : inB y (nI lo) (nI hi) = true) (h1 : lo ≤ 100000) (h2 : hi ≤ 100000) : ∃ q, lo ≤ q ∧ q ≤ hi ∧ y = nI q := by
  obtain ⟨a, b⟩ := inB_p h
  have h0 : ¬ y < 0 := fun z => a (Int32.lt_of_lt_of_le z (by rw [← nI_0]; exact nI_le (by omega) (by omega)))
  obtain ⟨q, q1, rfl⟩ := nI_of h0
  rw [nI_ltI q1 (by omega)] at a
  rw [nI_leI q1 (by omega)] at b
  exact ⟨q, by omega, b, rfl⟩
theorem o_status {sz : Nat} : ∀ x : Int32, OpX sz InvM I_L_status hh_L_status I_X3_status [.int x] := by
  intro x
  intro k M hk hI
  obtain ⟨G, f, F, s, n, B, hB, hd, hM⟩ := hI
  obtain ⟨M1, TT⟩ := M
  have hM : M1 = Wd G f F s := hM
  have hd : Dat G f F s TT.1 n B := hd
  subst hM
  obtain ⟨hS, hJ, h6⟩ := hd.sim
  show CnX k sz I_L_status hh_L_status I_X3_status [.int x] (Wd G f F s, TT)
  cases hx : isR x 30 with
  | false => exact cn_ref (c := 1) (by omega) hB hd (h_status_1 (x_status_1 hx)) (a_status_1 hx)
  | true =>
    obtain ⟨ex, hp⟩ := isR_n hx (by decide)
    generalize ixN x = p at ex hp
    subst ex
    refine cn_q (fun M h => h_status h) (x_status hp) (fun G T => ?_) hB hd
    have h9 := a_status (sz := sz) (G := G) (T := T) (F := F) (s := s) hp
    rw [sim_st hS hJ.2.1 hp]
    exact h9
theorem o_copies {sz : Nat} : ∀ x : Int32, OpX sz InvM I_L_copies hh_L_copies I_X3_copies [.int x] := by
  intro x
  intro k M hk hI
  obtain ⟨G, f, F, s, n, B, hB, hd, hM⟩ := hI
  obtain ⟨M1, TT⟩ := M
  have hM : M1 = Wd G f F s := hM
  have hd : Dat G f F s TT.1 n B := hd
  subst hM
  obtain ⟨hS, hJ, h6⟩ := hd.sim
  show CnX k sz I_L_copies hh_L_copies I_X3_copies [.int x] (Wd G f F s, TT)
  cases hx : isR x 30 with
  | false => exact cn_ref (c := 1) (by omega) hB hd (h_copies_1 (x_copies_1 hx)) (a_copies_1 hx)
  | true =>
    obtain ⟨ex, hp⟩ := isR_n hx (by decide)
    generalize ixN x = p at ex hp
    subst ex
    refine cn_q (fun M h => h_copies h) (x_copies hp) (fun G T => ?_) hB hd
    have h9 := a_copies (sz := sz) (G := G) (T := T) (F := F) (s := s) hp
    rw [sim_cp hS hJ.2.1 hp]
    exact h9
theorem o_mode {sz : Nat} : ∀ x : Int32, OpX sz InvM I_L_mode hh_L_mode I_X3_mode [.int x] := by
  intro x
  intro k M hk hI
  obtain ⟨G, f, F, s, n, B, hB, hd, hM⟩ := hI
  obtain ⟨M1, TT⟩ := M
  have hM : M1 = Wd G f F s := hM
  have hd : Dat G f F s TT.1 n B := hd
  subst hM
  obtain ⟨hS, hJ, h6⟩ := hd.sim
  show CnX k sz I_L_mode hh_L_mode I_X3_mode [.int x] (Wd G f F s, TT)
  cases hx : isR x 6 with
  | false => exact cn_ref (c := 1) (by omega) hB hd (h_mode_1 (x_mode_1 hx)) (a_mode_1 hx)
  | true =>
    obtain ⟨ex, hh⟩ := isR_n hx (by decide)
    generalize ixN x = h at ex hh
    subst ex
    refine cn_q (fun M z => h_mode z) (x_mode hh) (fun G T => ?_) hB hd
    have h9 := a_mode (sz := sz) (G := G) (T := T) (F := F) (s := s) hh
    rw [(hS.h h hh).1]
    exact h9
theorem o_usedRoom {sz : Nat} : ∀ x : Int32, OpX sz InvM I_L_usedRoom hh_L_usedRoom I_X3_usedRoom [.int x] := by
  intro x
  intro k M hk hI
  obtain ⟨G, f, F, s, n, B, hB, hd, hM⟩ := hI
  obtain ⟨M1, TT⟩ := M
  have hM : M1 = Wd G f F s := hM
  have hd : Dat G f F s TT.1 n B := hd
  subst hM
  obtain ⟨hS, hJ, h6⟩ := hd.sim
  show CnX k sz I_L_usedRoom hh_L_usedRoom I_X3_usedRoom [.int x] (Wd G f F s, TT)
  cases hx : isR x 6 with
  | false => exact cn_ref (c := 1) (by omega) hB hd (h_usedRoom_1 (x_usedRoom_1 hx)) (a_usedRoom_1 hx)
  | true =>
    obtain ⟨ex, hh⟩ := isR_n hx (by decide)
    generalize ixN x = h at ex hh
    subst ex
    refine cn_q (fun M z => h_usedRoom z) (x_usedRoom hh) (fun G T => ?_) hB hd
    have h9 := a_usedRoom (sz := sz) (G := G) (T := T) (F := F) (s := s) hh
    rw [sim_us hS hh]
    exact h9
theorem o_freeRoom {sz : Nat} : ∀ x : Int32, OpX sz InvM I_L_freeRoom hh_L_freeRoom I_X3_freeRoom [.int x] := by
  intro x
  intro k M hk hI
  obtain ⟨G, f, F, s, n, B, hB, hd, hM⟩ := hI
  obtain ⟨M1, TT⟩ := M
  have hM : M1 = Wd G f F s := hM
  have hd : Dat G f F s TT.1 n B := hd
  subst hM
  obtain ⟨hS, hJ, h6⟩ := hd.sim
  show CnX k sz I_L_freeRoom hh_L_freeRoom I_X3_freeRoom [.int x] (Wd G f F s, TT)
  cases hx : isR x 6 with
  | false => exact cn_ref (c := 1) (by omega) hB hd (h_freeRoom_1 (x_freeRoom_1 hx)) (a_freeRoom_1 hx)
  | true =>
    obtain ⟨ex, hh⟩ := isR_n hx (by decide)
    generalize ixN x = h at ex hh
    subst ex
    refine cn_q (fun M z => h_freeRoom z) (x_freeRoom hh) (fun G T => ?_) hB hd
    have h9 := a_freeRoom (sz := sz) (G := G) (T := T) (F := F) (s := s) hh
    rw [sim_rm hS hh]
    exact h9
theorem o_deadlineIn {sz : Nat} : ∀ x : Int32, OpX sz InvM I_L_deadlineIn hh_L_deadlineIn I_X3_deadlineIn [.int x] := by
  intro x
  intro k M hk hI
  obtain ⟨G, f, F, s, n, B, hB, hd, hM⟩ := hI
  obtain ⟨M1, TT⟩ := M
  have hM : M1 = Wd G f F s := hM
  have hd : Dat G f F s TT.1 n B := hd
  subst hM
  obtain ⟨hS, hJ, h6⟩ := hd.sim
  show CnX k sz I_L_deadlineIn hh_L_deadlineIn I_X3_deadlineIn [.int x] (Wd G f F s, TT)
  cases hx : isR x 6 with
  | false => exact cn_ref (c := 1) (by omega) hB hd (h_deadlineIn_1 (x_deadlineIn_1 hx)) (a_deadlineIn_1 hx)
  | true =>
    obtain ⟨ex, hh⟩ := isR_n hx (by decide)
    generalize ixN x = h at ex hh
    subst ex
    refine cn_q (fun M z => h_deadlineIn z) (x_deadlineIn hh) (fun G T => ?_) hB hd
    have h9 := a_deadlineIn (sz := sz) (G := G) (T := T) (F := F) (s := s) hh
    rw [(hS.h h hh).1, (hS.h h hh).2.2, hS.a.1.1]
    exact h9
theorem o_read {sz : Nat} : ∀ x : Int32, OpX sz InvM I_L_read hh_L_read I_X3_read [.int x] := by
  intro x
  intro k M hk hI
  obtain ⟨G, f, F, s, n, B, hB, hd, hM⟩ := hI
  obtain ⟨M1, TT⟩ := M
  have hM : M1 = Wd G f F s := hM
  have hd : Dat G f F s TT.1 n B := hd
  subst hM
  obtain ⟨hS, hJ, h6⟩ := hd.sim
  show CnX k sz I_L_read hh_L_read I_X3_read [.int x] (Wd G f F s, TT)
  cases hx : isR x 30 with
  | false => exact cn_ref (c := 1) (by omega) hB hd (h_read_1 (x_read_1 hx)) (a_read_1 hx)
  | true =>
    obtain ⟨ex, hp⟩ := isR_n hx (by decide)
    generalize ixN x = p at ex hp
    subst ex
    cases hc : reS f p with
    | false => exact cn_ref (c := 2) (by omega) hB hd (h_read_2 (x_read_3 hp hc)) (a_read_2 hp ((sim_re hS hJ.2.1 hp).symm.trans hc))
    | true =>
      refine cn_q (fun M h => h_read h) (x_read hp hc) (fun G T => ?_) hB hd
      have h9 := a_read (sz := sz) (G := G) (T := T) (F := F) (s := s) hp ((sim_re hS hJ.2.1 hp).symm.trans hc)
      have e : f 6 p = s (62 + p) := by
        have := (hS.p p hp).2
        simp only [Nat.zero_add] at this
        exact this
      rw [e]
      exact h9
theorem o_countStatus {sz : Nat} : ∀ x : Int32, OpX sz InvM I_L_countStatus hh_L_countStatus I_X3_countStatus [.int x] := by
  intro x
  intro k M hk hI
  obtain ⟨G, f, F, s, n, B, hB, hd, hM⟩ := hI
  obtain ⟨M1, TT⟩ := M
  have hM : M1 = Wd G f F s := hM
  have hd : Dat G f F s TT.1 n B := hd
  subst hM
  obtain ⟨hS, hJ, h6⟩ := hd.sim
  show CnX k sz I_L_countStatus hh_L_countStatus I_X3_countStatus [.int x] (Wd G f F s, TT)
  by_cases hm : x = -2
  · refine cn_q (fun M h => h_countStatus h) (x_countStatus_b hm) (fun G T => ?_) hB hd
    have h9 := a_countStatus_b (sz := sz) (G := G) (T := T) (F := F) (s := s) (by rw [hm]; decide) hm
    rw [sim_cnt hS hJ.2.1 (by rw [hm]; decide) 30 (Nat.le_refl 30)]
    exact h9
  · cases hx : inB x (nI 0) (nI 2) with
    | false => exact cn_ref (c := 1) (by omega) hB hd (h_countStatus_1 (x_countStatus_1 hx hm)) (a_countStatus_1 hx hm)
    | true =>
      refine cn_q (fun M h => h_countStatus h) (x_countStatus hx hm) (fun G T => ?_) hB hd
      have h9 := a_countStatus (sz := sz) (G := G) (T := T) (F := F) (s := s) hx
      have hne : ¬ x = -1 := fun e => by rw [e] at hx; exact absurd hx (by decide)
      rw [sim_cnt hS hJ.2.1 hne 30 (Nat.le_refl 30)]
      exact h9
theorem o_replica {sz : Nat} : ∀ x y : Int32, OpX sz InvM I_L_replica hh_L_replica I_X3_replica [.int x, .int y] := by
  intro x y
  intro k M hk hI
  obtain ⟨G, f, F, s, n, B, hB, hd, hM⟩ := hI
  obtain ⟨M1, TT⟩ := M
  have hM : M1 = Wd G f F s := hM
  have hd : Dat G f F s TT.1 n B := hd
  subst hM
  obtain ⟨hS, hJ, h6⟩ := hd.sim
  show CnX k sz I_L_replica hh_L_replica I_X3_replica [.int x, .int y] (Wd G f F s, TT)
  cases hx : isR x 6 with
  | false => exact cn_ref (c := 1) (by omega) hB hd (h_replica_1 (x_replica_1 hx)) (a_replica_1 hx)
  | true =>
    obtain ⟨ex, hh⟩ := isR_n hx (by decide)
    generalize ixN x = h at ex hh
    subst ex
    cases hy : isR y 30 with
    | false => exact cn_ref (c := 1) (by omega) hB hd (h_replica_1 (x_replica_2 hh hy)) (a_replica_2 hh hy)
    | true =>
      obtain ⟨ey, hp⟩ := isR_n hy (by decide)
      generalize ixN y = p at ey hp
      subst ey
      refine cn_q (fun M z => h_replica z) (x_replica hh hp) (fun G T => ?_) hB hd
      have h9 := a_replica (sz := sz) (G := G) (T := T) (F := F) (s := s) hh hp
      have e : (if tb (f 4 h) (nI p) then nI 1 else if tb (f 5 h) (nI p) then nI 2 else nI 0) = (if rpM s 0 h p = 0 then nI 0 else if fsM s 0 h p then nI 1 else nI 2) := by
        obtain ⟨q1, q2⟩ := hS.q h hh p (by omega)
        rw [decide_eq_true hp, Bool.true_and] at q1 q2
        rw [q1, q2]
        obtain ⟨⟨c, c1, c2, c3, c4⟩, -⟩ := hJ
        have hcb : c < 1000000 := by omega
        obtain ⟨r, r1, r2⟩ := c4 h hh p hp
        cases hf : fsM s 0 h p with
        | true =>
          have := fsM_pos hf
          rw [if_pos rfl, if_neg (fun z => this (by rw [z]; decide)), if_pos rfl]
        | false =>
          rw [if_neg Bool.false_ne_true, r2]
          by_cases r0 : r = 0
          · subst r0; rfl
          · rw [decide_eq_true (nI_nle (by omega) (by omega)), if_neg (nI_ne0 (by omega) (by omega))]; rfl
      rw [e]
      exact h9
theorem o_transfer {sz : Nat} : ∀ x : Int32, OpX sz InvM I_L_transfer hh_L_transfer I_X3_transfer [.int x] := by
  intro x
  intro k M hk hI
  obtain ⟨G, f, F, s, n, B, hB, hd, hM⟩ := hI
  obtain ⟨M1, TT⟩ := M
  have hM : M1 = Wd G f F s := hM
  have hd : Dat G f F s TT.1 n B := hd
  subst hM
  obtain ⟨hS, hJ, h6⟩ := hd.sim
  show CnX k sz I_L_transfer hh_L_transfer I_X3_transfer [.int x] (Wd G f F s, TT)
  cases hx : inB x (nI 0) (nI 3) with
  | false => exact cn_ref (c := 1) (by omega) hB hd (h_transfer_1 (x_transfer_1 hx)) (a_transfer_1 hx)
  | true =>
    obtain ⟨w, w1, w2, rfl⟩ := inB_nI hx (by decide) (by decide)
    obtain ⟨⟨s8, s9, s10, s11⟩, sn, sy⟩ := hS.a
    have s11' : f 0 11 = s 4 := s11
    have s8' : f 0 8 = s 0 := s8
    have h9 := fun (G : Nat → Nat → Int32) (T : (Nat → Nat) × Int64) => a_transfer (sz := sz) (G := G) (T := T) (F := F) (s := s) (w := w) (by omega) hx
    have hw : w = 0 ∨ w = 1 ∨ w = 2 ∨ w = 3 := by omega
    by_cases h4 : s 4 = -1
    · have et : trM s w = -1 := by unfold trM; rw [if_pos h4]
      rw [et] at h9
      rcases hw with rfl | rfl | rfl | rfl
      · have hq := x_transfer_w0 (sz := sz) (G := patch G 75 4 (mS F s)) (f := f) (T := TT)
        rw [s11', if_pos h4] at hq
        exact cn_q (fun M h => h_transfer h) hq h9 hB hd
      · have hq := x_transfer_w1 (sz := sz) (G := patch G 75 4 (mS F s)) (f := f) (T := TT)
        rw [s11', if_pos h4] at hq
        exact cn_q (fun M h => h_transfer h) hq h9 hB hd
      · have hq := x_transfer_w2 (sz := sz) (G := patch G 75 4 (mS F s)) (f := f) (T := TT)
        rw [s11', if_pos h4] at hq
        exact cn_q (fun M h => h_transfer h) hq h9 hB hd
      · have hq := x_transfer_w3 (sz := sz) (G := patch G 75 4 (mS F s)) (f := f) (T := TT)
        rw [s11', if_pos h4] at hq
        exact cn_q (fun M h => h_transfer h) hq h9 hB hd
    · obtain ⟨y12, y13, y14⟩ := sy h4
      have y12' : f 0 12 = s 5 := y12
      have y13' : f 0 13 = s 6 := y13
      have y14' : f 0 14 = s 7 := y14
      rcases hw with rfl | rfl | rfl | rfl
      · have et : trM s 0 = s 4 := by unfold trM; rw [if_neg h4, if_neg (by decide)]
        rw [et] at h9
        have hq := x_transfer_w0 (sz := sz) (G := patch G 75 4 (mS F s)) (f := f) (T := TT)
        rw [s11', if_neg h4] at hq
        exact cn_q (fun M h => h_transfer h) hq h9 hB hd
      · have et : trM s 1 = s 5 := by unfold trM; rw [if_neg h4, if_neg (by decide)]
        rw [et] at h9
        have hq := x_transfer_w1 (sz := sz) (G := patch G 75 4 (mS F s)) (f := f) (T := TT)
        rw [s11', if_neg h4, y12'] at hq
        exact cn_q (fun M h => h_transfer h) hq h9 hB hd
      · have et : trM s 2 = s 6 := by unfold trM; rw [if_neg h4, if_neg (by decide)]
        rw [et] at h9
        have hq := x_transfer_w2 (sz := sz) (G := patch G 75 4 (mS F s)) (f := f) (T := TT)
        rw [s11', if_neg h4, y13'] at hq
        exact cn_q (fun M h => h_transfer h) hq h9 hB hd
      · have et : trM s 3 = s 7 - s 0 := by unfold trM; rw [if_neg h4, if_pos rfl]
        rw [et] at h9
        have hq := x_transfer_w3 (sz := sz) (G := patch G 75 4 (mS F s)) (f := f) (T := TT)
        rw [s11', if_neg h4, y14', s8'] at hq
        exact cn_q (fun M h => h_transfer h) hq h9 hB hd
theorem o_lostWithout {sz : Nat} : ∀ x : Int32, OpX sz InvM I_L_lostWithout hh_L_lostWithout I_X3_lostWithout [.int x] := by
  intro x
  intro k M hk hI
  obtain ⟨G, f, F, s, n, B, hB, hd, hM⟩ := hI
  obtain ⟨M1, TT⟩ := M
  have hM : M1 = Wd G f F s := hM
  have hd : Dat G f F s TT.1 n B := hd
  subst hM
  obtain ⟨hS, hJ, h6⟩ := hd.sim
  show CnX k sz I_L_lostWithout hh_L_lostWithout I_X3_lostWithout [.int x] (Wd G f F s, TT)
  cases hx : inB x (nI 0) (nI 63) with
  | false => exact cn_ref (c := 1) (by omega) hB hd (h_lostWithout_1 (x_lostWithout_1 hx)) (a_lostWithout_1 hx)
  | true =>
    refine cn_q (fun M h => h_lostWithout h) (x_lostWithout hx) (fun G T => ?_) hB hd
    have h9 := a_lostWithout (sz := sz) (G := G) (T := T) (F := F) (s := s) hx
    rw [sim_only hS]
    exact h9
theorem o_isConnected {sz : Nat} : ∀ x : Int32, OpZ sz InvM I_L_isConnected hh_L_isConnected I_X3_isConnected [.int x] := by
  intro x
  intro k M hk hI
  obtain ⟨G, f, F, s, n, B, hB, hd, hM⟩ := hI
  obtain ⟨M1, TT⟩ := M
  have hM : M1 = Wd G f F s := hM
  have hd : Dat G f F s TT.1 n B := hd
  subst hM
  obtain ⟨hS, hJ, h6⟩ := hd.sim
  cases hx : isR x 6 with
  | false =>
    refine ⟨nI 1, nI 0, (Wd G f F s, TT), (patch (patch G 1 7 f) 75 4 (mS (put F 0 0 (nI 1)) s), TT), (patch (patch G 1 7 f) 75 4 (mS (put F 0 0 (nI 1)) s), TT), h_isConnected_1 (x_isConnected_1 hx), ?_, thr_c (put_e rfl rfl), fun e => absurd e (by decide), ⟨G, f, put F 0 0 (nI 1), s, n, B, by omega, hd.e0 1, Wd_p.symm⟩⟩
    rw [Wd_p]; exact a_isConnected_1 hx
  | true =>
    obtain ⟨ex, hh⟩ := isR_n hx (by decide)
    generalize ixN x = h at ex hh
    subst ex
    have ec := hS.c h (by omega)
    rw [decide_eq_true hh, Bool.true_and] at ec
    have h1 := h_isConnected (sz := sz) (x_isConnected (sz := sz) (G := patch G 75 4 (mS F s)) (f := f) (T := TT) hh)
    rw [ec] at h1
    refine ⟨nI 0, bi (decide (ofM s 0 h 1 = nI 1)), (Wd G f F s, (TT.1, (bif decide (ofM s 0 h 1 = nI 1) then 1 else 0))), (patch (patch G 1 7 f) 75 4 (mS (put F 0 0 (nI 0)) s), (TT.1, (bif decide (ofM s 0 h 1 = nI 1) then 1 else 0))), (patch (patch G 1 7 f) 75 4 (mS (put F 0 0 (nI 0)) s), (TT.1, (bif decide (ofM s 0 h 1 = nI 1) then 1 else 0))), h1, ?_, thr_c (put_e rfl rfl), fun _ => ?_, ⟨G, f, put F 0 0 (nI 0), s, n, B, by omega, hd.e0 0, Wd_p.symm⟩⟩
    · rw [Wd_p]; exact a_isConnected hh
    · show (bif decide (ofM s 0 h 1 = nI 1) then (1 : Int64) else 0) = _
      cases decide (ofM s 0 h 1 = nI 1) with
      | true => rw [if_neg (by decide)]; rfl
      | false => rw [if_pos (by decide)]; rfl
theorem o_completedTransfers {sz : Nat} : OpD sz InvM I_X2_completedTransfers I_X3_completedTransfers := by
  intro k M hk hI
  obtain ⟨G, f, F, s, n, B, hB, hd, hM⟩ := hI
  obtain ⟨M1, TT⟩ := M
  have hM : M1 = Wd G f F s := hM
  have hd : Dat G f F s TT.1 n B := hd
  subst hM
  obtain ⟨hS, hJ, h6⟩ := hd.sim
  have h9 := a_completedTransfers (sz := sz) (G := patch G 1 7 f) (T := TT) (F := F) (s := s)
  rw [← Wd_p] at h9
  have hq := x_completedTransfers (sz := sz) (G := patch G 75 4 (mS F s)) (f := f) (T := TT)
  rw [show f 0 10 = s 3 from hS.a.1.2.2.1] at hq
  exact ⟨_, _, _, hq, h9, ⟨G, f, put F 0 0 (nI 0), s, n, B, by omega, hd.e0 0, Wd_p.symm⟩⟩
theorem o_time {sz : Nat} : OpD sz InvM I_X2_time I_X3_time := by
  intro k M hk hI
  obtain ⟨G, f, F, s, n, B, hB, hd, hM⟩ := hI
  obtain ⟨M1, TT⟩ := M
  have hM : M1 = Wd G f F s := hM
  have hd : Dat G f F s TT.1 n B := hd
  subst hM
  obtain ⟨hS, hJ, h6⟩ := hd.sim
  have h9 := a_time (sz := sz) (G := patch G 1 7 f) (T := TT) (F := F) (s := s)
  rw [← Wd_p] at h9
  have hq := x_time (sz := sz) (G := patch G 75 4 (mS F s)) (f := f) (T := TT)
  rw [show f 0 8 = s 0 from hS.a.1.1] at hq
  exact ⟨_, _, _, hq, h9, ⟨G, f, put F 0 0 (nI 0), s, n, B, by omega, hd.e0 0, Wd_p.symm⟩⟩
theorem o_worstPair {sz : Nat} : OpD sz InvM I_X2_worstPair I_X3_worstPair := by
  intro k M hk hI
  obtain ⟨G, f, F, s, n, B, hB, hd, hM⟩ := hI
  obtain ⟨M1, TT⟩ := M
  have hM : M1 = Wd G f F s := hM
  have hd : Dat G f F s TT.1 n B := hd
  subst hM
  obtain ⟨hS, hJ, h6⟩ := hd.sim
  have h9 := a_worstPair (sz := sz) (G := patch G 1 7 f) (T := TT) (F := F) (s := s)
  rw [← Wd_p] at h9
  have hq := x_worstPair (sz := sz) (G := patch G 75 4 (mS F s)) (f := f) (T := TT)
  rw [sim_wp hS] at hq
  exact ⟨_, _, _, hq, h9, ⟨G, f, put F 0 0 (nI 0), s, n, B, by omega, hd.e0 0, Wd_p.symm⟩⟩
theorem o_savedStates {sz : Nat} : OpD sz InvM I_X2_savedStates I_X3_savedStates := by
  intro k M hk hI
  obtain ⟨G, f, F, s, n, B, hB, hd, hM⟩ := hI
  obtain ⟨M1, TT⟩ := M
  have hM : M1 = Wd G f F s := hM
  have hd : Dat G f F s TT.1 n B := hd
  subst hM
  obtain ⟨hS, hJ, h6⟩ := hd.sim
  have h9 := a_savedStates (sz := sz) (G := patch G 1 7 f) (T := TT) (F := F) (s := s)
  rw [← Wd_p] at h9
  have hq := x_savedStates (sz := sz) (G := patch G 75 4 (mS F s)) (f := f) (T := TT)
  rw [show patch G 75 4 (mS F s) 0 3 = F 0 2 from by rw [patch_out (by omega), hd.2.2.2.1, hd.2.2.2.2.1]] at hq
  exact ⟨_, _, _, hq, h9, ⟨G, f, put F 0 0 (nI 0), s, n, B, by omega, hd.e0 0, Wd_p.symm⟩⟩
theorem o_textLength {sz : Nat} : OpD sz InvM I_X2_textLength I_X3_textLength := by
  intro k M hk hI
  obtain ⟨G, f, F, s, n, B, hB, hd, hM⟩ := hI
  obtain ⟨M1, TT⟩ := M
  have hM : M1 = Wd G f F s := hM
  have hd : Dat G f F s TT.1 n B := hd
  subst hM
  obtain ⟨hS, hJ, h6⟩ := hd.sim
  have h9 := a_textLength (sz := sz) (G := patch G 1 7 f) (T := TT) (F := F) (s := s)
  rw [← Wd_p] at h9
  have hq := x_textLength (sz := sz) (G := patch G 75 4 (mS F s)) (f := f) (T := TT)
  rw [show patch G 75 4 (mS F s) 0 7 = F 0 5 from by obtain ⟨t, t1, t2, -⟩ := hd.2.2.2.2.2.2.2.2; rw [patch_out (by omega), t1, t2]] at hq
  exact ⟨_, _, _, hq, h9, ⟨G, f, put F 0 0 (nI 0), s, n, B, by omega, hd.e0 0, Wd_p.symm⟩⟩
