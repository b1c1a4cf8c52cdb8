/-- from the entry, for every script of at most 1536 ints, the law comes to its end with true -/
theorem whole_start {p : Program} {e : Env} {s : State} {m : MethodId} {below : List Frame} {meth : Method} {c : Code} (l : Launch) (hflags : l.flags = flags0) {b L : Nat} {xs : Nat → Int32} (hL : L ≤ 1536) (C0 : lw_At p s m meth c b L xs) : W p l e room_1 s m #[Value.ref b] below meth c s.heap [] 0 0 (lw_Z below #[Value.ref b] s) (entryFrame m ([Value.ref b] : List Value).toArray 7) := by
  obtain ⟨hx, hb, hr, hml, hown, hts, hX, hbl, hlocks, hgv⟩ := C0
  obtain ⟨D, cy, hE⟩ := law_EN hts hgv
  have hTW : ∀ w ∈ TW, w.before #[Value.ref b] s = true := fun w hw => hts w (List.mem_filter.mp hw).1
  have hov : (Cond.arrayOver (.object RX1)).before #[Value.ref b] s = true := hts _ (List.mem_of_getElem? (i := 155) (by decide +kernel))
  have hX9 : CtxN (VN p l e room_1 s m #[Value.ref b] below meth c D s.heap.size (lw_Z below #[Value.ref b] s) 7) D cy s.heap.size RL code room_1 7 false := ⟨p, l, e, s, m, _, below, meth, c, _, hx, hb, hml, hown, hTW, hE, hov, hflags, fun h => Bool.noConfusion h, rfl⟩
  have hC9 : CtxL (V p l e room_1 s m #[Value.ref b] below meth c D cy s.heap.size (lw_Z below #[Value.ref b] s) 7) s.heap.size b L xs := ⟨p, l, e, s, m, below, meth, c, D, cy, hx, hb, hml, hown, hTW, hE, hflags, rfl, hX, hbl, rfl, hr, hlocks⟩
  have K : VN p l e room_1 s m #[Value.ref b] below meth c D s.heap.size (lw_Z below #[Value.ref b] s) 7 0 0 0 [(0, .ref b)] [] (wL s.heap.size cy) 0 := by
    refine law_init hX9 ?_
    intro H locs ls hl hc hP hz hS
    exact law_loop hC9 hL (fun k M => inv_mo) inv_0 o_store o_write o_read o_remove o_lend o_recall o_disconnect o_reconnect o_crash o_pass o_setTransferTime o_appendText o_clearText o_errorPosition o_runText o_undo o_save o_restore o_status o_copies o_countStatus o_mode o_isConnected o_usedRoom o_freeRoom o_deadlineIn o_replica o_transfer o_completedTransfers o_time o_lostWithout o_worstPair o_lostIn o_restsIn o_savedStates o_textLength (c0 := 80) (s0 := 3664) (by decide) (by decide) H locs ls hl hc (wL_wl hP) hS
  rw [lg_entry_eq]
  have hl := lv_entry ([.ref b]) (n := 7) (Nat.le_of_ble_eq_true rfl)
  exact K s.heap [] _ hl ⟨rfl, (by simp), trivial⟩ (fun k q h => absurd (wlN_get' h).1 (Nat.not_lt_zero k)) rfl va_S.rf
