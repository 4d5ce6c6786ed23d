/-! request of a node that is off, or whose row is full. -/
set_option maxHeartbeats 4000000 in
set_option maxRecDepth 100000 in
theorem t_request_s (l : Launch) (D : va_G) (cI cZ cN cJ : ClassId) (lo : Nat) (htr : l.stackTraces = false) (x n : Nat) (N : Nat → Nat → Int32) (R : Nat → Nat → Nat → Int32) (lev tot : Nat → Int32) (j : Nat) (hn : n ≤ 4) (hj : j < n) (a b d : Int32) (hq : rq a b d) (hb : N j 0 = 7 ∨ N j 13 = nI 4) : hq_T l y_X_request b_X_request 6 (some (.int)) TB { frames := 7, cells := 1, slots := 6, locals := 130 } D vwCl (TY cI cZ cN cJ) [.ref (x), .int (nI j), .int (a), .int (b), .int (d)] (fun U => hq_E lo U ∧ busP D cI cZ cN x n N R lev tot U.heap) "java/lang/IllegalStateException" := by
  refine hq_ofT (by decide) (Nat.le_of_ble_eq_true rfl) ?_
  intro p e s m below meth c ls C hml hlk hout hl hP
  obtain ⟨hE, kB, kN⟩ := hP
  have hl : lv_has ls 6 [(0, .ref (x)), (1, .int (nI j)), (2, .int (a)), (3, .int (b)), (4, .int (d))] := hl
  have hL : hq_L s.heap.size [] := hq_L0
  have k0 : va_at D vwCl (x, .inr (5, [.ref (x + 3), .ref (x + 1), .ref (x + 2)])) s.heap := kB 0 (by decide)
  refine lv_aload_n C.1 C.2.1 d_X_request_0 rfl (lv_at hl 0 rfl) ?_
  refine lv_iload_n C.1 C.2.1 d_X_request_1 rfl (lv_at hl 1 rfl) ?_
  refine hq_callV (lo := s.heap.size) (As := [.int (nI j)]) (rest := []) C tb_good hml Y_X_32 (c_nodeOf l D cI cZ cN cJ s.heap.size x n j N R lev tot hn hj) k0 rfl (fun _ _ _ _ h => h) (fun U hU hW => by show busP D cI cZ cN x n N R lev tot U.heap; rw [hU]; exact ⟨kB, kN⟩) hL hl.1 rfl rfl ⟨⟨Nat.le_of_ble_eq_true rfl, Nat.le_of_ble_eq_true rfl⟩, Nat.le_of_ble_eq_true rfl, Nat.le_of_ble_eq_true rfl⟩ (Nat.le_of_ble_eq_true rfl) d_X_request_2 (fun v H41 locs hp hL => ?_)
  obtain ⟨rfl, rfl⟩ := hp
  refine va_forget hL ?_
  have hL : hq_L s.heap.size [] := hq_L0
  refine W.eq (g2 := F0 m 5 ls [.ref (x + 4 + 10 * j)]) rfl ?_
  obtain ⟨q1, q2, q3, q4, q5⟩ := hq
  have m0 : va_at D vwCl (x + 4 + 10 * j, .inr (3, [.ref (x + 4 + 10 * j + 1), .ref (x + 4 + 10 * j + 3), .ref (x + 4 + 10 * j + 5), .ref (x + 4 + 10 * j + 7), .ref (x + 4 + 10 * j + 9), .int (N j 0), .int (N j 1), .int (N j 2), .int (N j 3), .int (N j 4), .int (N j 5), .int (N j 6), .int (N j 7), .int (N j 8), .int (N j 9), .int (N j 10), .int (N j 11), .int (N j 12)])) s.heap := kN j hj 0 (by decide)
  have m1 : va_at D vwCl (x + 4 + 10 * j + 1, .inr (2, [.ref (x + 4 + 10 * j + 2), .int (N j 13)])) s.heap := kN j hj 1 (by decide)
  refine lv_astore C.1 C.2.1 d_X_request_5 hl (by decide) rfl (lv' := [(5, .ref (x + 4 + 10 * j)), (0, .ref (x)), (1, .int (nI j)), (2, .int (a)), (3, .int (b)), (4, .int (d))]) (fun ls hl => ?_)
  refine lv_iload_n C.1 C.2.1 d_X_request_7 rfl (lv_at hl 3 rfl) ?_
  refine hq_callS (lo := s.heap.size) (As := [.int (a)]) (rest := []) C tb_good hml Y_X_36 (c_isEleven l D cI cZ cN cJ s.heap.size a) (fun _ _ _ _ h => h) (fun U hU hW => trivial) hL hl.1 rfl rfl ⟨⟨Nat.le_of_ble_eq_true rfl, Nat.le_of_ble_eq_true rfl⟩, Nat.le_of_ble_eq_true rfl, Nat.le_of_ble_eq_true rfl⟩ (Nat.le_of_ble_eq_true rfl) d_X_request_8 (fun v H42 locs hp hL => ?_)
  obtain ⟨rfl, rfl⟩ := hp
  refine va_forget hL ?_
  have hL : hq_L s.heap.size [] := hq_L0
  refine W.eq (g2 := F0 m 11 ls [.int (el a)]) rfl ?_
  refine lv_if_eq (tgt := 39) C.1 C.2.1 d_X_request_11 (by decide) (fun hn => absurd hn (q1)) (fun _ => ?_)
  refine lv_iload_n C.1 C.2.1 d_X_request_14 rfl (lv_at hl 4 rfl) ?_
  refine lv_if_lt (tgt := 39) C.1 C.2.1 d_X_request_15 (by decide) (fun hn => absurd hn (q2)) (fun _ => ?_)
  refine lv_iload_n C.1 C.2.1 d_X_request_18 rfl (lv_at hl 4 rfl) ?_
  refine lv_iconst (v := 2) C.1 C.2.1 d_X_request_19 (by decide) ?_
  refine lv_icmp_gt (tgt := 39) C.1 C.2.1 d_X_request_20 (by decide) (fun hn => absurd hn (q3)) (fun _ => ?_)
  refine lv_iload C.1 C.2.1 d_X_request_23 (lv_at hl 5 rfl) ?_
  refine lv_if_lt (tgt := 39) C.1 C.2.1 d_X_request_25 (by decide) (fun hn => absurd hn (q4)) (fun _ => ?_)
  refine lv_iload C.1 C.2.1 d_X_request_28 (lv_at hl 5 rfl) ?_
  refine lv_iconst (v := 1) C.1 C.2.1 d_X_request_30 (by decide) ?_
  refine lv_bipush (v := 8) C.1 C.2.1 d_X_request_31 (by decide) ?_
  refine lv_iload_n C.1 C.2.1 d_X_request_33 rfl (lv_at hl 4 rfl) ?_
  refine lv_imul C.1 C.2.1 d_X_request_34 ?_
  refine lv_ishl C.1 C.2.1 d_X_request_35 ?_
  refine lv_icmp_lt (tgt := 49) C.1 C.2.1 d_X_request_36 (by decide) (fun _ => ?_) (fun hn => absurd (q5) hn)
  refine lv_aload C.1 C.2.1 d_X_request_49 (lv_at hl 0 rfl) ?_
  refine hq_get (v := .int (N j 0)) C f_X_47 m0 rfl d_X_request_51 ?_
  refine lv_bipush (v := 7) C.1 C.2.1 d_X_request_54 (by decide) ?_
  refine lv_icmp_eq (tgt := 70) C.1 C.2.1 d_X_request_56 (by decide) ?_ ?_
  · intro c0
    exact hq_throw C htr hE ex_wS ex_goodS ex_badS (by decide +kernel) (is := 63) (tx := "the node is off, or 4 frames wait") (by decide +kernel) (hml.trans hl.1.symm) d_X_request_70 d_X_request_73 d_X_request_74 d_X_request_76 d_X_request_79 hout hlk (Nat.le_of_ble_eq_true rfl) (Nat.le_of_ble_eq_true rfl) (Nat.le_of_ble_eq_true rfl) (Nat.le_of_ble_eq_true rfl) (Nat.le_of_ble_eq_true rfl) (Nat.le_of_ble_eq_true rfl)
  · intro c0
    refine lv_aload C.1 C.2.1 d_X_request_59 (lv_at hl 0 rfl) ?_
    refine hq_get (v := .ref (x + 4 + 10 * j + 1)) C f_X_51 m0 rfl d_X_request_61 ?_
    have hfl : fl (N j 13) = 1 := by rw [hb.resolve_left c0]; decide
    refine hq_callV (lo := s.heap.size) (As := []) (rest := []) C tb_good hml Y_X_55 (c_isFull l D cI cZ cN cJ s.heap.size (x + 4 + 10 * j + 1) (x + 4 + 10 * j + 1 + 1) (N j 13)) m1 rfl (fun _ _ _ _ h => h) (fun U hU hW => by show va_at D vwCl (x + 4 + 10 * j + 1, .inr (2, [.ref (x + 4 + 10 * j + 1 + 1), .int (N j 13)])) U.heap; rw [hU]; exact m1) hL hl.1 rfl rfl ⟨⟨Nat.le_of_ble_eq_true rfl, Nat.le_of_ble_eq_true rfl⟩, Nat.le_of_ble_eq_true rfl, Nat.le_of_ble_eq_true rfl⟩ (Nat.le_of_ble_eq_true rfl) d_X_request_64 (fun v H43 locs hp hL => ?_)
    obtain ⟨rfl, rfl⟩ := hp
    refine va_forget hL ?_
    have hL : hq_L s.heap.size [] := hq_L0
    refine W.eq (g2 := F0 m 67 ls [.int (fl (N j 13))]) rfl ?_
    refine lv_if_eq (tgt := 80) C.1 C.2.1 d_X_request_67 (by decide) (fun hn => absurd hn (fun h9 => absurd (hfl.symm.trans h9) (by decide))) (fun _ => ?_)
    exact hq_throw C htr hE ex_wS ex_goodS ex_badS (by decide +kernel) (is := 63) (tx := "the node is off, or 4 frames wait") (by decide +kernel) (hml.trans hl.1.symm) d_X_request_70 d_X_request_73 d_X_request_74 d_X_request_76 d_X_request_79 hout hlk (Nat.le_of_ble_eq_true rfl) (Nat.le_of_ble_eq_true rfl) (Nat.le_of_ble_eq_true rfl) (Nat.le_of_ble_eq_true rfl) (Nat.le_of_ble_eq_true rfl) (Nat.le_of_ble_eq_true rfl)
