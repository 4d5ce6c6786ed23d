/-! The class's public methods on a bus: where they throw, and where they answer. -/
set_option maxHeartbeats 4000000 in
set_option maxRecDepth 100000 in
theorem t_request_n (l : Launch) (D : va_G) (cI cZ cN cJ : ClassId) (lo : Nat) (htr : l.stackTraces = false) (x n : Nat) (N : Nat → Nat → Int32) (R : Nat → Nat → Nat → Int32) (lev tot : Nat → Int32) (v a b d : Int32) (hb : v < 0 ∨ ¬ v < nI n) : hq_T l y_X_request b_X_request 6 (some (.int)) TB { frames := 7, cells := 1, slots := 6, locals := 130 } D vwCl (TY cI cZ cN cJ) [.ref (x), .int (v), .int (a), .int (b), .int (d)] (fun U => hq_E lo U ∧ busP D cI cZ cN x n N R lev tot U.heap) "java/lang/IllegalArgumentException" := by
  refine hq_ofT (by decide) (Nat.le_of_ble_eq_true rfl) ?_
  intro p e s m below meth c ls C hml hlk hout hl hP
  obtain ⟨hE, kB, kN⟩ := hP
  have hl : lv_has ls 6 [(0, .ref (x)), (1, .int (v)), (2, .int (a)), (3, .int (b)), (4, .int (d))] := hl
  have k0 : va_at D vwCl (x, .inr (5, [.ref (x + 3), .ref (x + 1), .ref (x + 2)])) s.heap := kB 0 (by decide)
  refine lv_aload_n C.1 C.2.1 d_X_request_0 rfl (lv_at hl 0 rfl) ?_
  refine lv_iload_n C.1 C.2.1 d_X_request_1 rfl (lv_at hl 1 rfl) ?_
  refine hq_tcallV (As := [.int (v)]) (rest := []) C tb_good hml Y_X_32 (t_nodeOf l D cI cZ cN cJ lo htr x n N R lev tot v hb) k0 rfl (fun _ _ _ _ h => ⟨hq_E.call h.1, h.2⟩) (fun U hU hW => ⟨hE.move hW (by rw [hU]; exact hq_O0), by show busP D cI cZ cN x n N R lev tot U.heap; rw [hU]; exact ⟨kB, kN⟩⟩) hl.1 rfl rfl ⟨⟨Nat.le_of_ble_eq_true rfl, Nat.le_of_ble_eq_true rfl⟩, Nat.le_of_ble_eq_true rfl, Nat.le_of_ble_eq_true rfl⟩ (Nat.le_of_ble_eq_true rfl) d_X_request_2 (fun q9 ce9 H9 hO9 hz9 hce9 hcv9 hcl9 => ?_)
  exact hq_tout (fun x9 h9 => hout x9 h9 _) hlk hce9 hcv9 hcl9 (Nat.le_of_ble_eq_true rfl) (Nat.le_of_ble_eq_true rfl)
set_option maxHeartbeats 4000000 in
set_option maxRecDepth 100000 in
theorem t_filter_n (l : Launch) (D : va_G) (cI cZ cN cJ : ClassId) (lo : Nat) (htr : l.stackTraces = false) (x n : Nat) (N : Nat → Nat → Int32) (R : Nat → Nat → Nat → Int32) (lev tot : Nat → Int32) (v a b : Int32) (hb : v < 0 ∨ ¬ v < nI n) : hq_T l y_X_filter b_X_filter 5 none TB { frames := 7, cells := 1, slots := 6, locals := 130 } D vwCl (TY cI cZ cN cJ) [.ref (x), .int (v), .int (a), .int (b)] (fun U => hq_E lo U ∧ busP D cI cZ cN x n N R lev tot U.heap) "java/lang/IllegalArgumentException" := by
  refine hq_ofT (by decide) (Nat.le_of_ble_eq_true rfl) ?_
  intro p e s m below meth c ls C hml hlk hout hl hP
  obtain ⟨hE, kB, kN⟩ := hP
  have hl : lv_has ls 5 [(0, .ref (x)), (1, .int (v)), (2, .int (a)), (3, .int (b))] := hl
  have k0 : va_at D vwCl (x, .inr (5, [.ref (x + 3), .ref (x + 1), .ref (x + 2)])) s.heap := kB 0 (by decide)
  refine lv_aload_n C.1 C.2.1 d_X_filter_0 rfl (lv_at hl 0 rfl) ?_
  refine lv_iload_n C.1 C.2.1 d_X_filter_1 rfl (lv_at hl 1 rfl) ?_
  refine hq_tcallV (As := [.int (v)]) (rest := []) C tb_good hml Y_X_32 (t_nodeOf l D cI cZ cN cJ lo htr x n N R lev tot v hb) k0 rfl (fun _ _ _ _ h => ⟨hq_E.call h.1, h.2⟩) (fun U hU hW => ⟨hE.move hW (by rw [hU]; exact hq_O0), by show busP D cI cZ cN x n N R lev tot U.heap; rw [hU]; exact ⟨kB, kN⟩⟩) hl.1 rfl rfl ⟨⟨Nat.le_of_ble_eq_true rfl, Nat.le_of_ble_eq_true rfl⟩, Nat.le_of_ble_eq_true rfl, Nat.le_of_ble_eq_true rfl⟩ (Nat.le_of_ble_eq_true rfl) d_X_filter_2 (fun q9 ce9 H9 hO9 hz9 hce9 hcv9 hcl9 => ?_)
  exact hq_tout (fun x9 h9 => hout x9 h9 _) hlk hce9 hcv9 hcl9 (Nat.le_of_ble_eq_true rfl) (Nat.le_of_ble_eq_true rfl)
set_option maxHeartbeats 4000000 in
set_option maxRecDepth 100000 in
theorem t_disturb_n (l : Launch) (D : va_G) (cI cZ cN cJ : ClassId) (lo : Nat) (htr : l.stackTraces = false) (x n : Nat) (N : Nat → Nat → Int32) (R : Nat → Nat → Nat → Int32) (lev tot : Nat → Int32) (v a : Int32) (hb : v < 0 ∨ ¬ v < nI n) : hq_T l y_X_disturb b_X_disturb 4 none TB { frames := 7, cells := 1, slots := 6, locals := 130 } D vwCl (TY cI cZ cN cJ) [.ref (x), .int (v), .int (a)] (fun U => hq_E lo U ∧ busP D cI cZ cN x n N R lev tot U.heap) "java/lang/IllegalArgumentException" := by
  refine hq_ofT (by decide) (Nat.le_of_ble_eq_true rfl) ?_
  intro p e s m below meth c ls C hml hlk hout hl hP
  obtain ⟨hE, kB, kN⟩ := hP
  have hl : lv_has ls 4 [(0, .ref (x)), (1, .int (v)), (2, .int (a))] := hl
  have k0 : va_at D vwCl (x, .inr (5, [.ref (x + 3), .ref (x + 1), .ref (x + 2)])) s.heap := kB 0 (by decide)
  refine lv_aload_n C.1 C.2.1 d_X_disturb_0 rfl (lv_at hl 0 rfl) ?_
  refine lv_iload_n C.1 C.2.1 d_X_disturb_1 rfl (lv_at hl 1 rfl) ?_
  refine hq_tcallV (As := [.int (v)]) (rest := []) C tb_good hml Y_X_32 (t_nodeOf l D cI cZ cN cJ lo htr x n N R lev tot v hb) k0 rfl (fun _ _ _ _ h => ⟨hq_E.call h.1, h.2⟩) (fun U hU hW => ⟨hE.move hW (by rw [hU]; exact hq_O0), by show busP D cI cZ cN x n N R lev tot U.heap; rw [hU]; exact ⟨kB, kN⟩⟩) hl.1 rfl rfl ⟨⟨Nat.le_of_ble_eq_true rfl, Nat.le_of_ble_eq_true rfl⟩, Nat.le_of_ble_eq_true rfl, Nat.le_of_ble_eq_true rfl⟩ (Nat.le_of_ble_eq_true rfl) d_X_disturb_2 (fun q9 ce9 H9 hO9 hz9 hce9 hcv9 hcl9 => ?_)
  exact hq_tout (fun x9 h9 => hout x9 h9 _) hlk hce9 hcv9 hcl9 (Nat.le_of_ble_eq_true rfl) (Nat.le_of_ble_eq_true rfl)
set_option maxHeartbeats 4000000 in
set_option maxRecDepth 100000 in
theorem t_state_n (l : Launch) (D : va_G) (cI cZ cN cJ : ClassId) (lo : Nat) (htr : l.stackTraces = false) (x n : Nat) (N : Nat → Nat → Int32) (R : Nat → Nat → Nat → Int32) (lev tot : Nat → Int32) (v : Int32) (hb : v < 0 ∨ ¬ v < nI n) : hq_T l y_X_state b_X_state 2 (some (.int)) TB { frames := 7, cells := 1, slots := 6, locals := 130 } D vwCl (TY cI cZ cN cJ) [.ref (x), .int (v)] (fun U => hq_E lo U ∧ busP D cI cZ cN x n N R lev tot U.heap) "java/lang/IllegalArgumentException" := by
  refine hq_ofT (by decide) (Nat.le_of_ble_eq_true rfl) ?_
  intro p e s m below meth c ls C hml hlk hout hl hP
  obtain ⟨hE, kB, kN⟩ := hP
  have hl : lv_has ls 2 [(0, .ref (x)), (1, .int (v))] := hl
  have k0 : va_at D vwCl (x, .inr (5, [.ref (x + 3), .ref (x + 1), .ref (x + 2)])) s.heap := kB 0 (by decide)
  refine lv_aload_n C.1 C.2.1 d_X_state_0 rfl (lv_at hl 0 rfl) ?_
  refine lv_iload_n C.1 C.2.1 d_X_state_1 rfl (lv_at hl 1 rfl) ?_
  refine hq_tcallV (As := [.int (v)]) (rest := []) C tb_good hml Y_X_32 (t_nodeOf l D cI cZ cN cJ lo htr x n N R lev tot v hb) k0 rfl (fun _ _ _ _ h => ⟨hq_E.call h.1, h.2⟩) (fun U hU hW => ⟨hE.move hW (by rw [hU]; exact hq_O0), by show busP D cI cZ cN x n N R lev tot U.heap; rw [hU]; exact ⟨kB, kN⟩⟩) hl.1 rfl rfl ⟨⟨Nat.le_of_ble_eq_true rfl, Nat.le_of_ble_eq_true rfl⟩, Nat.le_of_ble_eq_true rfl, Nat.le_of_ble_eq_true rfl⟩ (Nat.le_of_ble_eq_true rfl) d_X_state_2 (fun q9 ce9 H9 hO9 hz9 hce9 hcv9 hcl9 => ?_)
  exact hq_tout (fun x9 h9 => hout x9 h9 _) hlk hce9 hcv9 hcl9 (Nat.le_of_ble_eq_true rfl) (Nat.le_of_ble_eq_true rfl)
set_option maxHeartbeats 4000000 in
set_option maxRecDepth 100000 in
theorem t_count_n (l : Launch) (D : va_G) (cI cZ cN cJ : ClassId) (lo : Nat) (htr : l.stackTraces = false) (x n : Nat) (N : Nat → Nat → Int32) (R : Nat → Nat → Nat → Int32) (lev tot : Nat → Int32) (v a : Int32) (hb : v < 0 ∨ ¬ v < nI n) : hq_T l y_X_count b_X_count 4 (some (.int)) TB { frames := 7, cells := 1, slots := 6, locals := 130 } D vwCl (TY cI cZ cN cJ) [.ref (x), .int (v), .int (a)] (fun U => hq_E lo U ∧ busP D cI cZ cN x n N R lev tot U.heap) "java/lang/IllegalArgumentException" := by
  refine hq_ofT (by decide) (Nat.le_of_ble_eq_true rfl) ?_
  intro p e s m below meth c ls C hml hlk hout hl hP
  obtain ⟨hE, kB, kN⟩ := hP
  have hl : lv_has ls 4 [(0, .ref (x)), (1, .int (v)), (2, .int (a))] := hl
  have k0 : va_at D vwCl (x, .inr (5, [.ref (x + 3), .ref (x + 1), .ref (x + 2)])) s.heap := kB 0 (by decide)
  refine lv_aload_n C.1 C.2.1 d_X_count_0 rfl (lv_at hl 0 rfl) ?_
  refine lv_iload_n C.1 C.2.1 d_X_count_1 rfl (lv_at hl 1 rfl) ?_
  refine hq_tcallV (As := [.int (v)]) (rest := []) C tb_good hml Y_X_32 (t_nodeOf l D cI cZ cN cJ lo htr x n N R lev tot v hb) k0 rfl (fun _ _ _ _ h => ⟨hq_E.call h.1, h.2⟩) (fun U hU hW => ⟨hE.move hW (by rw [hU]; exact hq_O0), by show busP D cI cZ cN x n N R lev tot U.heap; rw [hU]; exact ⟨kB, kN⟩⟩) hl.1 rfl rfl ⟨⟨Nat.le_of_ble_eq_true rfl, Nat.le_of_ble_eq_true rfl⟩, Nat.le_of_ble_eq_true rfl, Nat.le_of_ble_eq_true rfl⟩ (Nat.le_of_ble_eq_true rfl) d_X_count_2 (fun q9 ce9 H9 hO9 hz9 hce9 hcv9 hcl9 => ?_)
  exact hq_tout (fun x9 h9 => hout x9 h9 _) hlk hce9 hcv9 hcl9 (Nat.le_of_ble_eq_true rfl) (Nat.le_of_ble_eq_true rfl)
set_option maxHeartbeats 4000000 in
set_option maxRecDepth 100000 in
theorem t_take_n (l : Launch) (D : va_G) (cI cZ cN cJ : ClassId) (lo : Nat) (htr : l.stackTraces = false) (x n : Nat) (N : Nat → Nat → Int32) (R : Nat → Nat → Nat → Int32) (lev tot : Nat → Int32) (v : Int32) (hb : v < 0 ∨ ¬ v < nI n) : hq_T l y_X_take b_X_take 3 (some (.int)) TB { frames := 7, cells := 1, slots := 6, locals := 130 } D vwCl (TY cI cZ cN cJ) [.ref (x), .int (v)] (fun U => hq_E lo U ∧ busP D cI cZ cN x n N R lev tot U.heap) "java/lang/IllegalArgumentException" := by
  refine hq_ofT (by decide) (Nat.le_of_ble_eq_true rfl) ?_
  intro p e s m below meth c ls C hml hlk hout hl hP
  obtain ⟨hE, kB, kN⟩ := hP
  have hl : lv_has ls 3 [(0, .ref (x)), (1, .int (v))] := hl
  have k0 : va_at D vwCl (x, .inr (5, [.ref (x + 3), .ref (x + 1), .ref (x + 2)])) s.heap := kB 0 (by decide)
  refine lv_aload_n C.1 C.2.1 d_X_take_0 rfl (lv_at hl 0 rfl) ?_
  refine lv_iload_n C.1 C.2.1 d_X_take_1 rfl (lv_at hl 1 rfl) ?_
  refine hq_tcallV (As := [.int (v)]) (rest := []) C tb_good hml Y_X_32 (t_nodeOf l D cI cZ cN cJ lo htr x n N R lev tot v hb) k0 rfl (fun _ _ _ _ h => ⟨hq_E.call h.1, h.2⟩) (fun U hU hW => ⟨hE.move hW (by rw [hU]; exact hq_O0), by show busP D cI cZ cN x n N R lev tot U.heap; rw [hU]; exact ⟨kB, kN⟩⟩) hl.1 rfl rfl ⟨⟨Nat.le_of_ble_eq_true rfl, Nat.le_of_ble_eq_true rfl⟩, Nat.le_of_ble_eq_true rfl, Nat.le_of_ble_eq_true rfl⟩ (Nat.le_of_ble_eq_true rfl) d_X_take_2 (fun q9 ce9 H9 hO9 hz9 hce9 hcv9 hcl9 => ?_)
  exact hq_tout (fun x9 h9 => hout x9 h9 _) hlk hce9 hcv9 hcl9 (Nat.le_of_ble_eq_true rfl) (Nat.le_of_ble_eq_true rfl)
/-- a frame that may be asked for -/
def rq (a b d : Int32) : Prop := ¬ el a = 0 ∧ ¬ b < 0 ∧ ¬ (2 : Int32) < b ∧ ¬ d < 0 ∧ d < (1 : Int32) <<< ((8 * b) &&& 31)
set_option maxHeartbeats 4000000 in
set_option maxRecDepth 100000 in
theorem t_request_f (l : Launch) (D : va_G) (cI cZ cN cJ : ClassId) (lo : Nat) (htr : l.stackTraces = false) (x n : Nat) (N : Nat → Nat → Int32) (R : Nat → Nat → Nat → Int32) (lev tot : Nat → Int32) (j : Nat) (hn : n ≤ 4) (hj : j < n) (a b d : Int32) (hb : ¬ rq a b d) : hq_T l y_X_request b_X_request 6 (some (.int)) TB { frames := 7, cells := 1, slots := 6, locals := 130 } D vwCl (TY cI cZ cN cJ) [.ref (x), .int (nI j), .int (a), .int (b), .int (d)] (fun U => hq_E lo U ∧ busP D cI cZ cN x n N R lev tot U.heap) "java/lang/IllegalArgumentException" := by
  refine hq_ofT (by decide) (Nat.le_of_ble_eq_true rfl) ?_
  intro p e s m below meth c ls C hml hlk hout hl hP
  obtain ⟨hE, kB, kN⟩ := hP
  have hl : lv_has ls 6 [(0, .ref (x)), (1, .int (nI j)), (2, .int (a)), (3, .int (b)), (4, .int (d))] := hl
  have hL : hq_L s.heap.size [] := hq_L0
  have k0 : va_at D vwCl (x, .inr (5, [.ref (x + 3), .ref (x + 1), .ref (x + 2)])) s.heap := kB 0 (by decide)
  refine lv_aload_n C.1 C.2.1 d_X_request_0 rfl (lv_at hl 0 rfl) ?_
  refine lv_iload_n C.1 C.2.1 d_X_request_1 rfl (lv_at hl 1 rfl) ?_
  refine hq_callV (lo := s.heap.size) (As := [.int (nI j)]) (rest := []) C tb_good hml Y_X_32 (c_nodeOf l D cI cZ cN cJ s.heap.size x n j N R lev tot hn hj) k0 rfl (fun _ _ _ _ h => h) (fun U hU hW => by show busP D cI cZ cN x n N R lev tot U.heap; rw [hU]; exact ⟨kB, kN⟩) hL hl.1 rfl rfl ⟨⟨Nat.le_of_ble_eq_true rfl, Nat.le_of_ble_eq_true rfl⟩, Nat.le_of_ble_eq_true rfl, Nat.le_of_ble_eq_true rfl⟩ (Nat.le_of_ble_eq_true rfl) d_X_request_2 (fun v H41 locs hp hL => ?_)
  obtain ⟨rfl, rfl⟩ := hp
  refine va_forget hL ?_
  have hL : hq_L s.heap.size [] := hq_L0
  refine W.eq (g2 := F0 m 5 ls [.ref (x + 4 + 10 * j)]) rfl ?_
  refine lv_astore C.1 C.2.1 d_X_request_5 hl (by decide) rfl (lv' := [(5, .ref (x + 4 + 10 * j)), (0, .ref (x)), (1, .int (nI j)), (2, .int (a)), (3, .int (b)), (4, .int (d))]) (fun ls hl => ?_)
  refine lv_iload_n C.1 C.2.1 d_X_request_7 rfl (lv_at hl 3 rfl) ?_
  refine hq_callS (lo := s.heap.size) (As := [.int (a)]) (rest := []) C tb_good hml Y_X_36 (c_isEleven l D cI cZ cN cJ s.heap.size a) (fun _ _ _ _ h => h) (fun U hU hW => trivial) hL hl.1 rfl rfl ⟨⟨Nat.le_of_ble_eq_true rfl, Nat.le_of_ble_eq_true rfl⟩, Nat.le_of_ble_eq_true rfl, Nat.le_of_ble_eq_true rfl⟩ (Nat.le_of_ble_eq_true rfl) d_X_request_8 (fun v H42 locs hp hL => ?_)
  obtain ⟨rfl, rfl⟩ := hp
  refine va_forget hL ?_
  have hL : hq_L s.heap.size [] := hq_L0
  refine W.eq (g2 := F0 m 11 ls [.int (el a)]) rfl ?_
  refine lv_if_eq (tgt := 39) C.1 C.2.1 d_X_request_11 (by decide) ?_ ?_
  · intro c0
    exact hq_throw C htr hE ex_wA ex_goodA ex_badA (by decide +kernel) (is := 42) (tx := "no such frame") (by decide +kernel) (hml.trans hl.1.symm) d_X_request_39 d_X_request_42 d_X_request_43 d_X_request_45 d_X_request_48 hout hlk (Nat.le_of_ble_eq_true rfl) (Nat.le_of_ble_eq_true rfl) (Nat.le_of_ble_eq_true rfl) (Nat.le_of_ble_eq_true rfl) (Nat.le_of_ble_eq_true rfl) (Nat.le_of_ble_eq_true rfl)
  · intro c0
    refine lv_iload_n C.1 C.2.1 d_X_request_14 rfl (lv_at hl 4 rfl) ?_
    refine lv_if_lt (tgt := 39) C.1 C.2.1 d_X_request_15 (by decide) ?_ ?_
    · intro c1
      exact hq_throw C htr hE ex_wA ex_goodA ex_badA (by decide +kernel) (is := 42) (tx := "no such frame") (by decide +kernel) (hml.trans hl.1.symm) d_X_request_39 d_X_request_42 d_X_request_43 d_X_request_45 d_X_request_48 hout hlk (Nat.le_of_ble_eq_true rfl) (Nat.le_of_ble_eq_true rfl) (Nat.le_of_ble_eq_true rfl) (Nat.le_of_ble_eq_true rfl) (Nat.le_of_ble_eq_true rfl) (Nat.le_of_ble_eq_true rfl)
    · intro c1
      refine lv_iload_n C.1 C.2.1 d_X_request_18 rfl (lv_at hl 4 rfl) ?_
      refine lv_iconst (v := 2) C.1 C.2.1 d_X_request_19 (by decide) ?_
      refine lv_icmp_gt (tgt := 39) C.1 C.2.1 d_X_request_20 (by decide) ?_ ?_
      · intro c2
        exact hq_throw C htr hE ex_wA ex_goodA ex_badA (by decide +kernel) (is := 42) (tx := "no such frame") (by decide +kernel) (hml.trans hl.1.symm) d_X_request_39 d_X_request_42 d_X_request_43 d_X_request_45 d_X_request_48 hout hlk (Nat.le_of_ble_eq_true rfl) (Nat.le_of_ble_eq_true rfl) (Nat.le_of_ble_eq_true rfl) (Nat.le_of_ble_eq_true rfl) (Nat.le_of_ble_eq_true rfl) (Nat.le_of_ble_eq_true rfl)
      · intro c2
        refine lv_iload C.1 C.2.1 d_X_request_23 (lv_at hl 5 rfl) ?_
        refine lv_if_lt (tgt := 39) C.1 C.2.1 d_X_request_25 (by decide) ?_ ?_
        · intro c3
          exact hq_throw C htr hE ex_wA ex_goodA ex_badA (by decide +kernel) (is := 42) (tx := "no such frame") (by decide +kernel) (hml.trans hl.1.symm) d_X_request_39 d_X_request_42 d_X_request_43 d_X_request_45 d_X_request_48 hout hlk (Nat.le_of_ble_eq_true rfl) (Nat.le_of_ble_eq_true rfl) (Nat.le_of_ble_eq_true rfl) (Nat.le_of_ble_eq_true rfl) (Nat.le_of_ble_eq_true rfl) (Nat.le_of_ble_eq_true rfl)
        · intro c3
          refine lv_iload C.1 C.2.1 d_X_request_28 (lv_at hl 5 rfl) ?_
          refine lv_iconst (v := 1) C.1 C.2.1 d_X_request_30 (by decide) ?_
          refine lv_bipush (v := 8) C.1 C.2.1 d_X_request_31 (by decide) ?_
          refine lv_iload_n C.1 C.2.1 d_X_request_33 rfl (lv_at hl 4 rfl) ?_
          refine lv_imul C.1 C.2.1 d_X_request_34 ?_
          refine lv_ishl C.1 C.2.1 d_X_request_35 ?_
          refine lv_icmp_lt (tgt := 49) C.1 C.2.1 d_X_request_36 (by decide) ?_ ?_
          · intro c4
            exact absurd ⟨c0, c1, c2, c3, c4⟩ hb
          · intro c4
            exact hq_throw C htr hE ex_wA ex_goodA ex_badA (by decide +kernel) (is := 42) (tx := "no such frame") (by decide +kernel) (hml.trans hl.1.symm) d_X_request_39 d_X_request_42 d_X_request_43 d_X_request_45 d_X_request_48 hout hlk (Nat.le_of_ble_eq_true rfl) (Nat.le_of_ble_eq_true rfl) (Nat.le_of_ble_eq_true rfl) (Nat.le_of_ble_eq_true rfl) (Nat.le_of_ble_eq_true rfl) (Nat.le_of_ble_eq_true rfl)
set_option maxHeartbeats 4000000 in
set_option maxRecDepth 100000 in
theorem t_filter_f (l : Launch) (D : va_G) (cI cZ cN cJ : ClassId) (lo : Nat) (htr : l.stackTraces = false) (x n : Nat) (N : Nat → Nat → Int32) (R : Nat → Nat → Nat → Int32) (lev tot : Nat → Int32) (j : Nat) (hn : n ≤ 4) (hj : j < n) (a b : Int32) (hb : ¬ (¬ el a = 0 ∧ ¬ el b = 0)) : hq_T l y_X_filter b_X_filter 5 none TB { frames := 7, cells := 1, slots := 6, locals := 130 } D vwCl (TY cI cZ cN cJ) [.ref (x), .int (nI j), .int (a), .int (b)] (fun U => hq_E lo U ∧ busP D cI cZ cN x n N R lev tot U.heap) "java/lang/IllegalArgumentException" := by
  refine hq_ofT (by decide) (Nat.le_of_ble_eq_true rfl) ?_
  intro p e s m below meth c ls C hml hlk hout hl hP
  obtain ⟨hE, kB, kN⟩ := hP
  have hl : lv_has ls 5 [(0, .ref (x)), (1, .int (nI j)), (2, .int (a)), (3, .int (b))] := hl
  have hL : hq_L s.heap.size [] := hq_L0
  have k0 : va_at D vwCl (x, .inr (5, [.ref (x + 3), .ref (x + 1), .ref (x + 2)])) s.heap := kB 0 (by decide)
  refine lv_aload_n C.1 C.2.1 d_X_filter_0 rfl (lv_at hl 0 rfl) ?_
  refine lv_iload_n C.1 C.2.1 d_X_filter_1 rfl (lv_at hl 1 rfl) ?_
  refine hq_callV (lo := s.heap.size) (As := [.int (nI j)]) (rest := []) C tb_good hml Y_X_32 (c_nodeOf l D cI cZ cN cJ s.heap.size x n j N R lev tot hn hj) k0 rfl (fun _ _ _ _ h => h) (fun U hU hW => by show busP D cI cZ cN x n N R lev tot U.heap; rw [hU]; exact ⟨kB, kN⟩) hL hl.1 rfl rfl ⟨⟨Nat.le_of_ble_eq_true rfl, Nat.le_of_ble_eq_true rfl⟩, Nat.le_of_ble_eq_true rfl, Nat.le_of_ble_eq_true rfl⟩ (Nat.le_of_ble_eq_true rfl) d_X_filter_2 (fun v H41 locs hp hL => ?_)
  obtain ⟨rfl, rfl⟩ := hp
  refine va_forget hL ?_
  have hL : hq_L s.heap.size [] := hq_L0
  refine W.eq (g2 := F0 m 5 ls [.ref (x + 4 + 10 * j)]) rfl ?_
  refine lv_astore C.1 C.2.1 d_X_filter_5 hl (by decide) rfl (lv' := [(4, .ref (x + 4 + 10 * j)), (0, .ref (x)), (1, .int (nI j)), (2, .int (a)), (3, .int (b))]) (fun ls hl => ?_)
  refine lv_iload_n C.1 C.2.1 d_X_filter_7 rfl (lv_at hl 3 rfl) ?_
  refine hq_callS (lo := s.heap.size) (As := [.int (a)]) (rest := []) C tb_good hml Y_X_36 (c_isEleven l D cI cZ cN cJ s.heap.size a) (fun _ _ _ _ h => h) (fun U hU hW => trivial) hL hl.1 rfl rfl ⟨⟨Nat.le_of_ble_eq_true rfl, Nat.le_of_ble_eq_true rfl⟩, Nat.le_of_ble_eq_true rfl, Nat.le_of_ble_eq_true rfl⟩ (Nat.le_of_ble_eq_true rfl) d_X_filter_8 (fun v H42 locs hp hL => ?_)
  obtain ⟨rfl, rfl⟩ := hp
  refine va_forget hL ?_
  have hL : hq_L s.heap.size [] := hq_L0
  refine W.eq (g2 := F0 m 11 ls [.int (el a)]) rfl ?_
  refine lv_if_eq (tgt := 21) C.1 C.2.1 d_X_filter_11 (by decide) ?_ ?_
  · intro c0
    exact hq_throw C htr hE ex_wA ex_goodA ex_badA (by decide +kernel) (is := 77) (tx := "mask or value is not 0 .. 2047") (by decide +kernel) (hml.trans hl.1.symm) d_X_filter_21 d_X_filter_24 d_X_filter_25 d_X_filter_27 d_X_filter_30 hout hlk (Nat.le_of_ble_eq_true rfl) (Nat.le_of_ble_eq_true rfl) (Nat.le_of_ble_eq_true rfl) (Nat.le_of_ble_eq_true rfl) (Nat.le_of_ble_eq_true rfl) (Nat.le_of_ble_eq_true rfl)
  · intro c0
    refine lv_iload_n C.1 C.2.1 d_X_filter_14 rfl (lv_at hl 4 rfl) ?_
    refine hq_callS (lo := s.heap.size) (As := [.int (b)]) (rest := []) C tb_good hml Y_X_36 (c_isEleven l D cI cZ cN cJ s.heap.size b) (fun _ _ _ _ h => h) (fun U hU hW => trivial) hL hl.1 rfl rfl ⟨⟨Nat.le_of_ble_eq_true rfl, Nat.le_of_ble_eq_true rfl⟩, Nat.le_of_ble_eq_true rfl, Nat.le_of_ble_eq_true rfl⟩ (Nat.le_of_ble_eq_true rfl) d_X_filter_15 (fun v H43 locs hp hL => ?_)
    obtain ⟨rfl, rfl⟩ := hp
    refine va_forget hL ?_
    have hL : hq_L s.heap.size [] := hq_L0
    refine W.eq (g2 := F0 m 18 ls [.int (el b)]) rfl ?_
    refine lv_if_ne (tgt := 31) C.1 C.2.1 d_X_filter_18 (by decide) ?_ ?_
    · intro c1
      exact absurd ⟨c0, c1⟩ hb
    · intro c1
      exact hq_throw C htr hE ex_wA ex_goodA ex_badA (by decide +kernel) (is := 77) (tx := "mask or value is not 0 .. 2047") (by decide +kernel) (hml.trans hl.1.symm) d_X_filter_21 d_X_filter_24 d_X_filter_25 d_X_filter_27 d_X_filter_30 hout hlk (Nat.le_of_ble_eq_true rfl) (Nat.le_of_ble_eq_true rfl) (Nat.le_of_ble_eq_true rfl) (Nat.le_of_ble_eq_true rfl) (Nat.le_of_ble_eq_true rfl) (Nat.le_of_ble_eq_true rfl)
set_option maxHeartbeats 4000000 in
set_option maxRecDepth 100000 in
theorem t_disturb_f (l : Launch) (D : va_G) (cI cZ cN cJ : ClassId) (lo : Nat) (htr : l.stackTraces = false) (x n : Nat) (N : Nat → Nat → Int32) (R : Nat → Nat → Nat → Int32) (lev tot : Nat → Int32) (j : Nat) (hn : n ≤ 4) (hj : j < n) (a : Int32) (hb : a < 1 ∨ ¬ a ≤ 200) : hq_T l y_X_disturb b_X_disturb 4 none TB { frames := 7, cells := 1, slots := 6, locals := 130 } D vwCl (TY cI cZ cN cJ) [.ref (x), .int (nI j), .int (a)] (fun U => hq_E lo U ∧ busP D cI cZ cN x n N R lev tot U.heap) "java/lang/IllegalArgumentException" := by
  refine hq_ofT (by decide) (Nat.le_of_ble_eq_true rfl) ?_
  intro p e s m below meth c ls C hml hlk hout hl hP
  obtain ⟨hE, kB, kN⟩ := hP
  have hl : lv_has ls 4 [(0, .ref (x)), (1, .int (nI j)), (2, .int (a))] := hl
  have hL : hq_L s.heap.size [] := hq_L0
  have k0 : va_at D vwCl (x, .inr (5, [.ref (x + 3), .ref (x + 1), .ref (x + 2)])) s.heap := kB 0 (by decide)
  refine lv_aload_n C.1 C.2.1 d_X_disturb_0 rfl (lv_at hl 0 rfl) ?_
  refine lv_iload_n C.1 C.2.1 d_X_disturb_1 rfl (lv_at hl 1 rfl) ?_
  refine hq_callV (lo := s.heap.size) (As := [.int (nI j)]) (rest := []) C tb_good hml Y_X_32 (c_nodeOf l D cI cZ cN cJ s.heap.size x n j N R lev tot hn hj) k0 rfl (fun _ _ _ _ h => h) (fun U hU hW => by show busP D cI cZ cN x n N R lev tot U.heap; rw [hU]; exact ⟨kB, kN⟩) hL hl.1 rfl rfl ⟨⟨Nat.le_of_ble_eq_true rfl, Nat.le_of_ble_eq_true rfl⟩, Nat.le_of_ble_eq_true rfl, Nat.le_of_ble_eq_true rfl⟩ (Nat.le_of_ble_eq_true rfl) d_X_disturb_2 (fun v H41 locs hp hL => ?_)
  obtain ⟨rfl, rfl⟩ := hp
  refine va_forget hL ?_
  have hL : hq_L s.heap.size [] := hq_L0
  refine W.eq (g2 := F0 m 5 ls [.ref (x + 4 + 10 * j)]) rfl ?_
  refine lv_astore_n C.1 C.2.1 d_X_disturb_5 rfl hl (by decide) rfl (lv' := [(3, .ref (x + 4 + 10 * j)), (0, .ref (x)), (1, .int (nI j)), (2, .int (a))]) (fun ls hl => ?_)
  refine lv_iload_n C.1 C.2.1 d_X_disturb_6 rfl (lv_at hl 3 rfl) ?_
  refine hq_tcallS (As := [.int (a)]) (rest := []) C tb_good hml Y_X_85 (t_checkBitTimes l D cI cZ cN cJ lo htr a hb) (fun _ _ _ _ h => hq_E.call h) (fun U hU hW => hE.move hW (by rw [hU]; exact hq_O0)) hl.1 rfl rfl ⟨⟨Nat.le_of_ble_eq_true rfl, Nat.le_of_ble_eq_true rfl⟩, Nat.le_of_ble_eq_true rfl, Nat.le_of_ble_eq_true rfl⟩ (Nat.le_of_ble_eq_true rfl) d_X_disturb_7 (fun q9 ce9 H9 hO9 hz9 hce9 hcv9 hcl9 => ?_)
  exact hq_tout (fun x9 h9 => hout x9 h9 _) hlk hce9 hcv9 hcl9 (Nat.le_of_ble_eq_true rfl) (Nat.le_of_ble_eq_true rfl)
set_option maxHeartbeats 4000000 in
set_option maxRecDepth 100000 in
theorem t_take_e (l : Launch) (D : va_G) (cI cZ cN cJ : ClassId) (lo : Nat) (htr : l.stackTraces = false) (x n : Nat) (N : Nat → Nat → Int32) (R : Nat → Nat → Nat → Int32) (lev tot : Nat → Int32) (j : Nat) (hn : n ≤ 4) (hj : j < n) (hb : N j 14 = 0) : hq_T l y_X_take b_X_take 3 (some (.int)) TB { frames := 7, cells := 1, slots := 6, locals := 130 } D vwCl (TY cI cZ cN cJ) [.ref (x), .int (nI j)] (fun U => hq_E lo U ∧ busP D cI cZ cN x n N R lev tot U.heap) "java/lang/IllegalStateException" := by
  refine hq_ofT (by decide) (Nat.le_of_ble_eq_true rfl) ?_
  intro p e s m below meth c ls C hml hlk hout hl hP
  obtain ⟨hE, kB, kN⟩ := hP
  have hl : lv_has ls 3 [(0, .ref (x)), (1, .int (nI j))] := hl
  have hL : hq_L s.heap.size [] := hq_L0
  have k0 : va_at D vwCl (x, .inr (5, [.ref (x + 3), .ref (x + 1), .ref (x + 2)])) s.heap := kB 0 (by decide)
  refine lv_aload_n C.1 C.2.1 d_X_take_0 rfl (lv_at hl 0 rfl) ?_
  refine lv_iload_n C.1 C.2.1 d_X_take_1 rfl (lv_at hl 1 rfl) ?_
  refine hq_callV (lo := s.heap.size) (As := [.int (nI j)]) (rest := []) C tb_good hml Y_X_32 (c_nodeOf l D cI cZ cN cJ s.heap.size x n j N R lev tot hn hj) k0 rfl (fun _ _ _ _ h => h) (fun U hU hW => by show busP D cI cZ cN x n N R lev tot U.heap; rw [hU]; exact ⟨kB, kN⟩) hL hl.1 rfl rfl ⟨⟨Nat.le_of_ble_eq_true rfl, Nat.le_of_ble_eq_true rfl⟩, Nat.le_of_ble_eq_true rfl, Nat.le_of_ble_eq_true rfl⟩ (Nat.le_of_ble_eq_true rfl) d_X_take_2 (fun v H41 locs hp hL => ?_)
  obtain ⟨rfl, rfl⟩ := hp
  refine va_forget hL ?_
  have hL : hq_L s.heap.size [] := hq_L0
  refine W.eq (g2 := F0 m 5 ls [.ref (x + 4 + 10 * j)]) rfl ?_
  have m0 : va_at D vwCl (x + 4 + 10 * j, .inr (3, [.ref (x + 4 + 10 * j + 1), .ref (x + 4 + 10 * j + 3), .ref (x + 4 + 10 * j + 5), .ref (x + 4 + 10 * j + 7), .ref (x + 4 + 10 * j + 9), .int (N j 0), .int (N j 1), .int (N j 2), .int (N j 3), .int (N j 4), .int (N j 5), .int (N j 6), .int (N j 7), .int (N j 8), .int (N j 9), .int (N j 10), .int (N j 11), .int (N j 12)])) s.heap := kN j hj 0 (by decide)
  have m3 : va_at D vwCl (x + 4 + 10 * j + 3, .inr (2, [.ref (x + 4 + 10 * j + 4), .int (N j 14)])) s.heap := kN j hj 3 (by decide)
  refine lv_astore_n C.1 C.2.1 d_X_take_5 rfl hl (by decide) rfl (lv' := [(2, .ref (x + 4 + 10 * j)), (0, .ref (x)), (1, .int (nI j))]) (fun ls hl => ?_)
  refine lv_aload_n C.1 C.2.1 d_X_take_6 rfl (lv_at hl 0 rfl) ?_
  refine hq_get (v := .ref (x + 4 + 10 * j + 3)) C f_X_106 m0 rfl d_X_take_7 ?_
  refine hq_get (v := .int (N j 14)) C f_X_74 m3 rfl d_X_take_10 ?_
  refine lv_if_ne (tgt := 26) C.1 C.2.1 d_X_take_13 (by decide) (fun hn => absurd hn (fun h9 => h9 hb)) (fun _ => ?_)
  exact hq_throw C htr hE ex_wS ex_goodS ex_badS (by decide +kernel) (is := 114) (tx := "the inbox is empty") (by decide +kernel) (hml.trans hl.1.symm) d_X_take_16 d_X_take_19 d_X_take_20 d_X_take_22 d_X_take_25 hout hlk (Nat.le_of_ble_eq_true rfl) (Nat.le_of_ble_eq_true rfl) (Nat.le_of_ble_eq_true rfl) (Nat.le_of_ble_eq_true rfl) (Nat.le_of_ble_eq_true rfl) (Nat.le_of_ble_eq_true rfl)
set_option maxHeartbeats 4000000 in
set_option maxRecDepth 100000 in
theorem t_pass (l : Launch) (D : va_G) (cI cZ cN cJ : ClassId) (lo : Nat) (htr : l.stackTraces = false) (x n : Nat) (N : Nat → Nat → Int32) (R : Nat → Nat → Nat → Int32) (lev tot : Nat → Int32) (a : Int32) (hb : a < 1 ∨ ¬ a ≤ 200) : hq_T l y_X_pass b_X_pass 4 (some (.int)) TB { frames := 7, cells := 1, slots := 6, locals := 130 } D vwCl (TY cI cZ cN cJ) [.ref (x), .int (a)] (fun U => hq_E lo U ∧ busP D cI cZ cN x n N R lev tot U.heap) "java/lang/IllegalArgumentException" := by
  refine hq_ofT (by decide) (Nat.le_of_ble_eq_true rfl) ?_
  intro p e s m below meth c ls C hml hlk hout hl hP
  obtain ⟨hE, kB, kN⟩ := hP
  have hl : lv_has ls 4 [(0, .ref (x)), (1, .int (a))] := hl
  refine lv_iload_n C.1 C.2.1 d_X_pass_0 rfl (lv_at hl 1 rfl) ?_
  refine hq_tcallS (As := [.int (a)]) (rest := []) C tb_good hml Y_X_85 (t_checkBitTimes l D cI cZ cN cJ lo htr a hb) (fun _ _ _ _ h => hq_E.call h) (fun U hU hW => hE.move hW (by rw [hU]; exact hq_O0)) hl.1 rfl rfl ⟨⟨Nat.le_of_ble_eq_true rfl, Nat.le_of_ble_eq_true rfl⟩, Nat.le_of_ble_eq_true rfl, Nat.le_of_ble_eq_true rfl⟩ (Nat.le_of_ble_eq_true rfl) d_X_pass_1 (fun q9 ce9 H9 hO9 hz9 hce9 hcv9 hcl9 => ?_)
  exact hq_tout (fun x9 h9 => hout x9 h9 _) hlk hce9 hcv9 hcl9 (Nat.le_of_ble_eq_true rfl) (Nat.le_of_ble_eq_true rfl)
set_option maxHeartbeats 4000000 in
set_option maxRecDepth 100000 in
theorem t_total (l : Launch) (D : va_G) (cI cZ cN cJ : ClassId) (lo : Nat) (htr : l.stackTraces = false) (x n : Nat) (N : Nat → Nat → Int32) (R : Nat → Nat → Nat → Int32) (lev tot : Nat → Int32) (a : Int32) (hb : a < 0 ∨ ¬ a < 8) : hq_T l y_X_total b_X_total 2 (some (.int)) TB { frames := 7, cells := 1, slots := 6, locals := 130 } D vwCl (TY cI cZ cN cJ) [.ref (x), .int (a)] (fun U => hq_E lo U ∧ busP D cI cZ cN x n N R lev tot U.heap) "java/lang/IllegalArgumentException" := by
  refine hq_ofT (by decide) (Nat.le_of_ble_eq_true rfl) ?_
  intro p e s m below meth c ls C hml hlk hout hl hP
  obtain ⟨hE, kB, kN⟩ := hP
  have hl : lv_has ls 2 [(0, .ref (x)), (1, .int (a))] := hl
  refine lv_iload_n C.1 C.2.1 d_X_total_0 rfl (lv_at hl 1 rfl) ?_
  refine lv_if_lt (tgt := 10) C.1 C.2.1 d_X_total_1 (by decide) ?_ ?_
  · intro c0
    exact hq_throw C htr hE ex_wA ex_goodA ex_badA (by decide +kernel) (is := 120) (tx := "no such total") (by decide +kernel) (hml.trans hl.1.symm) d_X_total_10 d_X_total_13 d_X_total_14 d_X_total_16 d_X_total_19 hout hlk (Nat.le_of_ble_eq_true rfl) (Nat.le_of_ble_eq_true rfl) (Nat.le_of_ble_eq_true rfl) (Nat.le_of_ble_eq_true rfl) (Nat.le_of_ble_eq_true rfl) (Nat.le_of_ble_eq_true rfl)
  · intro c0
    refine lv_iload_n C.1 C.2.1 d_X_total_4 rfl (lv_at hl 1 rfl) ?_
    refine lv_bipush (v := 8) C.1 C.2.1 d_X_total_5 (by decide) ?_
    refine lv_icmp_lt (tgt := 20) C.1 C.2.1 d_X_total_7 (by decide) (fun hn => absurd hn (fun h9 => hb.elim c0 (fun z => z h9))) (fun _ => ?_)
    exact hq_throw C htr hE ex_wA ex_goodA ex_badA (by decide +kernel) (is := 120) (tx := "no such total") (by decide +kernel) (hml.trans hl.1.symm) d_X_total_10 d_X_total_13 d_X_total_14 d_X_total_16 d_X_total_19 hout hlk (Nat.le_of_ble_eq_true rfl) (Nat.le_of_ble_eq_true rfl) (Nat.le_of_ble_eq_true rfl) (Nat.le_of_ble_eq_true rfl) (Nat.le_of_ble_eq_true rfl) (Nat.le_of_ble_eq_true rfl)
set_option maxHeartbeats 4000000 in
set_option maxRecDepth 100000 in
theorem t_count_f (l : Launch) (D : va_G) (cI cZ cN cJ : ClassId) (lo : Nat) (htr : l.stackTraces = false) (x n : Nat) (N : Nat → Nat → Int32) (R : Nat → Nat → Nat → Int32) (lev tot : Nat → Int32) (j : Nat) (hn : n ≤ 4) (hj : j < n) (a : Int32) (hb : a.toInt < 0 ∨ 4 < a.toInt) : hq_T l y_X_count b_X_count 4 (some (.int)) TB { frames := 7, cells := 1, slots := 6, locals := 130 } D vwCl (TY cI cZ cN cJ) [.ref (x), .int (nI j), .int (a)] (fun U => hq_E lo U ∧ busP D cI cZ cN x n N R lev tot U.heap) "java/lang/IllegalArgumentException" := by
  refine hq_ofT (by decide) (Nat.le_of_ble_eq_true rfl) ?_
  intro p e s m below meth c ls C hml hlk hout hl hP
  obtain ⟨hE, kB, kN⟩ := hP
  have hl : lv_has ls 4 [(0, .ref (x)), (1, .int (nI j)), (2, .int (a))] := hl
  have hL : hq_L s.heap.size [] := hq_L0
  have k0 : va_at D vwCl (x, .inr (5, [.ref (x + 3), .ref (x + 1), .ref (x + 2)])) s.heap := kB 0 (by decide)
  refine lv_aload_n C.1 C.2.1 d_X_count_0 rfl (lv_at hl 0 rfl) ?_
  refine lv_iload_n C.1 C.2.1 d_X_count_1 rfl (lv_at hl 1 rfl) ?_
  refine hq_callV (lo := s.heap.size) (As := [.int (nI j)]) (rest := []) C tb_good hml Y_X_32 (c_nodeOf l D cI cZ cN cJ s.heap.size x n j N R lev tot hn hj) k0 rfl (fun _ _ _ _ h => h) (fun U hU hW => by show busP D cI cZ cN x n N R lev tot U.heap; rw [hU]; exact ⟨kB, kN⟩) hL hl.1 rfl rfl ⟨⟨Nat.le_of_ble_eq_true rfl, Nat.le_of_ble_eq_true rfl⟩, Nat.le_of_ble_eq_true rfl, Nat.le_of_ble_eq_true rfl⟩ (Nat.le_of_ble_eq_true rfl) d_X_count_2 (fun v H41 locs hp hL => ?_)
  obtain ⟨rfl, rfl⟩ := hp
  refine va_forget hL ?_
  have hL : hq_L s.heap.size [] := hq_L0
  refine W.eq (g2 := F0 m 5 ls [.ref (x + 4 + 10 * j)]) rfl ?_
  refine lv_astore_n C.1 C.2.1 d_X_count_5 rfl hl (by decide) rfl (lv' := [(3, .ref (x + 4 + 10 * j)), (0, .ref (x)), (1, .int (nI j)), (2, .int (a))]) (fun ls hl => ?_)
  refine lv_iload_n C.1 C.2.1 d_X_count_6 rfl (lv_at hl 3 rfl) ?_
  refine lv_tableOut (tgt := 71) C.1 C.2.1 d_X_count_7 hb (by decide) ?_
  exact hq_throw C htr hE ex_wA ex_goodA ex_badA (by decide +kernel) (is := 112) (tx := "no such number of a node") (by decide +kernel) (hml.trans hl.1.symm) d_X_count_71 d_X_count_74 d_X_count_75 d_X_count_77 d_X_count_80 hout hlk (Nat.le_of_ble_eq_true rfl) (Nat.le_of_ble_eq_true rfl) (Nat.le_of_ble_eq_true rfl) (Nat.le_of_ble_eq_true rfl) (Nat.le_of_ble_eq_true rfl) (Nat.le_of_ble_eq_true rfl)
