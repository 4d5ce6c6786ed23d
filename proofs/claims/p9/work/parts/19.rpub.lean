/-! Where the public methods answer. hq_S: nothing outside the bus changes. -/
set_option maxHeartbeats 4000000 in
set_option maxRecDepth 100000 in
theorem c_add (l : Launch) (D : va_G) (cI cZ cN cJ : ClassId) (lo : Nat) (b k : Nat) (f : Int32) (r : Nat → Int32) (hlo : lo ≤ b) (hk : k < 4) : hq_M l y_Fr_add b_Fr_add 2 none TB { frames := 1, cells := 0, slots := 0, locals := 30 } lo D vwCl (TY cI cZ cN cJ) [.ref (b), .int (f)] (fun U => va_at D vwCl (b, .inr (2, [.ref (b + 1), .int (nI k)])) U.heap ∧ va_at D vwCl (b + 1, .inl (cI, 4, .inl r)) U.heap) (fun H v H' => v = none ∧ va_at D vwCl (b, .inr (2, [.ref (b + 1), .int (nI (k + 1))])) H' ∧ hq_S b 2 H H') := by
  refine hq_ofW (by decide) (Nat.le_of_ble_eq_true rfl) ?_
  intro p e s m below meth c ls C hml hret hlk hnm hl hP
  obtain ⟨k0, k1⟩ := hP
  have hL : hq_L lo [] := hq_L0
  have hl : lv_has ls 2 [(0, .ref (b)), (1, .int (f))] := hl
  refine lv_aload_n C.1 C.2.1 d_Fr_add_0 rfl (lv_at hl 0 rfl) ?_
  refine hq_callV (lo := lo) (As := []) (rest := []) C tb_good hml Y_Fr_19 (c_isFull l D cI cZ cN cJ lo b (b + 1) (nI k)) k0 rfl (fun _ _ _ _ h => h) (fun U hU hW => by show va_at D vwCl (b, .inr (2, [.ref (b + 1), .int (nI k)])) U.heap; rw [hU]; exact k0) hL hl.1 rfl rfl ⟨⟨Nat.le_of_ble_eq_true rfl, Nat.le_of_ble_eq_true rfl⟩, Nat.le_of_ble_eq_true rfl, Nat.le_of_ble_eq_true rfl⟩ (Nat.le_of_ble_eq_true rfl) d_Fr_add_1 (fun v H41 locs hp hL => ?_)
  obtain ⟨rfl, rfl⟩ := hp
  refine W.eq (g2 := F0 m 4 ls [.int (fl (nI k))]) rfl ?_
  have hfl : fl (nI k) = 0 := by unfold fl; rw [if_pos (show nI k < 4 from nI_lt hk (by decide))]
  refine lv_if_ne (tgt := 27) C.1 C.2.1 d_Fr_add_4 (by decide) (fun hn => absurd hn (fun h9 => h9 hfl)) (fun _ => ?_)
  refine lv_aload_n C.1 C.2.1 d_Fr_add_7 rfl (lv_at hl 0 rfl) ?_
  refine hq_get (v := .ref (b + 1)) C f_Fr_9 k0 rfl d_Fr_add_8 ?_
  refine lv_aload_n C.1 C.2.1 d_Fr_add_11 rfl (lv_at hl 0 rfl) ?_
  refine hq_get (v := .int (nI k)) C f_Fr_15 k0 rfl d_Fr_add_12 ?_
  refine lv_iload_n C.1 C.2.1 d_Fr_add_15 rfl (lv_at hl 1 rfl) ?_
  refine hq_iast (lo := lo) C 0 rfl k1 (vp_in_nI hk (by decide)) hL (by omega) d_Fr_add_16 (fun H1 locs u1 hL => ?_)
  have k42 : va_at D vwCl (b + 1, .inl (cI, 4, .inl (upd r (nI k).toNatClampNeg f))) H1 := u1.2.2
  refine lv_aload_n C.1 C.2.1 d_Fr_add_17 rfl (lv_at hl 0 rfl) ?_
  refine lv_dup C.1 C.2.1 d_Fr_add_18 rfl ?_
  have k43 := hq_au k0 u1 (by omega)
  refine hq_get (v := .int (nI k)) C f_Fr_15 k43 rfl d_Fr_add_19 ?_
  refine lv_iconst (v := 1) C.1 C.2.1 d_Fr_add_22 (by decide) ?_
  refine lv_iadd C.1 C.2.1 d_Fr_add_23 ?_
  rw [nI_1 k]
  refine hq_put (lo := lo) C f_Fr_15 k43 rfl rfl (Nat.le_of_ble_eq_true rfl) hL (by omega) d_Fr_add_24 (fun H44 locs u45 hL => ?_)
  have k46 : va_at D vwCl (b, .inr (2, [.ref (b + 1), .int (nI (k + 1))])) H44 := u45.2.2
  exact hq_vret C hret hlk (Nat.le_of_ble_eq_true rfl) (Nat.le_of_ble_eq_true rfl) hL ⟨rfl, k46, hq_Sput (hq_Sput hq_S0 u1 (by omega) (by omega)) u45 (by omega) (by omega)⟩ d_Fr_add_27
set_option maxHeartbeats 4000000 in
set_option maxRecDepth 100000 in
theorem c_mark (l : Launch) (D : va_G) (cI cZ cN cJ : ClassId) (lo : Nat) (b t i : Nat) (r : Nat → Int32) (hlo : lo ≤ b) (ht : t < 201) (hi : i ≤ 200) : hq_M l y_Di_mark b_Di_mark 2 none TB { frames := 1, cells := 0, slots := 0, locals := 30 } lo D vwCl (TY cI cZ cN cJ) [.ref (b), .int (nI i)] (fun U => va_at D vwCl (b, .inr (1, [.ref (b + 1), .int (nI t)])) U.heap ∧ va_at D vwCl (b + 1, .inl (cZ, 201, .inl r)) U.heap) (fun H v H' => v = none ∧ hq_S b 2 H H') := by
  refine hq_ofW (by decide) (Nat.le_of_ble_eq_true rfl) ?_
  intro p e s m below meth c ls C hml hret hlk hnm hl hP
  obtain ⟨k0, k1⟩ := hP
  have hL : hq_L lo [] := hq_L0
  have hl : lv_has ls 2 [(0, .ref (b)), (1, .int (nI i))] := hl
  refine lv_aload_n C.1 C.2.1 d_Di_mark_0 rfl (lv_at hl 0 rfl) ?_
  refine hq_get (v := .ref (b + 1)) C f_Di_9 k0 rfl d_Di_mark_1 ?_
  refine lv_aload_n C.1 C.2.1 d_Di_mark_4 rfl (lv_at hl 0 rfl) ?_
  refine hq_get (v := .int (nI t)) C f_Di_15 k0 rfl d_Di_mark_5 ?_
  refine lv_iload_n C.1 C.2.1 d_Di_mark_8 rfl (lv_at hl 1 rfl) ?_
  refine lv_iadd C.1 C.2.1 d_Di_mark_9 ?_
  rw [nI_add t i]
  refine lv_aload_n C.1 C.2.1 d_Di_mark_10 rfl (lv_at hl 0 rfl) ?_
  refine hq_get (v := .ref (b + 1)) C f_Di_9 k0 rfl d_Di_mark_11 ?_
  refine hq_alen C 1 rfl k1 (v := nI 201) rfl d_Di_mark_14 ?_
  refine hq_callS (lo := lo) (As := [.int (nI (t + i)), .int (nI 201)]) (rest := [.ref (b + 1)]) C tb_good hml Y_Di_19 (c_floorMod l D cI cZ cN cJ lo (t + i) 201 (by omega) (by decide) (by decide)) (fun _ _ _ _ h => h) (fun U hU hW => trivial) hL hl.1 rfl rfl ⟨⟨Nat.le_of_ble_eq_true rfl, Nat.le_of_ble_eq_true rfl⟩, Nat.le_of_ble_eq_true rfl, Nat.le_of_ble_eq_true rfl⟩ (Nat.le_of_ble_eq_true rfl) d_Di_mark_15 (fun v H41 locs hp hL => ?_)
  obtain ⟨rfl, rfl⟩ := hp
  refine W.eq (g2 := F0 m 18 ls [.int (nI ((t + i) % 201)), .ref (b + 1)]) rfl ?_
  refine lv_iconst (v := 1) C.1 C.2.1 d_Di_mark_18 (by decide) ?_
  refine hq_zast (lo := lo) C 1 rfl k1 (vp_in_nI (Nat.mod_lt _ (by decide)) (by decide)) hL (by omega) d_Di_mark_19 (fun H1 locs u1 hL => ?_)
  exact hq_vret C hret hlk (Nat.le_of_ble_eq_true rfl) (Nat.le_of_ble_eq_true rfl) hL ⟨rfl, hq_Sput hq_S0 u1 (by omega) (by omega)⟩ d_Di_mark_20
set_option maxHeartbeats 4000000 in
set_option maxRecDepth 100000 in
theorem c_state (l : Launch) (D : va_G) (cI cZ cN cJ : ClassId) (lo : Nat) (x n : Nat) (N : Nat → Nat → Int32) (R : Nat → Nat → Nat → Int32) (lev tot : Nat → Int32) (j : Nat) (hn : n ≤ 4) (hj : j < n) : hq_M l y_X_state b_X_state 2 (some .int) TB { frames := 2, cells := 0, slots := 0, locals := 60 } lo D vwCl (TY cI cZ cN cJ) [.ref (x), .int (nI j)] (fun U => busP D cI cZ cN x n N R lev tot U.heap) (fun H v H' => v = some (.int (N j 0)) ∧ H' = H) := by
  refine hq_ofW (by decide) (Nat.le_of_ble_eq_true rfl) ?_
  intro p e s m below meth c ls C hml hret hlk hnm hl hP
  obtain ⟨kB, kN⟩ := hP
  have hL : hq_L lo [] := hq_L0
  have hl : lv_has ls 2 [(0, .ref (x)), (1, .int (nI j))] := hl
  have k0 : va_at D vwCl (x, .inr (5, [.ref (x + 3), .ref (x + 1), .ref (x + 2)])) s.heap := kB 0 (by decide)
  refine lv_aload_n C.1 C.2.1 d_X_state_0 rfl (lv_at hl 0 rfl) ?_
  refine lv_iload_n C.1 C.2.1 d_X_state_1 rfl (lv_at hl 1 rfl) ?_
  refine hq_callV (lo := lo) (As := [.int (nI j)]) (rest := []) C tb_good hml Y_X_32 (c_nodeOf l D cI cZ cN cJ lo x n j N R lev tot hn hj) k0 rfl (fun _ _ _ _ h => h) (fun U hU hW => by show busP D cI cZ cN x n N R lev tot U.heap; rw [hU]; exact ⟨kB, kN⟩) hL hl.1 rfl rfl ⟨⟨Nat.le_of_ble_eq_true rfl, Nat.le_of_ble_eq_true rfl⟩, Nat.le_of_ble_eq_true rfl, Nat.le_of_ble_eq_true rfl⟩ (Nat.le_of_ble_eq_true rfl) d_X_state_2 (fun v H41 locs hp hL => ?_)
  obtain ⟨rfl, rfl⟩ := hp
  refine W.eq (g2 := F0 m 5 ls [.ref (x + 4 + 10 * j)]) rfl ?_
  have m0 : va_at D vwCl (x + 4 + 10 * j, .inr (3, [.ref (x + 4 + 10 * j + 1), .ref (x + 4 + 10 * j + 3), .ref (x + 4 + 10 * j + 5), .ref (x + 4 + 10 * j + 7), .ref (x + 4 + 10 * j + 9), .int (N j 0), .int (N j 1), .int (N j 2), .int (N j 3), .int (N j 4), .int (N j 5), .int (N j 6), .int (N j 7), .int (N j 8), .int (N j 9), .int (N j 10), .int (N j 11), .int (N j 12)])) s.heap := kN j hj 0 (by decide)
  refine hq_get (v := .int (N j 0)) C f_X_47 m0 rfl d_X_state_5 ?_
  exact hq_iret C hret hlk (Nat.le_of_ble_eq_true rfl) (Nat.le_of_ble_eq_true rfl) hL ⟨rfl, rfl⟩ d_X_state_8
set_option maxHeartbeats 4000000 in
set_option maxRecDepth 100000 in
theorem c_count_0 (l : Launch) (D : va_G) (cI cZ cN cJ : ClassId) (lo : Nat) (x n : Nat) (N : Nat → Nat → Int32) (R : Nat → Nat → Nat → Int32) (lev tot : Nat → Int32) (j : Nat) (hn : n ≤ 4) (hj : j < n) : hq_M l y_X_count b_X_count 4 (some .int) TB { frames := 2, cells := 0, slots := 0, locals := 60 } lo D vwCl (TY cI cZ cN cJ) [.ref (x), .int (nI j), .int (0)] (fun U => busP D cI cZ cN x n N R lev tot U.heap) (fun H v H' => v = some (.int (N j 2)) ∧ H' = H) := by
  refine hq_ofW (by decide) (Nat.le_of_ble_eq_true rfl) ?_
  intro p e s m below meth c ls C hml hret hlk hnm hl hP
  obtain ⟨kB, kN⟩ := hP
  have hL : hq_L lo [] := hq_L0
  have hl : lv_has ls 4 [(0, .ref (x)), (1, .int (nI j)), (2, .int (0))] := hl
  have k0 : va_at D vwCl (x, .inr (5, [.ref (x + 3), .ref (x + 1), .ref (x + 2)])) s.heap := kB 0 (by decide)
  refine lv_aload_n C.1 C.2.1 d_X_count_0 rfl (lv_at hl 0 rfl) ?_
  refine lv_iload_n C.1 C.2.1 d_X_count_1 rfl (lv_at hl 1 rfl) ?_
  refine hq_callV (lo := lo) (As := [.int (nI j)]) (rest := []) C tb_good hml Y_X_32 (c_nodeOf l D cI cZ cN cJ lo x n j N R lev tot hn hj) k0 rfl (fun _ _ _ _ h => h) (fun U hU hW => by show busP D cI cZ cN x n N R lev tot U.heap; rw [hU]; exact ⟨kB, kN⟩) hL hl.1 rfl rfl ⟨⟨Nat.le_of_ble_eq_true rfl, Nat.le_of_ble_eq_true rfl⟩, Nat.le_of_ble_eq_true rfl, Nat.le_of_ble_eq_true rfl⟩ (Nat.le_of_ble_eq_true rfl) d_X_count_2 (fun v H41 locs hp hL => ?_)
  obtain ⟨rfl, rfl⟩ := hp
  refine W.eq (g2 := F0 m 5 ls [.ref (x + 4 + 10 * j)]) rfl ?_
  have m0 : va_at D vwCl (x + 4 + 10 * j, .inr (3, [.ref (x + 4 + 10 * j + 1), .ref (x + 4 + 10 * j + 3), .ref (x + 4 + 10 * j + 5), .ref (x + 4 + 10 * j + 7), .ref (x + 4 + 10 * j + 9), .int (N j 0), .int (N j 1), .int (N j 2), .int (N j 3), .int (N j 4), .int (N j 5), .int (N j 6), .int (N j 7), .int (N j 8), .int (N j 9), .int (N j 10), .int (N j 11), .int (N j 12)])) s.heap := kN j hj 0 (by decide)
  have m1 : va_at D vwCl (x + 4 + 10 * j + 1, .inr (2, [.ref (x + 4 + 10 * j + 2), .int (N j 13)])) s.heap := kN j hj 1 (by decide)
  have m3 : va_at D vwCl (x + 4 + 10 * j + 3, .inr (2, [.ref (x + 4 + 10 * j + 4), .int (N j 14)])) s.heap := kN j hj 3 (by decide)
  refine lv_astore_n C.1 C.2.1 d_X_count_5 rfl hl (by decide) rfl (lv' := [(3, .ref (x + 4 + 10 * j)), (0, .ref (x)), (1, .int (nI j)), (2, .int (0))]) (fun ls hl => ?_)
  refine lv_iload_n C.1 C.2.1 d_X_count_6 rfl (lv_at hl 3 rfl) ?_
  refine lv_tableIn (off := 33) (tgt := 40) C.1 C.2.1 d_X_count_7 (by decide) (by decide) (by decide) (by decide) ?_
  refine lv_aload_n C.1 C.2.1 d_X_count_40 rfl (lv_at hl 0 rfl) ?_
  refine hq_get (v := .int (N j 2)) C f_X_100 m0 rfl d_X_count_41 ?_
  exact hq_iret C hret hlk (Nat.le_of_ble_eq_true rfl) (Nat.le_of_ble_eq_true rfl) hL ⟨rfl, rfl⟩ d_X_count_44
set_option maxHeartbeats 4000000 in
set_option maxRecDepth 100000 in
theorem c_count_1 (l : Launch) (D : va_G) (cI cZ cN cJ : ClassId) (lo : Nat) (x n : Nat) (N : Nat → Nat → Int32) (R : Nat → Nat → Nat → Int32) (lev tot : Nat → Int32) (j : Nat) (hn : n ≤ 4) (hj : j < n) : hq_M l y_X_count b_X_count 4 (some .int) TB { frames := 2, cells := 0, slots := 0, locals := 60 } lo D vwCl (TY cI cZ cN cJ) [.ref (x), .int (nI j), .int (1)] (fun U => busP D cI cZ cN x n N R lev tot U.heap) (fun H v H' => v = some (.int (N j 3)) ∧ H' = H) := by
  refine hq_ofW (by decide) (Nat.le_of_ble_eq_true rfl) ?_
  intro p e s m below meth c ls C hml hret hlk hnm hl hP
  obtain ⟨kB, kN⟩ := hP
  have hL : hq_L lo [] := hq_L0
  have hl : lv_has ls 4 [(0, .ref (x)), (1, .int (nI j)), (2, .int (1))] := hl
  have k0 : va_at D vwCl (x, .inr (5, [.ref (x + 3), .ref (x + 1), .ref (x + 2)])) s.heap := kB 0 (by decide)
  refine lv_aload_n C.1 C.2.1 d_X_count_0 rfl (lv_at hl 0 rfl) ?_
  refine lv_iload_n C.1 C.2.1 d_X_count_1 rfl (lv_at hl 1 rfl) ?_
  refine hq_callV (lo := lo) (As := [.int (nI j)]) (rest := []) C tb_good hml Y_X_32 (c_nodeOf l D cI cZ cN cJ lo x n j N R lev tot hn hj) k0 rfl (fun _ _ _ _ h => h) (fun U hU hW => by show busP D cI cZ cN x n N R lev tot U.heap; rw [hU]; exact ⟨kB, kN⟩) hL hl.1 rfl rfl ⟨⟨Nat.le_of_ble_eq_true rfl, Nat.le_of_ble_eq_true rfl⟩, Nat.le_of_ble_eq_true rfl, Nat.le_of_ble_eq_true rfl⟩ (Nat.le_of_ble_eq_true rfl) d_X_count_2 (fun v H41 locs hp hL => ?_)
  obtain ⟨rfl, rfl⟩ := hp
  refine W.eq (g2 := F0 m 5 ls [.ref (x + 4 + 10 * j)]) rfl ?_
  have m0 : va_at D vwCl (x + 4 + 10 * j, .inr (3, [.ref (x + 4 + 10 * j + 1), .ref (x + 4 + 10 * j + 3), .ref (x + 4 + 10 * j + 5), .ref (x + 4 + 10 * j + 7), .ref (x + 4 + 10 * j + 9), .int (N j 0), .int (N j 1), .int (N j 2), .int (N j 3), .int (N j 4), .int (N j 5), .int (N j 6), .int (N j 7), .int (N j 8), .int (N j 9), .int (N j 10), .int (N j 11), .int (N j 12)])) s.heap := kN j hj 0 (by decide)
  have m1 : va_at D vwCl (x + 4 + 10 * j + 1, .inr (2, [.ref (x + 4 + 10 * j + 2), .int (N j 13)])) s.heap := kN j hj 1 (by decide)
  have m3 : va_at D vwCl (x + 4 + 10 * j + 3, .inr (2, [.ref (x + 4 + 10 * j + 4), .int (N j 14)])) s.heap := kN j hj 3 (by decide)
  refine lv_astore_n C.1 C.2.1 d_X_count_5 rfl hl (by decide) rfl (lv' := [(3, .ref (x + 4 + 10 * j)), (0, .ref (x)), (1, .int (nI j)), (2, .int (1))]) (fun ls hl => ?_)
  refine lv_iload_n C.1 C.2.1 d_X_count_6 rfl (lv_at hl 3 rfl) ?_
  refine lv_tableIn (off := 38) (tgt := 45) C.1 C.2.1 d_X_count_7 (by decide) (by decide) (by decide) (by decide) ?_
  refine lv_aload_n C.1 C.2.1 d_X_count_45 rfl (lv_at hl 0 rfl) ?_
  refine hq_get (v := .int (N j 3)) C f_X_103 m0 rfl d_X_count_46 ?_
  exact hq_iret C hret hlk (Nat.le_of_ble_eq_true rfl) (Nat.le_of_ble_eq_true rfl) hL ⟨rfl, rfl⟩ d_X_count_49
set_option maxHeartbeats 4000000 in
set_option maxRecDepth 100000 in
theorem c_count_2 (l : Launch) (D : va_G) (cI cZ cN cJ : ClassId) (lo : Nat) (x n : Nat) (N : Nat → Nat → Int32) (R : Nat → Nat → Nat → Int32) (lev tot : Nat → Int32) (j : Nat) (hn : n ≤ 4) (hj : j < n) : hq_M l y_X_count b_X_count 4 (some .int) TB { frames := 2, cells := 0, slots := 0, locals := 60 } lo D vwCl (TY cI cZ cN cJ) [.ref (x), .int (nI j), .int (2)] (fun U => busP D cI cZ cN x n N R lev tot U.heap) (fun H v H' => v = some (.int (N j 13)) ∧ H' = H) := by
  refine hq_ofW (by decide) (Nat.le_of_ble_eq_true rfl) ?_
  intro p e s m below meth c ls C hml hret hlk hnm hl hP
  obtain ⟨kB, kN⟩ := hP
  have hL : hq_L lo [] := hq_L0
  have hl : lv_has ls 4 [(0, .ref (x)), (1, .int (nI j)), (2, .int (2))] := hl
  have k0 : va_at D vwCl (x, .inr (5, [.ref (x + 3), .ref (x + 1), .ref (x + 2)])) s.heap := kB 0 (by decide)
  refine lv_aload_n C.1 C.2.1 d_X_count_0 rfl (lv_at hl 0 rfl) ?_
  refine lv_iload_n C.1 C.2.1 d_X_count_1 rfl (lv_at hl 1 rfl) ?_
  refine hq_callV (lo := lo) (As := [.int (nI j)]) (rest := []) C tb_good hml Y_X_32 (c_nodeOf l D cI cZ cN cJ lo x n j N R lev tot hn hj) k0 rfl (fun _ _ _ _ h => h) (fun U hU hW => by show busP D cI cZ cN x n N R lev tot U.heap; rw [hU]; exact ⟨kB, kN⟩) hL hl.1 rfl rfl ⟨⟨Nat.le_of_ble_eq_true rfl, Nat.le_of_ble_eq_true rfl⟩, Nat.le_of_ble_eq_true rfl, Nat.le_of_ble_eq_true rfl⟩ (Nat.le_of_ble_eq_true rfl) d_X_count_2 (fun v H41 locs hp hL => ?_)
  obtain ⟨rfl, rfl⟩ := hp
  refine W.eq (g2 := F0 m 5 ls [.ref (x + 4 + 10 * j)]) rfl ?_
  have m0 : va_at D vwCl (x + 4 + 10 * j, .inr (3, [.ref (x + 4 + 10 * j + 1), .ref (x + 4 + 10 * j + 3), .ref (x + 4 + 10 * j + 5), .ref (x + 4 + 10 * j + 7), .ref (x + 4 + 10 * j + 9), .int (N j 0), .int (N j 1), .int (N j 2), .int (N j 3), .int (N j 4), .int (N j 5), .int (N j 6), .int (N j 7), .int (N j 8), .int (N j 9), .int (N j 10), .int (N j 11), .int (N j 12)])) s.heap := kN j hj 0 (by decide)
  have m1 : va_at D vwCl (x + 4 + 10 * j + 1, .inr (2, [.ref (x + 4 + 10 * j + 2), .int (N j 13)])) s.heap := kN j hj 1 (by decide)
  have m3 : va_at D vwCl (x + 4 + 10 * j + 3, .inr (2, [.ref (x + 4 + 10 * j + 4), .int (N j 14)])) s.heap := kN j hj 3 (by decide)
  refine lv_astore_n C.1 C.2.1 d_X_count_5 rfl hl (by decide) rfl (lv' := [(3, .ref (x + 4 + 10 * j)), (0, .ref (x)), (1, .int (nI j)), (2, .int (2))]) (fun ls hl => ?_)
  refine lv_iload_n C.1 C.2.1 d_X_count_6 rfl (lv_at hl 3 rfl) ?_
  refine lv_tableIn (off := 43) (tgt := 50) C.1 C.2.1 d_X_count_7 (by decide) (by decide) (by decide) (by decide) ?_
  refine lv_aload_n C.1 C.2.1 d_X_count_50 rfl (lv_at hl 0 rfl) ?_
  refine hq_get (v := .ref (x + 4 + 10 * j + 1)) C f_X_51 m0 rfl d_X_count_51 ?_
  refine hq_get (v := .int (N j 13)) C f_X_74 m1 rfl d_X_count_54 ?_
  exact hq_iret C hret hlk (Nat.le_of_ble_eq_true rfl) (Nat.le_of_ble_eq_true rfl) hL ⟨rfl, rfl⟩ d_X_count_57
set_option maxHeartbeats 4000000 in
set_option maxRecDepth 100000 in
theorem c_count_3 (l : Launch) (D : va_G) (cI cZ cN cJ : ClassId) (lo : Nat) (x n : Nat) (N : Nat → Nat → Int32) (R : Nat → Nat → Nat → Int32) (lev tot : Nat → Int32) (j : Nat) (hn : n ≤ 4) (hj : j < n) : hq_M l y_X_count b_X_count 4 (some .int) TB { frames := 2, cells := 0, slots := 0, locals := 60 } lo D vwCl (TY cI cZ cN cJ) [.ref (x), .int (nI j), .int (3)] (fun U => busP D cI cZ cN x n N R lev tot U.heap) (fun H v H' => v = some (.int (N j 14)) ∧ H' = H) := by
  refine hq_ofW (by decide) (Nat.le_of_ble_eq_true rfl) ?_
  intro p e s m below meth c ls C hml hret hlk hnm hl hP
  obtain ⟨kB, kN⟩ := hP
  have hL : hq_L lo [] := hq_L0
  have hl : lv_has ls 4 [(0, .ref (x)), (1, .int (nI j)), (2, .int (3))] := hl
  have k0 : va_at D vwCl (x, .inr (5, [.ref (x + 3), .ref (x + 1), .ref (x + 2)])) s.heap := kB 0 (by decide)
  refine lv_aload_n C.1 C.2.1 d_X_count_0 rfl (lv_at hl 0 rfl) ?_
  refine lv_iload_n C.1 C.2.1 d_X_count_1 rfl (lv_at hl 1 rfl) ?_
  refine hq_callV (lo := lo) (As := [.int (nI j)]) (rest := []) C tb_good hml Y_X_32 (c_nodeOf l D cI cZ cN cJ lo x n j N R lev tot hn hj) k0 rfl (fun _ _ _ _ h => h) (fun U hU hW => by show busP D cI cZ cN x n N R lev tot U.heap; rw [hU]; exact ⟨kB, kN⟩) hL hl.1 rfl rfl ⟨⟨Nat.le_of_ble_eq_true rfl, Nat.le_of_ble_eq_true rfl⟩, Nat.le_of_ble_eq_true rfl, Nat.le_of_ble_eq_true rfl⟩ (Nat.le_of_ble_eq_true rfl) d_X_count_2 (fun v H41 locs hp hL => ?_)
  obtain ⟨rfl, rfl⟩ := hp
  refine W.eq (g2 := F0 m 5 ls [.ref (x + 4 + 10 * j)]) rfl ?_
  have m0 : va_at D vwCl (x + 4 + 10 * j, .inr (3, [.ref (x + 4 + 10 * j + 1), .ref (x + 4 + 10 * j + 3), .ref (x + 4 + 10 * j + 5), .ref (x + 4 + 10 * j + 7), .ref (x + 4 + 10 * j + 9), .int (N j 0), .int (N j 1), .int (N j 2), .int (N j 3), .int (N j 4), .int (N j 5), .int (N j 6), .int (N j 7), .int (N j 8), .int (N j 9), .int (N j 10), .int (N j 11), .int (N j 12)])) s.heap := kN j hj 0 (by decide)
  have m1 : va_at D vwCl (x + 4 + 10 * j + 1, .inr (2, [.ref (x + 4 + 10 * j + 2), .int (N j 13)])) s.heap := kN j hj 1 (by decide)
  have m3 : va_at D vwCl (x + 4 + 10 * j + 3, .inr (2, [.ref (x + 4 + 10 * j + 4), .int (N j 14)])) s.heap := kN j hj 3 (by decide)
  refine lv_astore_n C.1 C.2.1 d_X_count_5 rfl hl (by decide) rfl (lv' := [(3, .ref (x + 4 + 10 * j)), (0, .ref (x)), (1, .int (nI j)), (2, .int (3))]) (fun ls hl => ?_)
  refine lv_iload_n C.1 C.2.1 d_X_count_6 rfl (lv_at hl 3 rfl) ?_
  refine lv_tableIn (off := 51) (tgt := 58) C.1 C.2.1 d_X_count_7 (by decide) (by decide) (by decide) (by decide) ?_
  refine lv_aload_n C.1 C.2.1 d_X_count_58 rfl (lv_at hl 0 rfl) ?_
  refine hq_get (v := .ref (x + 4 + 10 * j + 3)) C f_X_106 m0 rfl d_X_count_59 ?_
  refine hq_get (v := .int (N j 14)) C f_X_74 m3 rfl d_X_count_62 ?_
  exact hq_iret C hret hlk (Nat.le_of_ble_eq_true rfl) (Nat.le_of_ble_eq_true rfl) hL ⟨rfl, rfl⟩ d_X_count_65
set_option maxHeartbeats 4000000 in
set_option maxRecDepth 100000 in
theorem c_count_4 (l : Launch) (D : va_G) (cI cZ cN cJ : ClassId) (lo : Nat) (x n : Nat) (N : Nat → Nat → Int32) (R : Nat → Nat → Nat → Int32) (lev tot : Nat → Int32) (j : Nat) (hn : n ≤ 4) (hj : j < n) : hq_M l y_X_count b_X_count 4 (some .int) TB { frames := 2, cells := 0, slots := 0, locals := 60 } lo D vwCl (TY cI cZ cN cJ) [.ref (x), .int (nI j), .int (4)] (fun U => busP D cI cZ cN x n N R lev tot U.heap) (fun H v H' => v = some (.int (N j 4)) ∧ H' = H) := by
  refine hq_ofW (by decide) (Nat.le_of_ble_eq_true rfl) ?_
  intro p e s m below meth c ls C hml hret hlk hnm hl hP
  obtain ⟨kB, kN⟩ := hP
  have hL : hq_L lo [] := hq_L0
  have hl : lv_has ls 4 [(0, .ref (x)), (1, .int (nI j)), (2, .int (4))] := hl
  have k0 : va_at D vwCl (x, .inr (5, [.ref (x + 3), .ref (x + 1), .ref (x + 2)])) s.heap := kB 0 (by decide)
  refine lv_aload_n C.1 C.2.1 d_X_count_0 rfl (lv_at hl 0 rfl) ?_
  refine lv_iload_n C.1 C.2.1 d_X_count_1 rfl (lv_at hl 1 rfl) ?_
  refine hq_callV (lo := lo) (As := [.int (nI j)]) (rest := []) C tb_good hml Y_X_32 (c_nodeOf l D cI cZ cN cJ lo x n j N R lev tot hn hj) k0 rfl (fun _ _ _ _ h => h) (fun U hU hW => by show busP D cI cZ cN x n N R lev tot U.heap; rw [hU]; exact ⟨kB, kN⟩) hL hl.1 rfl rfl ⟨⟨Nat.le_of_ble_eq_true rfl, Nat.le_of_ble_eq_true rfl⟩, Nat.le_of_ble_eq_true rfl, Nat.le_of_ble_eq_true rfl⟩ (Nat.le_of_ble_eq_true rfl) d_X_count_2 (fun v H41 locs hp hL => ?_)
  obtain ⟨rfl, rfl⟩ := hp
  refine W.eq (g2 := F0 m 5 ls [.ref (x + 4 + 10 * j)]) rfl ?_
  have m0 : va_at D vwCl (x + 4 + 10 * j, .inr (3, [.ref (x + 4 + 10 * j + 1), .ref (x + 4 + 10 * j + 3), .ref (x + 4 + 10 * j + 5), .ref (x + 4 + 10 * j + 7), .ref (x + 4 + 10 * j + 9), .int (N j 0), .int (N j 1), .int (N j 2), .int (N j 3), .int (N j 4), .int (N j 5), .int (N j 6), .int (N j 7), .int (N j 8), .int (N j 9), .int (N j 10), .int (N j 11), .int (N j 12)])) s.heap := kN j hj 0 (by decide)
  have m1 : va_at D vwCl (x + 4 + 10 * j + 1, .inr (2, [.ref (x + 4 + 10 * j + 2), .int (N j 13)])) s.heap := kN j hj 1 (by decide)
  have m3 : va_at D vwCl (x + 4 + 10 * j + 3, .inr (2, [.ref (x + 4 + 10 * j + 4), .int (N j 14)])) s.heap := kN j hj 3 (by decide)
  refine lv_astore_n C.1 C.2.1 d_X_count_5 rfl hl (by decide) rfl (lv' := [(3, .ref (x + 4 + 10 * j)), (0, .ref (x)), (1, .int (nI j)), (2, .int (4))]) (fun ls hl => ?_)
  refine lv_iload_n C.1 C.2.1 d_X_count_6 rfl (lv_at hl 3 rfl) ?_
  refine lv_tableIn (off := 59) (tgt := 66) C.1 C.2.1 d_X_count_7 (by decide) (by decide) (by decide) (by decide) ?_
  refine lv_aload_n C.1 C.2.1 d_X_count_66 rfl (lv_at hl 0 rfl) ?_
  refine hq_get (v := .int (N j 4)) C f_X_109 m0 rfl d_X_count_67 ?_
  exact hq_iret C hret hlk (Nat.le_of_ble_eq_true rfl) (Nat.le_of_ble_eq_true rfl) hL ⟨rfl, rfl⟩ d_X_count_70
set_option maxHeartbeats 4000000 in
set_option maxRecDepth 100000 in
theorem c_total (l : Launch) (D : va_G) (cI cZ cN cJ : ClassId) (lo : Nat) (x n : Nat) (N : Nat → Nat → Int32) (R : Nat → Nat → Nat → Int32) (lev tot : Nat → Int32) (k : Nat) (hk : k < 8) : hq_M l y_X_total b_X_total 2 (some .int) TB { frames := 2, cells := 0, slots := 0, locals := 60 } lo D vwCl (TY cI cZ cN cJ) [.ref (x), .int (nI k)] (fun U => busP D cI cZ cN x n N R lev tot U.heap) (fun H v H' => v = some (.int (tot k)) ∧ H' = H) := by
  refine hq_ofW (by decide) (Nat.le_of_ble_eq_true rfl) ?_
  intro p e s m below meth c ls C hml hret hlk hnm hl hP
  obtain ⟨kB, kN⟩ := hP
  have hL : hq_L lo [] := hq_L0
  have hl : lv_has ls 2 [(0, .ref (x)), (1, .int (nI k))] := hl
  have k0 : va_at D vwCl (x, .inr (5, [.ref (x + 3), .ref (x + 1), .ref (x + 2)])) s.heap := kB 0 (by decide)
  have k2 : va_at D vwCl (x + 2, .inl (cI, 8, .inl tot)) s.heap := kB 2 (by decide)
  refine lv_iload_n C.1 C.2.1 d_X_total_0 rfl (lv_at hl 1 rfl) ?_
  refine lv_if_lt (tgt := 10) C.1 C.2.1 d_X_total_1 (by decide) (fun hn => absurd hn (nI_pos (by omega))) (fun _ => ?_)
  refine lv_iload_n C.1 C.2.1 d_X_total_4 rfl (lv_at hl 1 rfl) ?_
  refine lv_bipush (v := 8) C.1 C.2.1 d_X_total_5 (by decide) ?_
  refine lv_icmp_lt (tgt := 20) C.1 C.2.1 d_X_total_7 (by decide) (fun _ => ?_) (fun hn => absurd (show nI k < 8 from nI_lt hk (by decide)) hn)
  refine lv_aload_n C.1 C.2.1 d_X_total_20 rfl (lv_at hl 0 rfl) ?_
  refine hq_get (v := .ref (x + 2)) C f_X_13 k0 rfl d_X_total_21 ?_
  refine lv_iload_n C.1 C.2.1 d_X_total_24 rfl (lv_at hl 1 rfl) ?_
  refine hq_iald C 0 rfl k2 (vp_in_nI hk (by decide)) d_X_total_25 ?_
  rw [nI_clamp (show k < 2 ^ 31 by omega)]
  exact hq_iret C hret hlk (Nat.le_of_ble_eq_true rfl) (Nat.le_of_ble_eq_true rfl) hL ⟨rfl, rfl⟩ d_X_total_26
set_option maxHeartbeats 4000000 in
set_option maxRecDepth 100000 in
theorem c_level0 (l : Launch) (D : va_G) (cI cZ cN cJ : ClassId) (lo : Nat) (x n : Nat) (N : Nat → Nat → Int32) (R : Nat → Nat → Nat → Int32) (lev tot : Nat → Int32) (a : Int32) (h0 : tot 0 = 0) : hq_M l y_X_level b_X_level 2 (some .int) TB { frames := 2, cells := 0, slots := 0, locals := 60 } lo D vwCl (TY cI cZ cN cJ) [.ref (x), .int (a)] (fun U => busP D cI cZ cN x n N R lev tot U.heap) (fun H v H' => v = some (.int (-1)) ∧ H' = H) := by
  refine hq_ofW (by decide) (Nat.le_of_ble_eq_true rfl) ?_
  intro p e s m below meth c ls C hml hret hlk hnm hl hP
  obtain ⟨kB, kN⟩ := hP
  have hL : hq_L lo [] := hq_L0
  have hl : lv_has ls 2 [(0, .ref (x)), (1, .int (a))] := hl
  have k0 : va_at D vwCl (x, .inr (5, [.ref (x + 3), .ref (x + 1), .ref (x + 2)])) s.heap := kB 0 (by decide)
  have k2 : va_at D vwCl (x + 2, .inl (cI, 8, .inl tot)) s.heap := kB 2 (by decide)
  refine lv_iload_n C.1 C.2.1 d_X_level_0 rfl (lv_at hl 1 rfl) ?_
  refine lv_if_lt (tgt := 20) C.1 C.2.1 d_X_level_1 (by decide) ?_ ?_
  · intro c0
    refine lv_iconst (v := -1) C.1 C.2.1 d_X_level_20 (by decide) ?_
    exact hq_iret C hret hlk (Nat.le_of_ble_eq_true rfl) (Nat.le_of_ble_eq_true rfl) hL ⟨rfl, rfl⟩ d_X_level_21
  · intro c0
    refine lv_iload_n C.1 C.2.1 d_X_level_4 rfl (lv_at hl 1 rfl) ?_
    refine lv_bipush (v := 64) C.1 C.2.1 d_X_level_5 (by decide) ?_
    refine lv_icmp_ge (tgt := 20) C.1 C.2.1 d_X_level_7 (by decide) ?_ ?_
    · intro c1
      refine lv_iconst (v := -1) C.1 C.2.1 d_X_level_20 (by decide) ?_
      exact hq_iret C hret hlk (Nat.le_of_ble_eq_true rfl) (Nat.le_of_ble_eq_true rfl) hL ⟨rfl, rfl⟩ d_X_level_21
    · intro c1
      refine lv_iload_n C.1 C.2.1 d_X_level_10 rfl (lv_at hl 1 rfl) ?_
      refine lv_aload_n C.1 C.2.1 d_X_level_11 rfl (lv_at hl 0 rfl) ?_
      refine hq_get (v := .ref (x + 2)) C f_X_13 k0 rfl d_X_level_12 ?_
      refine lv_iconst (v := 0) C.1 C.2.1 d_X_level_15 (by decide) ?_
      refine hq_iald C 0 rfl k2 (show vp_in (nI 0) 8 from vp_in_nI (by decide) (by decide)) d_X_level_16 ?_
      rw [show tot (Int32.toNatClampNeg 0) = 0 from h0]
      refine lv_icmp_lt (tgt := 22) C.1 C.2.1 d_X_level_17 (by decide) (fun hn => absurd hn (c0)) (fun _ => ?_)
      refine lv_iconst (v := -1) C.1 C.2.1 d_X_level_20 (by decide) ?_
      exact hq_iret C hret hlk (Nat.le_of_ble_eq_true rfl) (Nat.le_of_ble_eq_true rfl) hL ⟨rfl, rfl⟩ d_X_level_21
set_option maxHeartbeats 4000000 in
set_option maxRecDepth 100000 in
theorem c_filter (l : Launch) (D : va_G) (cI cZ cN cJ : ClassId) (lo : Nat) (x n : Nat) (N : Nat → Nat → Int32) (R : Nat → Nat → Nat → Int32) (lev tot : Nat → Int32) (j : Nat) (hn : n ≤ 4) (hj : j < n) (a b : Int32) (hlo : lo ≤ x) (ha : ¬ el a = 0) (hb : ¬ el b = 0) : hq_M l y_X_filter b_X_filter 5 none TB { frames := 2, cells := 0, slots := 0, locals := 60 } lo D vwCl (TY cI cZ cN cJ) [.ref (x), .int (nI j), .int (a), .int (b)] (fun U => busP D cI cZ cN x n N R lev tot U.heap) (fun H v H' => v = none ∧ hq_S x (4 + 10 * n) H H') := by
  refine hq_ofW (by decide) (Nat.le_of_ble_eq_true rfl) ?_
  intro p e s m below meth c ls C hml hret hlk hnm hl hP
  obtain ⟨kB, kN⟩ := hP
  have hL : hq_L lo [] := hq_L0
  have hl : lv_has ls 5 [(0, .ref (x)), (1, .int (nI j)), (2, .int (a)), (3, .int (b))] := hl
  have k0 : va_at D vwCl (x, .inr (5, [.ref (x + 3), .ref (x + 1), .ref (x + 2)])) s.heap := kB 0 (by decide)
  refine lv_aload_n C.1 C.2.1 d_X_filter_0 rfl (lv_at hl 0 rfl) ?_
  refine lv_iload_n C.1 C.2.1 d_X_filter_1 rfl (lv_at hl 1 rfl) ?_
  refine hq_callV (lo := lo) (As := [.int (nI j)]) (rest := []) C tb_good hml Y_X_32 (c_nodeOf l D cI cZ cN cJ lo x n j N R lev tot hn hj) k0 rfl (fun _ _ _ _ h => h) (fun U hU hW => by show busP D cI cZ cN x n N R lev tot U.heap; rw [hU]; exact ⟨kB, kN⟩) hL hl.1 rfl rfl ⟨⟨Nat.le_of_ble_eq_true rfl, Nat.le_of_ble_eq_true rfl⟩, Nat.le_of_ble_eq_true rfl, Nat.le_of_ble_eq_true rfl⟩ (Nat.le_of_ble_eq_true rfl) d_X_filter_2 (fun v H41 locs hp hL => ?_)
  obtain ⟨rfl, rfl⟩ := hp
  refine W.eq (g2 := F0 m 5 ls [.ref (x + 4 + 10 * j)]) rfl ?_
  have m0 : va_at D vwCl (x + 4 + 10 * j, .inr (3, [.ref (x + 4 + 10 * j + 1), .ref (x + 4 + 10 * j + 3), .ref (x + 4 + 10 * j + 5), .ref (x + 4 + 10 * j + 7), .ref (x + 4 + 10 * j + 9), .int (N j 0), .int (N j 1), .int (N j 2), .int (N j 3), .int (N j 4), .int (N j 5), .int (N j 6), .int (N j 7), .int (N j 8), .int (N j 9), .int (N j 10), .int (N j 11), .int (N j 12)])) s.heap := kN j hj 0 (by decide)
  refine lv_astore C.1 C.2.1 d_X_filter_5 hl (by decide) rfl (lv' := [(4, .ref (x + 4 + 10 * j)), (0, .ref (x)), (1, .int (nI j)), (2, .int (a)), (3, .int (b))]) (fun ls hl => ?_)
  refine lv_iload_n C.1 C.2.1 d_X_filter_7 rfl (lv_at hl 3 rfl) ?_
  refine hq_callS (lo := lo) (As := [.int (a)]) (rest := []) C tb_good hml Y_X_36 (c_isEleven l D cI cZ cN cJ lo a) (fun _ _ _ _ h => h) (fun U hU hW => trivial) hL hl.1 rfl rfl ⟨⟨Nat.le_of_ble_eq_true rfl, Nat.le_of_ble_eq_true rfl⟩, Nat.le_of_ble_eq_true rfl, Nat.le_of_ble_eq_true rfl⟩ (Nat.le_of_ble_eq_true rfl) d_X_filter_8 (fun v H42 locs hp hL => ?_)
  obtain ⟨rfl, rfl⟩ := hp
  refine W.eq (g2 := F0 m 11 ls [.int (el a)]) rfl ?_
  refine lv_if_eq (tgt := 21) C.1 C.2.1 d_X_filter_11 (by decide) (fun hn => absurd hn (ha)) (fun _ => ?_)
  refine lv_iload_n C.1 C.2.1 d_X_filter_14 rfl (lv_at hl 4 rfl) ?_
  refine hq_callS (lo := lo) (As := [.int (b)]) (rest := []) C tb_good hml Y_X_36 (c_isEleven l D cI cZ cN cJ lo b) (fun _ _ _ _ h => h) (fun U hU hW => trivial) hL hl.1 rfl rfl ⟨⟨Nat.le_of_ble_eq_true rfl, Nat.le_of_ble_eq_true rfl⟩, Nat.le_of_ble_eq_true rfl, Nat.le_of_ble_eq_true rfl⟩ (Nat.le_of_ble_eq_true rfl) d_X_filter_15 (fun v H43 locs hp hL => ?_)
  obtain ⟨rfl, rfl⟩ := hp
  refine W.eq (g2 := F0 m 18 ls [.int (el b)]) rfl ?_
  refine lv_if_ne (tgt := 31) C.1 C.2.1 d_X_filter_18 (by decide) (fun _ => ?_) (fun hn => absurd hn (hb))
  refine lv_aload C.1 C.2.1 d_X_filter_31 (lv_at hl 0 rfl) ?_
  refine lv_iload_n C.1 C.2.1 d_X_filter_33 rfl (lv_at hl 3 rfl) ?_
  refine hq_put (lo := lo) C f_X_79 m0 rfl rfl (Nat.le_of_ble_eq_true rfl) hL (by omega) d_X_filter_34 (fun H44 locs u45 hL => ?_)
  have k46 : va_at D vwCl (x + 4 + 10 * j, .inr (3, [.ref (x + 4 + 10 * j + 1), .ref (x + 4 + 10 * j + 3), .ref (x + 4 + 10 * j + 5), .ref (x + 4 + 10 * j + 7), .ref (x + 4 + 10 * j + 9), .int (N j 0), .int (N j 1), .int (N j 2), .int (N j 3), .int (N j 4), .int (a), .int (N j 6), .int (N j 7), .int (N j 8), .int (N j 9), .int (N j 10), .int (N j 11), .int (N j 12)])) H44 := u45.2.2
  refine lv_aload C.1 C.2.1 d_X_filter_37 (lv_at hl 0 rfl) ?_
  refine lv_iload_n C.1 C.2.1 d_X_filter_39 rfl (lv_at hl 4 rfl) ?_
  refine hq_put (lo := lo) C f_X_82 k46 rfl rfl (Nat.le_of_ble_eq_true rfl) hL (by omega) d_X_filter_40 (fun H47 locs u48 hL => ?_)
  have k49 : va_at D vwCl (x + 4 + 10 * j, .inr (3, [.ref (x + 4 + 10 * j + 1), .ref (x + 4 + 10 * j + 3), .ref (x + 4 + 10 * j + 5), .ref (x + 4 + 10 * j + 7), .ref (x + 4 + 10 * j + 9), .int (N j 0), .int (N j 1), .int (N j 2), .int (N j 3), .int (N j 4), .int (a), .int (b), .int (N j 7), .int (N j 8), .int (N j 9), .int (N j 10), .int (N j 11), .int (N j 12)])) H47 := u48.2.2
  exact hq_vret C hret hlk (Nat.le_of_ble_eq_true rfl) (Nat.le_of_ble_eq_true rfl) hL ⟨rfl, hq_Sput (hq_Sput hq_S0 u45 (by omega) (by omega)) u48 (by omega) (by omega)⟩ d_X_filter_43
set_option maxHeartbeats 4000000 in
set_option maxRecDepth 100000 in
theorem c_disturb (l : Launch) (D : va_G) (cI cZ cN cJ : ClassId) (lo : Nat) (x n : Nat) (N : Nat → Nat → Int32) (R : Nat → Nat → Nat → Int32) (lev tot : Nat → Int32) (j : Nat) (hn : n ≤ 4) (hj : j < n) (t i : Nat) (hlo : lo ≤ x) (ht : N j 15 = nI t) (ht2 : t < 201) (h1 : 1 ≤ i) (h2 : i ≤ 200) : hq_M l y_X_disturb b_X_disturb 4 none TB { frames := 3, cells := 0, slots := 0, locals := 80 } lo D vwCl (TY cI cZ cN cJ) [.ref (x), .int (nI j), .int (nI i)] (fun U => busP D cI cZ cN x n N R lev tot U.heap) (fun H v H' => v = none ∧ hq_S x (4 + 10 * n) H H') := by
  refine hq_ofW (by decide) (Nat.le_of_ble_eq_true rfl) ?_
  intro p e s m below meth c ls C hml hret hlk hnm hl hP
  obtain ⟨kB, kN⟩ := hP
  have hL : hq_L lo [] := hq_L0
  have hl : lv_has ls 4 [(0, .ref (x)), (1, .int (nI j)), (2, .int (nI i))] := hl
  have k0 : va_at D vwCl (x, .inr (5, [.ref (x + 3), .ref (x + 1), .ref (x + 2)])) s.heap := kB 0 (by decide)
  refine lv_aload_n C.1 C.2.1 d_X_disturb_0 rfl (lv_at hl 0 rfl) ?_
  refine lv_iload_n C.1 C.2.1 d_X_disturb_1 rfl (lv_at hl 1 rfl) ?_
  refine hq_callV (lo := lo) (As := [.int (nI j)]) (rest := []) C tb_good hml Y_X_32 (c_nodeOf l D cI cZ cN cJ lo x n j N R lev tot hn hj) k0 rfl (fun _ _ _ _ h => h) (fun U hU hW => by show busP D cI cZ cN x n N R lev tot U.heap; rw [hU]; exact ⟨kB, kN⟩) hL hl.1 rfl rfl ⟨⟨Nat.le_of_ble_eq_true rfl, Nat.le_of_ble_eq_true rfl⟩, Nat.le_of_ble_eq_true rfl, Nat.le_of_ble_eq_true rfl⟩ (Nat.le_of_ble_eq_true rfl) d_X_disturb_2 (fun v H41 locs hp hL => ?_)
  obtain ⟨rfl, rfl⟩ := hp
  refine W.eq (g2 := F0 m 5 ls [.ref (x + 4 + 10 * j)]) rfl ?_
  have m0 : va_at D vwCl (x + 4 + 10 * j, .inr (3, [.ref (x + 4 + 10 * j + 1), .ref (x + 4 + 10 * j + 3), .ref (x + 4 + 10 * j + 5), .ref (x + 4 + 10 * j + 7), .ref (x + 4 + 10 * j + 9), .int (N j 0), .int (N j 1), .int (N j 2), .int (N j 3), .int (N j 4), .int (N j 5), .int (N j 6), .int (N j 7), .int (N j 8), .int (N j 9), .int (N j 10), .int (N j 11), .int (N j 12)])) s.heap := kN j hj 0 (by decide)
  have m5 : va_at D vwCl (x + 4 + 10 * j + 5, .inr (1, [.ref (x + 4 + 10 * j + 6), .int (N j 15)])) s.heap := kN j hj 5 (by decide)
  have m6 : va_at D vwCl (x + 4 + 10 * j + 6, .inl (cZ, 201, .inl (R j 2))) s.heap := kN j hj 6 (by decide)
  refine lv_astore_n C.1 C.2.1 d_X_disturb_5 rfl hl (by decide) rfl (lv' := [(3, .ref (x + 4 + 10 * j)), (0, .ref (x)), (1, .int (nI j)), (2, .int (nI i))]) (fun ls hl => ?_)
  refine lv_iload_n C.1 C.2.1 d_X_disturb_6 rfl (lv_at hl 3 rfl) ?_
  refine hq_callS (lo := lo) (As := [.int (nI i)]) (rest := []) C tb_good hml Y_X_85 (c_checkBitTimes l D cI cZ cN cJ lo (nI i) (nI_nlt (a := i) (b := 1) h1 (by omega)) (nI_le (b := 200) h2 (by decide))) (fun _ _ _ _ h => h) (fun U hU hW => trivial) hL hl.1 rfl rfl ⟨⟨Nat.le_of_ble_eq_true rfl, Nat.le_of_ble_eq_true rfl⟩, Nat.le_of_ble_eq_true rfl, Nat.le_of_ble_eq_true rfl⟩ (Nat.le_of_ble_eq_true rfl) d_X_disturb_7 (fun v H42 locs hp hL => ?_)
  obtain ⟨rfl, rfl⟩ := hp
  refine W.eq (g2 := F0 m 10 ls []) rfl ?_
  refine lv_aload_n C.1 C.2.1 d_X_disturb_10 rfl (lv_at hl 0 rfl) ?_
  refine hq_get (v := .ref (x + 4 + 10 * j + 5)) C f_X_88 m0 rfl d_X_disturb_11 ?_
  refine lv_iload_n C.1 C.2.1 d_X_disturb_14 rfl (lv_at hl 3 rfl) ?_
  have m5t : va_at D vwCl (x + 4 + 10 * j + 5, .inr (1, [.ref (x + 4 + 10 * j + 5 + 1), .int (nI t)])) s.heap := by rw [← ht]; exact m5
  refine hq_callV (lo := lo) (As := [.int (nI i)]) (rest := []) C tb_good hml Y_X_92 (c_mark l D cI cZ cN cJ lo (x + 4 + 10 * j + 5) t i (R j 2) (by omega) ht2 h2) m5 rfl (fun _ _ _ _ h => h) (fun U hU hW => ⟨by rw [hU]; exact m5t, by rw [hU]; exact m6⟩) hL hl.1 rfl rfl ⟨⟨Nat.le_of_ble_eq_true rfl, Nat.le_of_ble_eq_true rfl⟩, Nat.le_of_ble_eq_true rfl, Nat.le_of_ble_eq_true rfl⟩ (Nat.le_of_ble_eq_true rfl) d_X_disturb_15 (fun v H43 locs hp hL => ?_)
  obtain ⟨rfl, hS⟩ := hp
  refine W.eq (g2 := F0 m 18 ls []) rfl ?_
  exact hq_vret C hret hlk (Nat.le_of_ble_eq_true rfl) (Nat.le_of_ble_eq_true rfl) hL ⟨rfl, hq_Scall hq_S0 hS (by omega) (by omega)⟩ d_X_disturb_18
set_option maxHeartbeats 4000000 in
set_option maxRecDepth 100000 in
theorem c_request (l : Launch) (D : va_G) (cI cZ cN cJ : ClassId) (lo : Nat) (x n : Nat) (N : Nat → Nat → Int32) (R : Nat → Nat → Nat → Int32) (lev tot : Nat → Int32) (j : Nat) (hn : n ≤ 4) (hj : j < n) (k : Nat) (a b d : Int32) (hlo : lo ≤ x) (hq : rq a b d) (hst : ¬ N j 0 = 7) (hk : N j 13 = nI k) (hk4 : k < 4) : hq_M l y_X_request b_X_request 6 (some .int) TB { frames := 3, cells := 0, slots := 0, locals := 80 } lo D vwCl (TY cI cZ cN cJ) [.ref (x), .int (nI j), .int (a), .int (b), .int (d)] (fun U => busP D cI cZ cN x n N R lev tot U.heap) (fun H v H' => v = some (.int (nI (k + 1))) ∧ hq_S x (4 + 10 * n) H H') := by
  refine hq_ofW (by decide) (Nat.le_of_ble_eq_true rfl) ?_
  intro p e s m below meth c ls C hml hret hlk hnm hl hP
  obtain ⟨kB, kN⟩ := hP
  have hL : hq_L lo [] := hq_L0
  have hl : lv_has ls 6 [(0, .ref (x)), (1, .int (nI j)), (2, .int (a)), (3, .int (b)), (4, .int (d))] := hl
  have k0 : va_at D vwCl (x, .inr (5, [.ref (x + 3), .ref (x + 1), .ref (x + 2)])) s.heap := kB 0 (by decide)
  obtain ⟨q1, q2, q3, q4, q5⟩ := hq
  refine lv_aload_n C.1 C.2.1 d_X_request_0 rfl (lv_at hl 0 rfl) ?_
  refine lv_iload_n C.1 C.2.1 d_X_request_1 rfl (lv_at hl 1 rfl) ?_
  refine hq_callV (lo := lo) (As := [.int (nI j)]) (rest := []) C tb_good hml Y_X_32 (c_nodeOf l D cI cZ cN cJ lo x n j N R lev tot hn hj) k0 rfl (fun _ _ _ _ h => h) (fun U hU hW => by show busP D cI cZ cN x n N R lev tot U.heap; rw [hU]; exact ⟨kB, kN⟩) hL hl.1 rfl rfl ⟨⟨Nat.le_of_ble_eq_true rfl, Nat.le_of_ble_eq_true rfl⟩, Nat.le_of_ble_eq_true rfl, Nat.le_of_ble_eq_true rfl⟩ (Nat.le_of_ble_eq_true rfl) d_X_request_2 (fun v H41 locs hp hL => ?_)
  obtain ⟨rfl, rfl⟩ := hp
  refine W.eq (g2 := F0 m 5 ls [.ref (x + 4 + 10 * j)]) rfl ?_
  have m0 : va_at D vwCl (x + 4 + 10 * j, .inr (3, [.ref (x + 4 + 10 * j + 1), .ref (x + 4 + 10 * j + 3), .ref (x + 4 + 10 * j + 5), .ref (x + 4 + 10 * j + 7), .ref (x + 4 + 10 * j + 9), .int (N j 0), .int (N j 1), .int (N j 2), .int (N j 3), .int (N j 4), .int (N j 5), .int (N j 6), .int (N j 7), .int (N j 8), .int (N j 9), .int (N j 10), .int (N j 11), .int (N j 12)])) s.heap := kN j hj 0 (by decide)
  have m1 : va_at D vwCl (x + 4 + 10 * j + 1, .inr (2, [.ref (x + 4 + 10 * j + 2), .int (N j 13)])) s.heap := kN j hj 1 (by decide)
  have m2 : va_at D vwCl (x + 4 + 10 * j + 2, .inl (cI, 4, .inl (R j 0))) s.heap := kN j hj 2 (by decide)
  refine lv_astore C.1 C.2.1 d_X_request_5 hl (by decide) rfl (lv' := [(5, .ref (x + 4 + 10 * j)), (0, .ref (x)), (1, .int (nI j)), (2, .int (a)), (3, .int (b)), (4, .int (d))]) (fun ls hl => ?_)
  refine lv_iload_n C.1 C.2.1 d_X_request_7 rfl (lv_at hl 3 rfl) ?_
  refine hq_callS (lo := lo) (As := [.int (a)]) (rest := []) C tb_good hml Y_X_36 (c_isEleven l D cI cZ cN cJ lo a) (fun _ _ _ _ h => h) (fun U hU hW => trivial) hL hl.1 rfl rfl ⟨⟨Nat.le_of_ble_eq_true rfl, Nat.le_of_ble_eq_true rfl⟩, Nat.le_of_ble_eq_true rfl, Nat.le_of_ble_eq_true rfl⟩ (Nat.le_of_ble_eq_true rfl) d_X_request_8 (fun v H42 locs hp hL => ?_)
  obtain ⟨rfl, rfl⟩ := hp
  refine W.eq (g2 := F0 m 11 ls [.int (el a)]) rfl ?_
  refine lv_if_eq (tgt := 39) C.1 C.2.1 d_X_request_11 (by decide) (fun hn => absurd hn (q1)) (fun _ => ?_)
  refine lv_iload_n C.1 C.2.1 d_X_request_14 rfl (lv_at hl 4 rfl) ?_
  refine lv_if_lt (tgt := 39) C.1 C.2.1 d_X_request_15 (by decide) (fun hn => absurd hn (q2)) (fun _ => ?_)
  refine lv_iload_n C.1 C.2.1 d_X_request_18 rfl (lv_at hl 4 rfl) ?_
  refine lv_iconst (v := 2) C.1 C.2.1 d_X_request_19 (by decide) ?_
  refine lv_icmp_gt (tgt := 39) C.1 C.2.1 d_X_request_20 (by decide) (fun hn => absurd hn (q3)) (fun _ => ?_)
  refine lv_iload C.1 C.2.1 d_X_request_23 (lv_at hl 5 rfl) ?_
  refine lv_if_lt (tgt := 39) C.1 C.2.1 d_X_request_25 (by decide) (fun hn => absurd hn (q4)) (fun _ => ?_)
  refine lv_iload C.1 C.2.1 d_X_request_28 (lv_at hl 5 rfl) ?_
  refine lv_iconst (v := 1) C.1 C.2.1 d_X_request_30 (by decide) ?_
  refine lv_bipush (v := 8) C.1 C.2.1 d_X_request_31 (by decide) ?_
  refine lv_iload_n C.1 C.2.1 d_X_request_33 rfl (lv_at hl 4 rfl) ?_
  refine lv_imul C.1 C.2.1 d_X_request_34 ?_
  refine lv_ishl C.1 C.2.1 d_X_request_35 ?_
  refine lv_icmp_lt (tgt := 49) C.1 C.2.1 d_X_request_36 (by decide) (fun _ => ?_) (fun hn => absurd (q5) hn)
  refine lv_aload C.1 C.2.1 d_X_request_49 (lv_at hl 0 rfl) ?_
  refine hq_get (v := .int (N j 0)) C f_X_47 m0 rfl d_X_request_51 ?_
  refine lv_bipush (v := 7) C.1 C.2.1 d_X_request_54 (by decide) ?_
  refine lv_icmp_eq (tgt := 70) C.1 C.2.1 d_X_request_56 (by decide) (fun hn => absurd hn (hst)) (fun _ => ?_)
  refine lv_aload C.1 C.2.1 d_X_request_59 (lv_at hl 0 rfl) ?_
  refine hq_get (v := .ref (x + 4 + 10 * j + 1)) C f_X_51 m0 rfl d_X_request_61 ?_
  have m1k : va_at D vwCl (x + 4 + 10 * j + 1, .inr (2, [.ref (x + 4 + 10 * j + 1 + 1), .int (nI k)])) s.heap := by rw [← hk]; exact m1
  refine hq_callV (lo := lo) (As := []) (rest := []) C tb_good hml Y_X_55 (c_isFull l D cI cZ cN cJ lo (x + 4 + 10 * j + 1) (x + 4 + 10 * j + 1 + 1) (nI k)) m1 rfl (fun _ _ _ _ h => h) (fun U hU hW => by show va_at D vwCl (x + 4 + 10 * j + 1, .inr (2, [.ref (x + 4 + 10 * j + 1 + 1), .int (nI k)])) U.heap; rw [hU]; exact m1k) hL hl.1 rfl rfl ⟨⟨Nat.le_of_ble_eq_true rfl, Nat.le_of_ble_eq_true rfl⟩, Nat.le_of_ble_eq_true rfl, Nat.le_of_ble_eq_true rfl⟩ (Nat.le_of_ble_eq_true rfl) d_X_request_64 (fun v H43 locs hp hL => ?_)
  obtain ⟨rfl, rfl⟩ := hp
  refine W.eq (g2 := F0 m 67 ls [.int (fl (nI k))]) rfl ?_
  have hfl : fl (nI k) = 0 := by unfold fl; rw [if_pos (show nI k < 4 from nI_lt hk4 (by decide))]
  refine lv_if_eq (tgt := 80) C.1 C.2.1 d_X_request_67 (by decide) (fun _ => ?_) (fun hn => absurd (hfl) hn)
  refine lv_aload C.1 C.2.1 d_X_request_80 (lv_at hl 0 rfl) ?_
  refine hq_get (v := .ref (x + 4 + 10 * j + 1)) C f_X_51 m0 rfl d_X_request_82 ?_
  refine lv_iload_n C.1 C.2.1 d_X_request_85 rfl (lv_at hl 3 rfl) ?_
  refine lv_iload_n C.1 C.2.1 d_X_request_86 rfl (lv_at hl 4 rfl) ?_
  refine lv_iload C.1 C.2.1 d_X_request_87 (lv_at hl 5 rfl) ?_
  refine hq_callS (lo := lo) (As := [.int (a), .int (b), .int (d)]) (rest := [.ref (x + 4 + 10 * j + 1)]) C tb_good hml Y_X_66 (c_packed l D cI cZ cN cJ lo a b d) (fun _ _ _ _ h => h) (fun U hU hW => trivial) hL hl.1 rfl rfl ⟨⟨Nat.le_of_ble_eq_true rfl, Nat.le_of_ble_eq_true rfl⟩, Nat.le_of_ble_eq_true rfl, Nat.le_of_ble_eq_true rfl⟩ (Nat.le_of_ble_eq_true rfl) d_X_request_89 (fun v H44 locs hp hL => ?_)
  obtain ⟨rfl, rfl⟩ := hp
  refine W.eq (g2 := F0 m 92 ls [.int (a + 2048 * b + 8192 * d), .ref (x + 4 + 10 * j + 1)]) rfl ?_
  refine hq_callV (lo := lo) (As := [.int (a + 2048 * b + 8192 * d)]) (rest := []) C tb_good hml Y_X_70 (c_add l D cI cZ cN cJ lo (x + 4 + 10 * j + 1) k (a + 2048 * b + 8192 * d) (R j 0) (by omega) hk4) m1 rfl (fun _ _ _ _ h => h) (fun U hU hW => ⟨by rw [hU]; exact m1k, by rw [hU]; exact m2⟩) hL hl.1 rfl rfl ⟨⟨Nat.le_of_ble_eq_true rfl, Nat.le_of_ble_eq_true rfl⟩, Nat.le_of_ble_eq_true rfl, Nat.le_of_ble_eq_true rfl⟩ (Nat.le_of_ble_eq_true rfl) d_X_request_92 (fun v H45 locs hp hL => ?_)
  obtain ⟨rfl, m1n, hS⟩ := hp
  refine W.eq (g2 := F0 m 95 ls []) rfl ?_
  refine lv_aload C.1 C.2.1 d_X_request_95 (lv_at hl 0 rfl) ?_
  have k46 := hq_as m0 hS (by omega)
  refine hq_get (v := .ref (x + 4 + 10 * j + 1)) C f_X_51 k46 rfl d_X_request_97 ?_
  refine hq_get (v := .int (nI (k + 1))) C f_X_74 m1n rfl d_X_request_100 ?_
  exact hq_iret C hret hlk (Nat.le_of_ble_eq_true rfl) (Nat.le_of_ble_eq_true rfl) hL ⟨rfl, hq_Scall hq_S0 hS (by omega) (by omega)⟩ d_X_request_103
