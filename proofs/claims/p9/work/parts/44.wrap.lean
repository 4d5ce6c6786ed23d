/-! The law's wrappers: a call that throws is answered 1 (or 2), one that answers 0, its number in out. -/
set_option maxRecDepth 100000 in
theorem cl_A : Cond.classLink R_L 13 "java/lang/IllegalArgumentException" ∈ TB ∧ Cond.classLink R_L 15 "java/lang/IllegalStateException" ∈ TB := ⟨by decide +kernel, by decide +kernel⟩
set_option maxRecDepth 100000 in
theorem Y_L_request : hq_YW TB R_L 54 y_L_request b_L_request 7 (some .int) [(0, 14, 17, 13), (0, 14, 21, 15)] 6 := ⟨tb_at 226 rfl rfl, by decide +kernel, by decide +kernel, by decide +kernel, by decide +kernel, by decide +kernel, by decide +kernel⟩
set_option maxRecDepth 100000 in
theorem Y_L_filter : hq_YW TB R_L 58 y_L_filter b_L_filter 5 (some .int) [(0, 7, 10, 13)] 4 := ⟨tb_at 338 rfl rfl, by decide +kernel, by decide +kernel, by decide +kernel, by decide +kernel, by decide +kernel, by decide +kernel⟩
set_option maxRecDepth 100000 in
theorem Y_L_disturb : hq_YW TB R_L 62 y_L_disturb b_L_disturb 4 (some .int) [(0, 6, 9, 13)] 3 := ⟨tb_at 346 rfl rfl, by decide +kernel, by decide +kernel, by decide +kernel, by decide +kernel, by decide +kernel, by decide +kernel⟩
set_option maxRecDepth 100000 in
theorem Y_L_pass : hq_YW TB R_L 66 y_L_pass b_L_pass 4 (some .int) [(0, 9, 12, 13)] 3 := ⟨tb_at 364 rfl rfl, by decide +kernel, by decide +kernel, by decide +kernel, by decide +kernel, by decide +kernel, by decide +kernel⟩
set_option maxRecDepth 100000 in
theorem Y_L_state : hq_YW TB R_L 74 y_L_state b_L_state 4 (some .int) [(0, 9, 12, 13)] 3 := ⟨tb_at 572 rfl rfl, by decide +kernel, by decide +kernel, by decide +kernel, by decide +kernel, by decide +kernel, by decide +kernel⟩
set_option maxRecDepth 100000 in
theorem Y_L_count : hq_YW TB R_L 77 y_L_count b_L_count 5 (some .int) [(0, 10, 13, 13)] 4 := ⟨tb_at 579 rfl rfl, by decide +kernel, by decide +kernel, by decide +kernel, by decide +kernel, by decide +kernel, by decide +kernel⟩
set_option maxRecDepth 100000 in
theorem Y_L_take : hq_YW TB R_L 81 y_L_take b_L_take 4 (some .int) [(0, 9, 12, 13), (0, 9, 15, 15)] 3 := ⟨tb_at 587 rfl rfl, by decide +kernel, by decide +kernel, by decide +kernel, by decide +kernel, by decide +kernel, by decide +kernel⟩
set_option maxRecDepth 100000 in
theorem Y_L_total : hq_YW TB R_L 88 y_L_total b_L_total 4 (some .int) [(0, 9, 12, 13)] 3 := ⟨tb_at 596 rfl rfl, by decide +kernel, by decide +kernel, by decide +kernel, by decide +kernel, by decide +kernel, by decide +kernel⟩
set_option maxHeartbeats 4000000 in
set_option maxRecDepth 100000 in
theorem w_request_A (l : Launch) (D : va_G) (cI cZ cN cJ : ClassId) (lo : Nat) (x n : Nat) (N : Nat → Nat → Int32) (R : Nat → Nat → Nat → Int32) (lev tot : Nat → Int32) (o : Nat) (pa pb pd pe : Int32) (inner : hq_T l y_X_request b_X_request 6 (some .int) TB { frames := 7, cells := 1, slots := 6, locals := 130 } D vwCl (TY cI cZ cN cJ) [.ref x, .int pa, .int pb, .int pd, .int pe] (fun U => hq_E lo U ∧ busP D cI cZ cN x n N R lev tot U.heap) "java/lang/IllegalArgumentException") : hq_MW l y_L_request b_L_request 7 (some .int) [(0, 14, 17, 13), (0, 14, 21, 15)] TB { frames := 8, cells := 1, slots := 6, locals := 160 } lo D vwCl (TY cI cZ cN cJ) [.ref (x), .int (pa), .int (pb), .int (pd), .int (pe), .ref (o)] (fun U => hq_E lo U ∧ busP D cI cZ cN x n N R lev tot U.heap) (fun H v H' => v = some (.int 1) ∧ hq_O H.size H H' ∧ H.size ≤ H'.size) := by
  refine hq_ofWW (by decide) (Nat.le_of_ble_eq_true rfl) ?_
  intro p e s m below meth c ls C hml hret hlk htab hl hP
  have hl : lv_has ls 7 [(0, .ref (x)), (1, .int (pa)), (2, .int (pb)), (3, .int (pd)), (4, .int (pe)), (5, .ref (o))] := hl
  obtain ⟨hE, hBus⟩ := hP
  have k0 : va_at D vwCl (x, .inr (5, [.ref (x + 3), .ref (x + 1), .ref (x + 2)])) s.heap := hBus.1 0 (by decide)
  refine lv_aload C.1 C.2.1 d_L_request_0 (lv_at hl 5 rfl) ?_
  refine lv_iconst (v := 0) C.1 C.2.1 d_L_request_2 (by decide) ?_
  refine lv_aload_n C.1 C.2.1 d_L_request_3 rfl (lv_at hl 0 rfl) ?_
  refine lv_iload_n C.1 C.2.1 d_L_request_4 rfl (lv_at hl 1 rfl) ?_
  refine lv_iload_n C.1 C.2.1 d_L_request_5 rfl (lv_at hl 2 rfl) ?_
  refine lv_iload_n C.1 C.2.1 d_L_request_6 rfl (lv_at hl 3 rfl) ?_
  refine lv_iload C.1 C.2.1 d_L_request_7 (lv_at hl 4 rfl) ?_
  refine hq_tcallV (As := [.int (pa), .int (pb), .int (pd), .int (pe)]) (rest := [.int (0), .ref (o)]) C tb_good hml Y_L_7 inner k0 rfl (fun _ _ _ _ h => ⟨hq_E.call h.1, h.2⟩) (fun U hU hW => ⟨hE.move hW (by rw [hU]; exact hq_O0), by show busP D cI cZ cN x n N R lev tot U.heap; rw [hU]; exact hBus⟩) hl.1 rfl rfl ⟨⟨Nat.le_of_ble_eq_true rfl, Nat.le_of_ble_eq_true rfl⟩, Nat.le_of_ble_eq_true rfl, Nat.le_of_ble_eq_true rfl⟩ (Nat.le_of_ble_eq_true rfl) d_L_request_9 (fun q9 ce9 H9 hO9 hz9 hce9 hcv9 hcl9 => ?_)
  obtain ⟨x9, y9, hx9, ⟨h91, h92, h93, h94⟩, -⟩ := hq_tab2 htab
  refine hq_catch (own := R_L) (name := "java/lang/IllegalArgumentException") C.2.2.1 [] x9 [y9] hx9 (fun z hz => by cases hz) (by simp [covers, h91, h92]) (by rw [h94]; decide) (by rw [h94]; exact C.2.2.2.1 _ cl_A.1) (va_Nw.use rfl hE.2.2.2.2.2.1) hce9 hcv9 hcl9 ?_
  rw [h93]
  refine lv_astore C.1 C.2.1 d_L_request_17 hl (by decide) rfl (lv' := [(6, .ref (q9)), (0, .ref (x)), (1, .int (pa)), (2, .int (pb)), (3, .int (pd)), (4, .int (pe)), (5, .ref (o))]) (fun ls hl => ?_)
  refine lv_iconst (v := 1) C.1 C.2.1 d_L_request_19 (by decide) ?_
  exact hq_iret C hret hlk (Nat.le_of_ble_eq_true rfl) (Nat.le_of_ble_eq_true rfl) hq_L0 ⟨rfl, hO9, hz9⟩ d_L_request_20
set_option maxHeartbeats 4000000 in
set_option maxRecDepth 100000 in
theorem w_request_S (l : Launch) (D : va_G) (cI cZ cN cJ : ClassId) (lo : Nat) (x n : Nat) (N : Nat → Nat → Int32) (R : Nat → Nat → Nat → Int32) (lev tot : Nat → Int32) (o : Nat) (pa pb pd pe : Int32) (inner : hq_T l y_X_request b_X_request 6 (some .int) TB { frames := 7, cells := 1, slots := 6, locals := 130 } D vwCl (TY cI cZ cN cJ) [.ref x, .int pa, .int pb, .int pd, .int pe] (fun U => hq_E lo U ∧ busP D cI cZ cN x n N R lev tot U.heap) "java/lang/IllegalStateException") : hq_MW l y_L_request b_L_request 7 (some .int) [(0, 14, 17, 13), (0, 14, 21, 15)] TB { frames := 8, cells := 1, slots := 6, locals := 160 } lo D vwCl (TY cI cZ cN cJ) [.ref (x), .int (pa), .int (pb), .int (pd), .int (pe), .ref (o)] (fun U => hq_E lo U ∧ va_Nc "java/lang/IllegalStateException" "java/lang/IllegalArgumentException" U ∧ busP D cI cZ cN x n N R lev tot U.heap) (fun H v H' => v = some (.int 2) ∧ hq_O H.size H H' ∧ H.size ≤ H'.size) := by
  refine hq_ofWW (by decide) (Nat.le_of_ble_eq_true rfl) ?_
  intro p e s m below meth c ls C hml hret hlk htab hl hP
  have hl : lv_has ls 7 [(0, .ref (x)), (1, .int (pa)), (2, .int (pb)), (3, .int (pd)), (4, .int (pe)), (5, .ref (o))] := hl
  obtain ⟨hE, hNc, hBus⟩ := hP
  have k0 : va_at D vwCl (x, .inr (5, [.ref (x + 3), .ref (x + 1), .ref (x + 2)])) s.heap := hBus.1 0 (by decide)
  refine lv_aload C.1 C.2.1 d_L_request_0 (lv_at hl 5 rfl) ?_
  refine lv_iconst (v := 0) C.1 C.2.1 d_L_request_2 (by decide) ?_
  refine lv_aload_n C.1 C.2.1 d_L_request_3 rfl (lv_at hl 0 rfl) ?_
  refine lv_iload_n C.1 C.2.1 d_L_request_4 rfl (lv_at hl 1 rfl) ?_
  refine lv_iload_n C.1 C.2.1 d_L_request_5 rfl (lv_at hl 2 rfl) ?_
  refine lv_iload_n C.1 C.2.1 d_L_request_6 rfl (lv_at hl 3 rfl) ?_
  refine lv_iload C.1 C.2.1 d_L_request_7 (lv_at hl 4 rfl) ?_
  refine hq_tcallV (As := [.int (pa), .int (pb), .int (pd), .int (pe)]) (rest := [.int (0), .ref (o)]) C tb_good hml Y_L_7 inner k0 rfl (fun _ _ _ _ h => ⟨hq_E.call h.1, h.2⟩) (fun U hU hW => ⟨hE.move hW (by rw [hU]; exact hq_O0), by show busP D cI cZ cN x n N R lev tot U.heap; rw [hU]; exact hBus⟩) hl.1 rfl rfl ⟨⟨Nat.le_of_ble_eq_true rfl, Nat.le_of_ble_eq_true rfl⟩, Nat.le_of_ble_eq_true rfl, Nat.le_of_ble_eq_true rfl⟩ (Nat.le_of_ble_eq_true rfl) d_L_request_9 (fun q9 ce9 H9 hO9 hz9 hce9 hcv9 hcl9 => ?_)
  obtain ⟨y9, x9, hx9, ⟨g1, g2, g3, g4⟩, h91, h92, h93, h94⟩ := hq_tab2 htab
  refine hq_catch (own := R_L) (name := "java/lang/IllegalStateException") C.2.2.1 [y9] x9 [] hx9 (fun z hz => by rw [List.mem_singleton.mp hz]; refine Or.inr ⟨by rw [g4]; decide, "java/lang/IllegalArgumentException", by rw [g4]; exact C.2.2.2.1 _ cl_A.1, fun c1 c2 e1 e2 => ?_⟩; obtain ⟨d1, d2, f1, f2, f3⟩ := hNc; cases e1.symm.trans f1; cases e2.symm.trans f2; exact f3) (by simp [covers, h91, h92]) (by rw [h94]; decide) (by rw [h94]; exact C.2.2.2.1 _ cl_A.2) (va_Nw.use rfl hE.2.2.2.2.2.2.1) hce9 hcv9 hcl9 ?_
  rw [h93]
  refine lv_astore C.1 C.2.1 d_L_request_21 hl (by decide) rfl (lv' := [(6, .ref (q9)), (0, .ref (x)), (1, .int (pa)), (2, .int (pb)), (3, .int (pd)), (4, .int (pe)), (5, .ref (o))]) (fun ls hl => ?_)
  refine lv_iconst (v := 2) C.1 C.2.1 d_L_request_23 (by decide) ?_
  exact hq_iret C hret hlk (Nat.le_of_ble_eq_true rfl) (Nat.le_of_ble_eq_true rfl) hq_L0 ⟨rfl, hO9, hz9⟩ d_L_request_24
set_option maxHeartbeats 4000000 in
set_option maxRecDepth 100000 in
theorem w_request_R (l : Launch) (D : va_G) (cI cZ cN cJ : ClassId) (lo : Nat) (x n o : Nat) (pa pb pd pe r : Int32) (f : Nat → Int64) (hlo : lo ≤ x) (ho : x + (4 + 10 * n) ≤ o) (Pi Pj : Heap → Prop) (hmo : ∀ (e : va_E) (H H1 : Heap), Pj H → hq_U D vwCl o e H H1 → Pj H1) (hk0 : ∀ H, Pi H → va_at D vwCl (x, .inr (5, [.ref (x + 3), .ref (x + 1), .ref (x + 2)])) H) (inner : hq_M l y_X_request b_X_request 6 (some .int) TB { frames := 3, cells := 0, slots := 0, locals := 80 } lo D vwCl (TY cI cZ cN cJ) [.ref x, .int pa, .int pb, .int pd, .int pe] (fun U => Pi U.heap) (fun H v H' => v = some (.int r) ∧ Pj H' ∧ hq_S x (4 + 10 * n) H H')) : hq_MW l y_L_request b_L_request 7 (some .int) [(0, 14, 17, 13), (0, 14, 21, 15)] TB { frames := 4, cells := 0, slots := 0, locals := 120 } lo D vwCl (TY cI cZ cN cJ) [.ref (x), .int (pa), .int (pb), .int (pd), .int (pe), .ref (o)] (fun U => Pi U.heap ∧ va_at D vwCl (o, .inl (cJ, 1, .inr (.inl f))) U.heap) (fun H v H' => v = some (.int 0) ∧ va_at D vwCl (o, .inl (cJ, 1, .inr (.inl (vp_updL f 0 r.toInt64)))) H' ∧ Pj H' ∧ H'.size = H.size ∧ ∀ q : Nat, (q < x ∨ x + (4 + 10 * n) ≤ q) → q ≠ o → H'[q]? = H[q]?) := by
  refine hq_ofWW (by decide) (Nat.le_of_ble_eq_true rfl) ?_
  intro p e s m below meth c ls C hml hret hlk htab hl hP
  have hl : lv_has ls 7 [(0, .ref (x)), (1, .int (pa)), (2, .int (pb)), (3, .int (pd)), (4, .int (pe)), (5, .ref (o))] := hl
  have hL : hq_L lo [] := hq_L0
  obtain ⟨hPi, ko⟩ := hP
  have k0 := hk0 _ hPi
  refine lv_aload C.1 C.2.1 d_L_request_0 (lv_at hl 5 rfl) ?_
  refine lv_iconst (v := 0) C.1 C.2.1 d_L_request_2 (by decide) ?_
  refine lv_aload_n C.1 C.2.1 d_L_request_3 rfl (lv_at hl 0 rfl) ?_
  refine lv_iload_n C.1 C.2.1 d_L_request_4 rfl (lv_at hl 1 rfl) ?_
  refine lv_iload_n C.1 C.2.1 d_L_request_5 rfl (lv_at hl 2 rfl) ?_
  refine lv_iload_n C.1 C.2.1 d_L_request_6 rfl (lv_at hl 3 rfl) ?_
  refine lv_iload C.1 C.2.1 d_L_request_7 (lv_at hl 4 rfl) ?_
  refine hq_callV (lo := lo) (As := [.int (pa), .int (pb), .int (pd), .int (pe)]) (rest := [.int (0), .ref (o)]) C tb_good hml Y_L_7 inner k0 rfl (fun _ _ _ _ h => h) (fun U hU hW => by show Pi U.heap; rw [hU]; exact hPi) hL hl.1 rfl rfl ⟨⟨Nat.le_of_ble_eq_true rfl, Nat.le_of_ble_eq_true rfl⟩, Nat.le_of_ble_eq_true rfl, Nat.le_of_ble_eq_true rfl⟩ (Nat.le_of_ble_eq_true rfl) d_L_request_9 (fun v H41 locs hp hL => ?_)
  obtain ⟨rfl, hPj, hS⟩ := hp
  refine W.eq (g2 := F0 m 12 ls [.int (r), .int (0), .ref (o)]) rfl ?_
  refine lv_i2l (v := r.toInt64) C.1 C.2.1 d_L_request_12 rfl ?_
  have ko := hq_as ko hS (by omega)
  refine hq_last (lo := lo) C 3 rfl ko (show vp_in (nI 0) 1 from vp_in_nI (by decide) (by decide)) hL (by omega) d_L_request_13 (fun H9 locs u9 hL => ?_)
  refine lv_goto (tgt := 25) C.1 C.2.1 d_L_request_14 (by decide) ?_
  refine lv_iconst (v := 0) C.1 C.2.1 d_L_request_25 (by decide) ?_
  exact hq_iret C hret hlk (Nat.le_of_ble_eq_true rfl) (Nat.le_of_ble_eq_true rfl) hL ⟨rfl, u9.2.2, hmo _ _ _ hPj u9, u9.1.trans hS.1, fun q hq hqo => (u9.2.1 q hqo).trans (hS.2 q hq)⟩ d_L_request_26
set_option maxHeartbeats 4000000 in
set_option maxRecDepth 100000 in
theorem w_filter_A (l : Launch) (D : va_G) (cI cZ cN cJ : ClassId) (lo : Nat) (x n : Nat) (N : Nat → Nat → Int32) (R : Nat → Nat → Nat → Int32) (lev tot : Nat → Int32) (pa pb pd : Int32) (inner : hq_T l y_X_filter b_X_filter 5 none TB { frames := 7, cells := 1, slots := 6, locals := 130 } D vwCl (TY cI cZ cN cJ) [.ref x, .int pa, .int pb, .int pd] (fun U => hq_E lo U ∧ busP D cI cZ cN x n N R lev tot U.heap) "java/lang/IllegalArgumentException") : hq_MW l y_L_filter b_L_filter 5 (some .int) [(0, 7, 10, 13)] TB { frames := 8, cells := 1, slots := 6, locals := 160 } lo D vwCl (TY cI cZ cN cJ) [.ref (x), .int (pa), .int (pb), .int (pd)] (fun U => hq_E lo U ∧ busP D cI cZ cN x n N R lev tot U.heap) (fun H v H' => v = some (.int 1) ∧ hq_O H.size H H' ∧ H.size ≤ H'.size) := by
  refine hq_ofWW (by decide) (Nat.le_of_ble_eq_true rfl) ?_
  intro p e s m below meth c ls C hml hret hlk htab hl hP
  have hl : lv_has ls 5 [(0, .ref (x)), (1, .int (pa)), (2, .int (pb)), (3, .int (pd))] := hl
  obtain ⟨hE, hBus⟩ := hP
  have k0 : va_at D vwCl (x, .inr (5, [.ref (x + 3), .ref (x + 1), .ref (x + 2)])) s.heap := hBus.1 0 (by decide)
  refine lv_aload_n C.1 C.2.1 d_L_filter_0 rfl (lv_at hl 0 rfl) ?_
  refine lv_iload_n C.1 C.2.1 d_L_filter_1 rfl (lv_at hl 1 rfl) ?_
  refine lv_iload_n C.1 C.2.1 d_L_filter_2 rfl (lv_at hl 2 rfl) ?_
  refine lv_iload_n C.1 C.2.1 d_L_filter_3 rfl (lv_at hl 3 rfl) ?_
  refine hq_tcallV (As := [.int (pa), .int (pb), .int (pd)]) (rest := []) C tb_good hml Y_L_17 inner k0 rfl (fun _ _ _ _ h => ⟨hq_E.call h.1, h.2⟩) (fun U hU hW => ⟨hE.move hW (by rw [hU]; exact hq_O0), by show busP D cI cZ cN x n N R lev tot U.heap; rw [hU]; exact hBus⟩) hl.1 rfl rfl ⟨⟨Nat.le_of_ble_eq_true rfl, Nat.le_of_ble_eq_true rfl⟩, Nat.le_of_ble_eq_true rfl, Nat.le_of_ble_eq_true rfl⟩ (Nat.le_of_ble_eq_true rfl) d_L_filter_4 (fun q9 ce9 H9 hO9 hz9 hce9 hcv9 hcl9 => ?_)
  obtain ⟨x9, hx9, h91, h92, h93, h94⟩ := hq_tab1 htab
  refine hq_catch (own := R_L) (name := "java/lang/IllegalArgumentException") C.2.2.1 [] x9 [] hx9 (fun z hz => by cases hz) (by simp [covers, h91, h92]) (by rw [h94]; decide) (by rw [h94]; exact C.2.2.2.1 _ cl_A.1) (va_Nw.use rfl hE.2.2.2.2.2.1) hce9 hcv9 hcl9 ?_
  rw [h93]
  refine lv_astore C.1 C.2.1 d_L_filter_10 hl (by decide) rfl (lv' := [(4, .ref (q9)), (0, .ref (x)), (1, .int (pa)), (2, .int (pb)), (3, .int (pd))]) (fun ls hl => ?_)
  refine lv_iconst (v := 1) C.1 C.2.1 d_L_filter_12 (by decide) ?_
  exact hq_iret C hret hlk (Nat.le_of_ble_eq_true rfl) (Nat.le_of_ble_eq_true rfl) hq_L0 ⟨rfl, hO9, hz9⟩ d_L_filter_13
set_option maxHeartbeats 4000000 in
set_option maxRecDepth 100000 in
theorem w_filter_R (l : Launch) (D : va_G) (cI cZ cN cJ : ClassId) (lo : Nat) (x n : Nat) (pa pb pd : Int32) (hlo : lo ≤ x) (Pi Pj : Heap → Prop) (hk0 : ∀ H, Pi H → va_at D vwCl (x, .inr (5, [.ref (x + 3), .ref (x + 1), .ref (x + 2)])) H) (inner : hq_M l y_X_filter b_X_filter 5 none TB { frames := 2, cells := 0, slots := 0, locals := 60 } lo D vwCl (TY cI cZ cN cJ) [.ref x, .int pa, .int pb, .int pd] (fun U => Pi U.heap) (fun H v H' => v = none ∧ Pj H' ∧ hq_S x (4 + 10 * n) H H')) : hq_MW l y_L_filter b_L_filter 5 (some .int) [(0, 7, 10, 13)] TB { frames := 4, cells := 0, slots := 0, locals := 120 } lo D vwCl (TY cI cZ cN cJ) [.ref (x), .int (pa), .int (pb), .int (pd)] (fun U => Pi U.heap) (fun H v H' => v = some (.int 0) ∧ Pj H' ∧ hq_S x (4 + 10 * n) H H') := by
  refine hq_ofWW (by decide) (Nat.le_of_ble_eq_true rfl) ?_
  intro p e s m below meth c ls C hml hret hlk htab hl hP
  have hl : lv_has ls 5 [(0, .ref (x)), (1, .int (pa)), (2, .int (pb)), (3, .int (pd))] := hl
  have hL : hq_L lo [] := hq_L0
  have hPi := hP
  have k0 := hk0 _ hPi
  refine lv_aload_n C.1 C.2.1 d_L_filter_0 rfl (lv_at hl 0 rfl) ?_
  refine lv_iload_n C.1 C.2.1 d_L_filter_1 rfl (lv_at hl 1 rfl) ?_
  refine lv_iload_n C.1 C.2.1 d_L_filter_2 rfl (lv_at hl 2 rfl) ?_
  refine lv_iload_n C.1 C.2.1 d_L_filter_3 rfl (lv_at hl 3 rfl) ?_
  refine hq_callV (lo := lo) (As := [.int (pa), .int (pb), .int (pd)]) (rest := []) C tb_good hml Y_L_17 inner k0 rfl (fun _ _ _ _ h => h) (fun U hU hW => by show Pi U.heap; rw [hU]; exact hPi) hL hl.1 rfl rfl ⟨⟨Nat.le_of_ble_eq_true rfl, Nat.le_of_ble_eq_true rfl⟩, Nat.le_of_ble_eq_true rfl, Nat.le_of_ble_eq_true rfl⟩ (Nat.le_of_ble_eq_true rfl) d_L_filter_4 (fun v H41 locs hp hL => ?_)
  obtain ⟨rfl, hPj, hS⟩ := hp
  refine W.eq (g2 := F0 m 7 ls []) rfl ?_
  refine lv_goto (tgt := 14) C.1 C.2.1 d_L_filter_7 (by decide) ?_
  refine lv_iconst (v := 0) C.1 C.2.1 d_L_filter_14 (by decide) ?_
  exact hq_iret C hret hlk (Nat.le_of_ble_eq_true rfl) (Nat.le_of_ble_eq_true rfl) hL ⟨rfl, hPj, hS⟩ d_L_filter_15
set_option maxHeartbeats 4000000 in
set_option maxRecDepth 100000 in
theorem w_disturb_A (l : Launch) (D : va_G) (cI cZ cN cJ : ClassId) (lo : Nat) (x n : Nat) (N : Nat → Nat → Int32) (R : Nat → Nat → Nat → Int32) (lev tot : Nat → Int32) (pa pb : Int32) (inner : hq_T l y_X_disturb b_X_disturb 4 none TB { frames := 7, cells := 1, slots := 6, locals := 130 } D vwCl (TY cI cZ cN cJ) [.ref x, .int pa, .int pb] (fun U => hq_E lo U ∧ busP D cI cZ cN x n N R lev tot U.heap) "java/lang/IllegalArgumentException") : hq_MW l y_L_disturb b_L_disturb 4 (some .int) [(0, 6, 9, 13)] TB { frames := 8, cells := 1, slots := 6, locals := 160 } lo D vwCl (TY cI cZ cN cJ) [.ref (x), .int (pa), .int (pb)] (fun U => hq_E lo U ∧ busP D cI cZ cN x n N R lev tot U.heap) (fun H v H' => v = some (.int 1) ∧ hq_O H.size H H' ∧ H.size ≤ H'.size) := by
  refine hq_ofWW (by decide) (Nat.le_of_ble_eq_true rfl) ?_
  intro p e s m below meth c ls C hml hret hlk htab hl hP
  have hl : lv_has ls 4 [(0, .ref (x)), (1, .int (pa)), (2, .int (pb))] := hl
  obtain ⟨hE, hBus⟩ := hP
  have k0 : va_at D vwCl (x, .inr (5, [.ref (x + 3), .ref (x + 1), .ref (x + 2)])) s.heap := hBus.1 0 (by decide)
  refine lv_aload_n C.1 C.2.1 d_L_disturb_0 rfl (lv_at hl 0 rfl) ?_
  refine lv_iload_n C.1 C.2.1 d_L_disturb_1 rfl (lv_at hl 1 rfl) ?_
  refine lv_iload_n C.1 C.2.1 d_L_disturb_2 rfl (lv_at hl 2 rfl) ?_
  refine hq_tcallV (As := [.int (pa), .int (pb)]) (rest := []) C tb_good hml Y_L_21 inner k0 rfl (fun _ _ _ _ h => ⟨hq_E.call h.1, h.2⟩) (fun U hU hW => ⟨hE.move hW (by rw [hU]; exact hq_O0), by show busP D cI cZ cN x n N R lev tot U.heap; rw [hU]; exact hBus⟩) hl.1 rfl rfl ⟨⟨Nat.le_of_ble_eq_true rfl, Nat.le_of_ble_eq_true rfl⟩, Nat.le_of_ble_eq_true rfl, Nat.le_of_ble_eq_true rfl⟩ (Nat.le_of_ble_eq_true rfl) d_L_disturb_3 (fun q9 ce9 H9 hO9 hz9 hce9 hcv9 hcl9 => ?_)
  obtain ⟨x9, hx9, h91, h92, h93, h94⟩ := hq_tab1 htab
  refine hq_catch (own := R_L) (name := "java/lang/IllegalArgumentException") C.2.2.1 [] x9 [] hx9 (fun z hz => by cases hz) (by simp [covers, h91, h92]) (by rw [h94]; decide) (by rw [h94]; exact C.2.2.2.1 _ cl_A.1) (va_Nw.use rfl hE.2.2.2.2.2.1) hce9 hcv9 hcl9 ?_
  rw [h93]
  refine lv_astore_n C.1 C.2.1 d_L_disturb_9 rfl hl (by decide) rfl (lv' := [(3, .ref (q9)), (0, .ref (x)), (1, .int (pa)), (2, .int (pb))]) (fun ls hl => ?_)
  refine lv_iconst (v := 1) C.1 C.2.1 d_L_disturb_10 (by decide) ?_
  exact hq_iret C hret hlk (Nat.le_of_ble_eq_true rfl) (Nat.le_of_ble_eq_true rfl) hq_L0 ⟨rfl, hO9, hz9⟩ d_L_disturb_11
set_option maxHeartbeats 4000000 in
set_option maxRecDepth 100000 in
theorem w_disturb_R (l : Launch) (D : va_G) (cI cZ cN cJ : ClassId) (lo : Nat) (x n : Nat) (pa pb : Int32) (hlo : lo ≤ x) (Pi Pj : Heap → Prop) (hk0 : ∀ H, Pi H → va_at D vwCl (x, .inr (5, [.ref (x + 3), .ref (x + 1), .ref (x + 2)])) H) (inner : hq_M l y_X_disturb b_X_disturb 4 none TB { frames := 3, cells := 0, slots := 0, locals := 80 } lo D vwCl (TY cI cZ cN cJ) [.ref x, .int pa, .int pb] (fun U => Pi U.heap) (fun H v H' => v = none ∧ Pj H' ∧ hq_S x (4 + 10 * n) H H')) : hq_MW l y_L_disturb b_L_disturb 4 (some .int) [(0, 6, 9, 13)] TB { frames := 4, cells := 0, slots := 0, locals := 120 } lo D vwCl (TY cI cZ cN cJ) [.ref (x), .int (pa), .int (pb)] (fun U => Pi U.heap) (fun H v H' => v = some (.int 0) ∧ Pj H' ∧ hq_S x (4 + 10 * n) H H') := by
  refine hq_ofWW (by decide) (Nat.le_of_ble_eq_true rfl) ?_
  intro p e s m below meth c ls C hml hret hlk htab hl hP
  have hl : lv_has ls 4 [(0, .ref (x)), (1, .int (pa)), (2, .int (pb))] := hl
  have hL : hq_L lo [] := hq_L0
  have hPi := hP
  have k0 := hk0 _ hPi
  refine lv_aload_n C.1 C.2.1 d_L_disturb_0 rfl (lv_at hl 0 rfl) ?_
  refine lv_iload_n C.1 C.2.1 d_L_disturb_1 rfl (lv_at hl 1 rfl) ?_
  refine lv_iload_n C.1 C.2.1 d_L_disturb_2 rfl (lv_at hl 2 rfl) ?_
  refine hq_callV (lo := lo) (As := [.int (pa), .int (pb)]) (rest := []) C tb_good hml Y_L_21 inner k0 rfl (fun _ _ _ _ h => h) (fun U hU hW => by show Pi U.heap; rw [hU]; exact hPi) hL hl.1 rfl rfl ⟨⟨Nat.le_of_ble_eq_true rfl, Nat.le_of_ble_eq_true rfl⟩, Nat.le_of_ble_eq_true rfl, Nat.le_of_ble_eq_true rfl⟩ (Nat.le_of_ble_eq_true rfl) d_L_disturb_3 (fun v H41 locs hp hL => ?_)
  obtain ⟨rfl, hPj, hS⟩ := hp
  refine W.eq (g2 := F0 m 6 ls []) rfl ?_
  refine lv_goto (tgt := 12) C.1 C.2.1 d_L_disturb_6 (by decide) ?_
  refine lv_iconst (v := 0) C.1 C.2.1 d_L_disturb_12 (by decide) ?_
  exact hq_iret C hret hlk (Nat.le_of_ble_eq_true rfl) (Nat.le_of_ble_eq_true rfl) hL ⟨rfl, hPj, hS⟩ d_L_disturb_13
set_option maxHeartbeats 4000000 in
set_option maxRecDepth 100000 in
theorem w_pass_A (l : Launch) (D : va_G) (cI cZ cN cJ : ClassId) (lo : Nat) (x n : Nat) (N : Nat → Nat → Int32) (R : Nat → Nat → Nat → Int32) (lev tot : Nat → Int32) (o : Nat) (pa : Int32) (inner : hq_T l y_X_pass b_X_pass 4 (some .int) TB { frames := 7, cells := 1, slots := 6, locals := 130 } D vwCl (TY cI cZ cN cJ) [.ref x, .int pa] (fun U => hq_E lo U ∧ busP D cI cZ cN x n N R lev tot U.heap) "java/lang/IllegalArgumentException") : hq_MW l y_L_pass b_L_pass 4 (some .int) [(0, 9, 12, 13)] TB { frames := 8, cells := 1, slots := 6, locals := 160 } lo D vwCl (TY cI cZ cN cJ) [.ref (x), .int (pa), .ref (o)] (fun U => hq_E lo U ∧ busP D cI cZ cN x n N R lev tot U.heap) (fun H v H' => v = some (.int 1) ∧ hq_O H.size H H' ∧ H.size ≤ H'.size) := by
  refine hq_ofWW (by decide) (Nat.le_of_ble_eq_true rfl) ?_
  intro p e s m below meth c ls C hml hret hlk htab hl hP
  have hl : lv_has ls 4 [(0, .ref (x)), (1, .int (pa)), (2, .ref (o))] := hl
  obtain ⟨hE, hBus⟩ := hP
  have k0 : va_at D vwCl (x, .inr (5, [.ref (x + 3), .ref (x + 1), .ref (x + 2)])) s.heap := hBus.1 0 (by decide)
  refine lv_aload_n C.1 C.2.1 d_L_pass_0 rfl (lv_at hl 2 rfl) ?_
  refine lv_iconst (v := 0) C.1 C.2.1 d_L_pass_1 (by decide) ?_
  refine lv_aload_n C.1 C.2.1 d_L_pass_2 rfl (lv_at hl 0 rfl) ?_
  refine lv_iload_n C.1 C.2.1 d_L_pass_3 rfl (lv_at hl 1 rfl) ?_
  refine hq_tcallV (As := [.int (pa)]) (rest := [.int (0), .ref (o)]) C tb_good hml Y_L_25 inner k0 rfl (fun _ _ _ _ h => ⟨hq_E.call h.1, h.2⟩) (fun U hU hW => ⟨hE.move hW (by rw [hU]; exact hq_O0), by show busP D cI cZ cN x n N R lev tot U.heap; rw [hU]; exact hBus⟩) hl.1 rfl rfl ⟨⟨Nat.le_of_ble_eq_true rfl, Nat.le_of_ble_eq_true rfl⟩, Nat.le_of_ble_eq_true rfl, Nat.le_of_ble_eq_true rfl⟩ (Nat.le_of_ble_eq_true rfl) d_L_pass_4 (fun q9 ce9 H9 hO9 hz9 hce9 hcv9 hcl9 => ?_)
  obtain ⟨x9, hx9, h91, h92, h93, h94⟩ := hq_tab1 htab
  refine hq_catch (own := R_L) (name := "java/lang/IllegalArgumentException") C.2.2.1 [] x9 [] hx9 (fun z hz => by cases hz) (by simp [covers, h91, h92]) (by rw [h94]; decide) (by rw [h94]; exact C.2.2.2.1 _ cl_A.1) (va_Nw.use rfl hE.2.2.2.2.2.1) hce9 hcv9 hcl9 ?_
  rw [h93]
  refine lv_astore_n C.1 C.2.1 d_L_pass_12 rfl hl (by decide) rfl (lv' := [(3, .ref (q9)), (0, .ref (x)), (1, .int (pa)), (2, .ref (o))]) (fun ls hl => ?_)
  refine lv_iconst (v := 1) C.1 C.2.1 d_L_pass_13 (by decide) ?_
  exact hq_iret C hret hlk (Nat.le_of_ble_eq_true rfl) (Nat.le_of_ble_eq_true rfl) hq_L0 ⟨rfl, hO9, hz9⟩ d_L_pass_14
set_option maxHeartbeats 4000000 in
set_option maxRecDepth 100000 in
theorem w_pass_R (l : Launch) (D : va_G) (cI cZ cN cJ : ClassId) (lo : Nat) (x n o : Nat) (pa r : Int32) (f : Nat → Int64) (hlo : lo ≤ x) (ho : x + (4 + 10 * n) ≤ o) (Pi Pj : Heap → Prop) (hmo : ∀ (e : va_E) (H H1 : Heap), Pj H → hq_U D vwCl o e H H1 → Pj H1) (hk0 : ∀ H, Pi H → va_at D vwCl (x, .inr (5, [.ref (x + 3), .ref (x + 1), .ref (x + 2)])) H) (inner : hq_M l y_X_pass b_X_pass 4 (some .int) TB zzRm lo D vwCl (TY cI cZ cN cJ) [.ref x, .int pa] (fun U => Pi U.heap) (fun H v H' => v = some (.int r) ∧ Pj H' ∧ hq_S x (4 + 10 * n) H H')) : hq_MW l y_L_pass b_L_pass 4 (some .int) [(0, 9, 12, 13)] TB { frames := 8, cells := 0, slots := 0, locals := 190 } lo D vwCl (TY cI cZ cN cJ) [.ref (x), .int (pa), .ref (o)] (fun U => Pi U.heap ∧ va_at D vwCl (o, .inl (cJ, 1, .inr (.inl f))) U.heap) (fun H v H' => v = some (.int 0) ∧ va_at D vwCl (o, .inl (cJ, 1, .inr (.inl (vp_updL f 0 r.toInt64)))) H' ∧ Pj H' ∧ H'.size = H.size ∧ ∀ q : Nat, (q < x ∨ x + (4 + 10 * n) ≤ q) → q ≠ o → H'[q]? = H[q]?) := by
  refine hq_ofWW (by decide) (Nat.le_of_ble_eq_true rfl) ?_
  intro p e s m below meth c ls C hml hret hlk htab hl hP
  have hl : lv_has ls 4 [(0, .ref (x)), (1, .int (pa)), (2, .ref (o))] := hl
  have hL : hq_L lo [] := hq_L0
  obtain ⟨hPi, ko⟩ := hP
  have k0 := hk0 _ hPi
  refine lv_aload_n C.1 C.2.1 d_L_pass_0 rfl (lv_at hl 2 rfl) ?_
  refine lv_iconst (v := 0) C.1 C.2.1 d_L_pass_1 (by decide) ?_
  refine lv_aload_n C.1 C.2.1 d_L_pass_2 rfl (lv_at hl 0 rfl) ?_
  refine lv_iload_n C.1 C.2.1 d_L_pass_3 rfl (lv_at hl 1 rfl) ?_
  refine hq_callV (lo := lo) (As := [.int (pa)]) (rest := [.int (0), .ref (o)]) C tb_good hml Y_L_25 inner k0 rfl (fun _ _ _ _ h => h) (fun U hU hW => by show Pi U.heap; rw [hU]; exact hPi) hL hl.1 rfl rfl ⟨⟨Nat.le_of_ble_eq_true rfl, Nat.le_of_ble_eq_true rfl⟩, Nat.le_of_ble_eq_true rfl, Nat.le_of_ble_eq_true rfl⟩ (Nat.le_of_ble_eq_true rfl) d_L_pass_4 (fun v H41 locs hp hL => ?_)
  obtain ⟨rfl, hPj, hS⟩ := hp
  refine W.eq (g2 := F0 m 7 ls [.int (r), .int (0), .ref (o)]) rfl ?_
  refine lv_i2l (v := r.toInt64) C.1 C.2.1 d_L_pass_7 rfl ?_
  have ko := hq_as ko hS (by omega)
  refine hq_last (lo := lo) C 3 rfl ko (show vp_in (nI 0) 1 from vp_in_nI (by decide) (by decide)) hL (by omega) d_L_pass_8 (fun H9 locs u9 hL => ?_)
  refine lv_goto (tgt := 15) C.1 C.2.1 d_L_pass_9 (by decide) ?_
  refine lv_iconst (v := 0) C.1 C.2.1 d_L_pass_15 (by decide) ?_
  exact hq_iret C hret hlk (Nat.le_of_ble_eq_true rfl) (Nat.le_of_ble_eq_true rfl) hL ⟨rfl, u9.2.2, hmo _ _ _ hPj u9, u9.1.trans hS.1, fun q hq hqo => (u9.2.1 q hqo).trans (hS.2 q hq)⟩ d_L_pass_16
set_option maxHeartbeats 4000000 in
set_option maxRecDepth 100000 in
theorem w_state_A (l : Launch) (D : va_G) (cI cZ cN cJ : ClassId) (lo : Nat) (x n : Nat) (N : Nat → Nat → Int32) (R : Nat → Nat → Nat → Int32) (lev tot : Nat → Int32) (o : Nat) (pa : Int32) (inner : hq_T l y_X_state b_X_state 2 (some .int) TB { frames := 7, cells := 1, slots := 6, locals := 130 } D vwCl (TY cI cZ cN cJ) [.ref x, .int pa] (fun U => hq_E lo U ∧ busP D cI cZ cN x n N R lev tot U.heap) "java/lang/IllegalArgumentException") : hq_MW l y_L_state b_L_state 4 (some .int) [(0, 9, 12, 13)] TB { frames := 8, cells := 1, slots := 6, locals := 160 } lo D vwCl (TY cI cZ cN cJ) [.ref (x), .int (pa), .ref (o)] (fun U => hq_E lo U ∧ busP D cI cZ cN x n N R lev tot U.heap) (fun H v H' => v = some (.int 1) ∧ hq_O H.size H H' ∧ H.size ≤ H'.size) := by
  refine hq_ofWW (by decide) (Nat.le_of_ble_eq_true rfl) ?_
  intro p e s m below meth c ls C hml hret hlk htab hl hP
  have hl : lv_has ls 4 [(0, .ref (x)), (1, .int (pa)), (2, .ref (o))] := hl
  obtain ⟨hE, hBus⟩ := hP
  have k0 : va_at D vwCl (x, .inr (5, [.ref (x + 3), .ref (x + 1), .ref (x + 2)])) s.heap := hBus.1 0 (by decide)
  refine lv_aload_n C.1 C.2.1 d_L_state_0 rfl (lv_at hl 2 rfl) ?_
  refine lv_iconst (v := 0) C.1 C.2.1 d_L_state_1 (by decide) ?_
  refine lv_aload_n C.1 C.2.1 d_L_state_2 rfl (lv_at hl 0 rfl) ?_
  refine lv_iload_n C.1 C.2.1 d_L_state_3 rfl (lv_at hl 1 rfl) ?_
  refine hq_tcallV (As := [.int (pa)]) (rest := [.int (0), .ref (o)]) C tb_good hml Y_L_29 inner k0 rfl (fun _ _ _ _ h => ⟨hq_E.call h.1, h.2⟩) (fun U hU hW => ⟨hE.move hW (by rw [hU]; exact hq_O0), by show busP D cI cZ cN x n N R lev tot U.heap; rw [hU]; exact hBus⟩) hl.1 rfl rfl ⟨⟨Nat.le_of_ble_eq_true rfl, Nat.le_of_ble_eq_true rfl⟩, Nat.le_of_ble_eq_true rfl, Nat.le_of_ble_eq_true rfl⟩ (Nat.le_of_ble_eq_true rfl) d_L_state_4 (fun q9 ce9 H9 hO9 hz9 hce9 hcv9 hcl9 => ?_)
  obtain ⟨x9, hx9, h91, h92, h93, h94⟩ := hq_tab1 htab
  refine hq_catch (own := R_L) (name := "java/lang/IllegalArgumentException") C.2.2.1 [] x9 [] hx9 (fun z hz => by cases hz) (by simp [covers, h91, h92]) (by rw [h94]; decide) (by rw [h94]; exact C.2.2.2.1 _ cl_A.1) (va_Nw.use rfl hE.2.2.2.2.2.1) hce9 hcv9 hcl9 ?_
  rw [h93]
  refine lv_astore_n C.1 C.2.1 d_L_state_12 rfl hl (by decide) rfl (lv' := [(3, .ref (q9)), (0, .ref (x)), (1, .int (pa)), (2, .ref (o))]) (fun ls hl => ?_)
  refine lv_iconst (v := 1) C.1 C.2.1 d_L_state_13 (by decide) ?_
  exact hq_iret C hret hlk (Nat.le_of_ble_eq_true rfl) (Nat.le_of_ble_eq_true rfl) hq_L0 ⟨rfl, hO9, hz9⟩ d_L_state_14
set_option maxHeartbeats 4000000 in
set_option maxRecDepth 100000 in
theorem w_state_R (l : Launch) (D : va_G) (cI cZ cN cJ : ClassId) (lo : Nat) (x n o : Nat) (pa r : Int32) (f : Nat → Int64) (hlo : lo ≤ x) (ho : x + (4 + 10 * n) ≤ o) (Pi : Heap → Prop) (hmo : ∀ (e : va_E) (H H1 : Heap), Pi H → hq_U D vwCl o e H H1 → Pi H1) (hk0 : ∀ H, Pi H → va_at D vwCl (x, .inr (5, [.ref (x + 3), .ref (x + 1), .ref (x + 2)])) H) (inner : hq_M l y_X_state b_X_state 2 (some .int) TB { frames := 2, cells := 0, slots := 0, locals := 60 } lo D vwCl (TY cI cZ cN cJ) [.ref x, .int pa] (fun U => Pi U.heap) (fun H v H' => v = some (.int r) ∧ H' = H)) : hq_MW l y_L_state b_L_state 4 (some .int) [(0, 9, 12, 13)] TB { frames := 4, cells := 0, slots := 0, locals := 120 } lo D vwCl (TY cI cZ cN cJ) [.ref (x), .int (pa), .ref (o)] (fun U => Pi U.heap ∧ va_at D vwCl (o, .inl (cJ, 1, .inr (.inl f))) U.heap) (fun H v H' => v = some (.int 0) ∧ va_at D vwCl (o, .inl (cJ, 1, .inr (.inl (vp_updL f 0 r.toInt64)))) H' ∧ Pi H' ∧ H'.size = H.size ∧ ∀ q : Nat, (q < x ∨ x + (4 + 10 * n) ≤ q) → q ≠ o → H'[q]? = H[q]?) := by
  refine hq_ofWW (by decide) (Nat.le_of_ble_eq_true rfl) ?_
  intro p e s m below meth c ls C hml hret hlk htab hl hP
  have hl : lv_has ls 4 [(0, .ref (x)), (1, .int (pa)), (2, .ref (o))] := hl
  have hL : hq_L lo [] := hq_L0
  obtain ⟨hPi, ko⟩ := hP
  have k0 := hk0 _ hPi
  refine lv_aload_n C.1 C.2.1 d_L_state_0 rfl (lv_at hl 2 rfl) ?_
  refine lv_iconst (v := 0) C.1 C.2.1 d_L_state_1 (by decide) ?_
  refine lv_aload_n C.1 C.2.1 d_L_state_2 rfl (lv_at hl 0 rfl) ?_
  refine lv_iload_n C.1 C.2.1 d_L_state_3 rfl (lv_at hl 1 rfl) ?_
  refine hq_callV (lo := lo) (As := [.int (pa)]) (rest := [.int (0), .ref (o)]) C tb_good hml Y_L_29 inner k0 rfl (fun _ _ _ _ h => h) (fun U hU hW => by show Pi U.heap; rw [hU]; exact hPi) hL hl.1 rfl rfl ⟨⟨Nat.le_of_ble_eq_true rfl, Nat.le_of_ble_eq_true rfl⟩, Nat.le_of_ble_eq_true rfl, Nat.le_of_ble_eq_true rfl⟩ (Nat.le_of_ble_eq_true rfl) d_L_state_4 (fun v H41 locs hp hL => ?_)
  obtain ⟨rfl, rfl⟩ := hp
  refine W.eq (g2 := F0 m 7 ls [.int (r), .int (0), .ref (o)]) rfl ?_
  refine lv_i2l (v := r.toInt64) C.1 C.2.1 d_L_state_7 rfl ?_
  refine hq_last (lo := lo) C 3 rfl ko (show vp_in (nI 0) 1 from vp_in_nI (by decide) (by decide)) hL (by omega) d_L_state_8 (fun H9 locs u9 hL => ?_)
  refine lv_goto (tgt := 15) C.1 C.2.1 d_L_state_9 (by decide) ?_
  refine lv_iconst (v := 0) C.1 C.2.1 d_L_state_15 (by decide) ?_
  exact hq_iret C hret hlk (Nat.le_of_ble_eq_true rfl) (Nat.le_of_ble_eq_true rfl) hL ⟨rfl, u9.2.2, hmo _ _ _ hPi u9, u9.1, fun q hq hqo => u9.2.1 q hqo⟩ d_L_state_16
set_option maxHeartbeats 4000000 in
set_option maxRecDepth 100000 in
theorem w_count_A (l : Launch) (D : va_G) (cI cZ cN cJ : ClassId) (lo : Nat) (x n : Nat) (N : Nat → Nat → Int32) (R : Nat → Nat → Nat → Int32) (lev tot : Nat → Int32) (o : Nat) (pa pb : Int32) (inner : hq_T l y_X_count b_X_count 4 (some .int) TB { frames := 7, cells := 1, slots := 6, locals := 130 } D vwCl (TY cI cZ cN cJ) [.ref x, .int pa, .int pb] (fun U => hq_E lo U ∧ busP D cI cZ cN x n N R lev tot U.heap) "java/lang/IllegalArgumentException") : hq_MW l y_L_count b_L_count 5 (some .int) [(0, 10, 13, 13)] TB { frames := 8, cells := 1, slots := 6, locals := 160 } lo D vwCl (TY cI cZ cN cJ) [.ref (x), .int (pa), .int (pb), .ref (o)] (fun U => hq_E lo U ∧ busP D cI cZ cN x n N R lev tot U.heap) (fun H v H' => v = some (.int 1) ∧ hq_O H.size H H' ∧ H.size ≤ H'.size) := by
  refine hq_ofWW (by decide) (Nat.le_of_ble_eq_true rfl) ?_
  intro p e s m below meth c ls C hml hret hlk htab hl hP
  have hl : lv_has ls 5 [(0, .ref (x)), (1, .int (pa)), (2, .int (pb)), (3, .ref (o))] := hl
  obtain ⟨hE, hBus⟩ := hP
  have k0 : va_at D vwCl (x, .inr (5, [.ref (x + 3), .ref (x + 1), .ref (x + 2)])) s.heap := hBus.1 0 (by decide)
  refine lv_aload_n C.1 C.2.1 d_L_count_0 rfl (lv_at hl 3 rfl) ?_
  refine lv_iconst (v := 0) C.1 C.2.1 d_L_count_1 (by decide) ?_
  refine lv_aload_n C.1 C.2.1 d_L_count_2 rfl (lv_at hl 0 rfl) ?_
  refine lv_iload_n C.1 C.2.1 d_L_count_3 rfl (lv_at hl 1 rfl) ?_
  refine lv_iload_n C.1 C.2.1 d_L_count_4 rfl (lv_at hl 2 rfl) ?_
  refine hq_tcallV (As := [.int (pa), .int (pb)]) (rest := [.int (0), .ref (o)]) C tb_good hml Y_L_32 inner k0 rfl (fun _ _ _ _ h => ⟨hq_E.call h.1, h.2⟩) (fun U hU hW => ⟨hE.move hW (by rw [hU]; exact hq_O0), by show busP D cI cZ cN x n N R lev tot U.heap; rw [hU]; exact hBus⟩) hl.1 rfl rfl ⟨⟨Nat.le_of_ble_eq_true rfl, Nat.le_of_ble_eq_true rfl⟩, Nat.le_of_ble_eq_true rfl, Nat.le_of_ble_eq_true rfl⟩ (Nat.le_of_ble_eq_true rfl) d_L_count_5 (fun q9 ce9 H9 hO9 hz9 hce9 hcv9 hcl9 => ?_)
  obtain ⟨x9, hx9, h91, h92, h93, h94⟩ := hq_tab1 htab
  refine hq_catch (own := R_L) (name := "java/lang/IllegalArgumentException") C.2.2.1 [] x9 [] hx9 (fun z hz => by cases hz) (by simp [covers, h91, h92]) (by rw [h94]; decide) (by rw [h94]; exact C.2.2.2.1 _ cl_A.1) (va_Nw.use rfl hE.2.2.2.2.2.1) hce9 hcv9 hcl9 ?_
  rw [h93]
  refine lv_astore C.1 C.2.1 d_L_count_13 hl (by decide) rfl (lv' := [(4, .ref (q9)), (0, .ref (x)), (1, .int (pa)), (2, .int (pb)), (3, .ref (o))]) (fun ls hl => ?_)
  refine lv_iconst (v := 1) C.1 C.2.1 d_L_count_15 (by decide) ?_
  exact hq_iret C hret hlk (Nat.le_of_ble_eq_true rfl) (Nat.le_of_ble_eq_true rfl) hq_L0 ⟨rfl, hO9, hz9⟩ d_L_count_16
set_option maxHeartbeats 4000000 in
set_option maxRecDepth 100000 in
theorem w_count_R (l : Launch) (D : va_G) (cI cZ cN cJ : ClassId) (lo : Nat) (x n o : Nat) (pa pb r : Int32) (f : Nat → Int64) (hlo : lo ≤ x) (ho : x + (4 + 10 * n) ≤ o) (Pi : Heap → Prop) (hmo : ∀ (e : va_E) (H H1 : Heap), Pi H → hq_U D vwCl o e H H1 → Pi H1) (hk0 : ∀ H, Pi H → va_at D vwCl (x, .inr (5, [.ref (x + 3), .ref (x + 1), .ref (x + 2)])) H) (inner : hq_M l y_X_count b_X_count 4 (some .int) TB { frames := 2, cells := 0, slots := 0, locals := 60 } lo D vwCl (TY cI cZ cN cJ) [.ref x, .int pa, .int pb] (fun U => Pi U.heap) (fun H v H' => v = some (.int r) ∧ H' = H)) : hq_MW l y_L_count b_L_count 5 (some .int) [(0, 10, 13, 13)] TB { frames := 4, cells := 0, slots := 0, locals := 120 } lo D vwCl (TY cI cZ cN cJ) [.ref (x), .int (pa), .int (pb), .ref (o)] (fun U => Pi U.heap ∧ va_at D vwCl (o, .inl (cJ, 1, .inr (.inl f))) U.heap) (fun H v H' => v = some (.int 0) ∧ va_at D vwCl (o, .inl (cJ, 1, .inr (.inl (vp_updL f 0 r.toInt64)))) H' ∧ Pi H' ∧ H'.size = H.size ∧ ∀ q : Nat, (q < x ∨ x + (4 + 10 * n) ≤ q) → q ≠ o → H'[q]? = H[q]?) := by
  refine hq_ofWW (by decide) (Nat.le_of_ble_eq_true rfl) ?_
  intro p e s m below meth c ls C hml hret hlk htab hl hP
  have hl : lv_has ls 5 [(0, .ref (x)), (1, .int (pa)), (2, .int (pb)), (3, .ref (o))] := hl
  have hL : hq_L lo [] := hq_L0
  obtain ⟨hPi, ko⟩ := hP
  have k0 := hk0 _ hPi
  refine lv_aload_n C.1 C.2.1 d_L_count_0 rfl (lv_at hl 3 rfl) ?_
  refine lv_iconst (v := 0) C.1 C.2.1 d_L_count_1 (by decide) ?_
  refine lv_aload_n C.1 C.2.1 d_L_count_2 rfl (lv_at hl 0 rfl) ?_
  refine lv_iload_n C.1 C.2.1 d_L_count_3 rfl (lv_at hl 1 rfl) ?_
  refine lv_iload_n C.1 C.2.1 d_L_count_4 rfl (lv_at hl 2 rfl) ?_
  refine hq_callV (lo := lo) (As := [.int (pa), .int (pb)]) (rest := [.int (0), .ref (o)]) C tb_good hml Y_L_32 inner k0 rfl (fun _ _ _ _ h => h) (fun U hU hW => by show Pi U.heap; rw [hU]; exact hPi) hL hl.1 rfl rfl ⟨⟨Nat.le_of_ble_eq_true rfl, Nat.le_of_ble_eq_true rfl⟩, Nat.le_of_ble_eq_true rfl, Nat.le_of_ble_eq_true rfl⟩ (Nat.le_of_ble_eq_true rfl) d_L_count_5 (fun v H41 locs hp hL => ?_)
  obtain ⟨rfl, rfl⟩ := hp
  refine W.eq (g2 := F0 m 8 ls [.int (r), .int (0), .ref (o)]) rfl ?_
  refine lv_i2l (v := r.toInt64) C.1 C.2.1 d_L_count_8 rfl ?_
  refine hq_last (lo := lo) C 3 rfl ko (show vp_in (nI 0) 1 from vp_in_nI (by decide) (by decide)) hL (by omega) d_L_count_9 (fun H9 locs u9 hL => ?_)
  refine lv_goto (tgt := 17) C.1 C.2.1 d_L_count_10 (by decide) ?_
  refine lv_iconst (v := 0) C.1 C.2.1 d_L_count_17 (by decide) ?_
  exact hq_iret C hret hlk (Nat.le_of_ble_eq_true rfl) (Nat.le_of_ble_eq_true rfl) hL ⟨rfl, u9.2.2, hmo _ _ _ hPi u9, u9.1, fun q hq hqo => u9.2.1 q hqo⟩ d_L_count_18
set_option maxHeartbeats 4000000 in
set_option maxRecDepth 100000 in
theorem w_take_A (l : Launch) (D : va_G) (cI cZ cN cJ : ClassId) (lo : Nat) (x n : Nat) (N : Nat → Nat → Int32) (R : Nat → Nat → Nat → Int32) (lev tot : Nat → Int32) (o : Nat) (pa : Int32) (inner : hq_T l y_X_take b_X_take 3 (some .int) TB { frames := 7, cells := 1, slots := 6, locals := 130 } D vwCl (TY cI cZ cN cJ) [.ref x, .int pa] (fun U => hq_E lo U ∧ busP D cI cZ cN x n N R lev tot U.heap) "java/lang/IllegalArgumentException") : hq_MW l y_L_take b_L_take 4 (some .int) [(0, 9, 12, 13), (0, 9, 15, 15)] TB { frames := 8, cells := 1, slots := 6, locals := 160 } lo D vwCl (TY cI cZ cN cJ) [.ref (x), .int (pa), .ref (o)] (fun U => hq_E lo U ∧ busP D cI cZ cN x n N R lev tot U.heap) (fun H v H' => v = some (.int 1) ∧ hq_O H.size H H' ∧ H.size ≤ H'.size) := by
  refine hq_ofWW (by decide) (Nat.le_of_ble_eq_true rfl) ?_
  intro p e s m below meth c ls C hml hret hlk htab hl hP
  have hl : lv_has ls 4 [(0, .ref (x)), (1, .int (pa)), (2, .ref (o))] := hl
  obtain ⟨hE, hBus⟩ := hP
  have k0 : va_at D vwCl (x, .inr (5, [.ref (x + 3), .ref (x + 1), .ref (x + 2)])) s.heap := hBus.1 0 (by decide)
  refine lv_aload_n C.1 C.2.1 d_L_take_0 rfl (lv_at hl 2 rfl) ?_
  refine lv_iconst (v := 0) C.1 C.2.1 d_L_take_1 (by decide) ?_
  refine lv_aload_n C.1 C.2.1 d_L_take_2 rfl (lv_at hl 0 rfl) ?_
  refine lv_iload_n C.1 C.2.1 d_L_take_3 rfl (lv_at hl 1 rfl) ?_
  refine hq_tcallV (As := [.int (pa)]) (rest := [.int (0), .ref (o)]) C tb_good hml Y_L_36 inner k0 rfl (fun _ _ _ _ h => ⟨hq_E.call h.1, h.2⟩) (fun U hU hW => ⟨hE.move hW (by rw [hU]; exact hq_O0), by show busP D cI cZ cN x n N R lev tot U.heap; rw [hU]; exact hBus⟩) hl.1 rfl rfl ⟨⟨Nat.le_of_ble_eq_true rfl, Nat.le_of_ble_eq_true rfl⟩, Nat.le_of_ble_eq_true rfl, Nat.le_of_ble_eq_true rfl⟩ (Nat.le_of_ble_eq_true rfl) d_L_take_4 (fun q9 ce9 H9 hO9 hz9 hce9 hcv9 hcl9 => ?_)
  obtain ⟨x9, y9, hx9, ⟨h91, h92, h93, h94⟩, -⟩ := hq_tab2 htab
  refine hq_catch (own := R_L) (name := "java/lang/IllegalArgumentException") C.2.2.1 [] x9 [y9] hx9 (fun z hz => by cases hz) (by simp [covers, h91, h92]) (by rw [h94]; decide) (by rw [h94]; exact C.2.2.2.1 _ cl_A.1) (va_Nw.use rfl hE.2.2.2.2.2.1) hce9 hcv9 hcl9 ?_
  rw [h93]
  refine lv_astore_n C.1 C.2.1 d_L_take_12 rfl hl (by decide) rfl (lv' := [(3, .ref (q9)), (0, .ref (x)), (1, .int (pa)), (2, .ref (o))]) (fun ls hl => ?_)
  refine lv_iconst (v := 1) C.1 C.2.1 d_L_take_13 (by decide) ?_
  exact hq_iret C hret hlk (Nat.le_of_ble_eq_true rfl) (Nat.le_of_ble_eq_true rfl) hq_L0 ⟨rfl, hO9, hz9⟩ d_L_take_14
set_option maxHeartbeats 4000000 in
set_option maxRecDepth 100000 in
theorem w_take_S (l : Launch) (D : va_G) (cI cZ cN cJ : ClassId) (lo : Nat) (x n : Nat) (N : Nat → Nat → Int32) (R : Nat → Nat → Nat → Int32) (lev tot : Nat → Int32) (o : Nat) (pa : Int32) (inner : hq_T l y_X_take b_X_take 3 (some .int) TB { frames := 7, cells := 1, slots := 6, locals := 130 } D vwCl (TY cI cZ cN cJ) [.ref x, .int pa] (fun U => hq_E lo U ∧ busP D cI cZ cN x n N R lev tot U.heap) "java/lang/IllegalStateException") : hq_MW l y_L_take b_L_take 4 (some .int) [(0, 9, 12, 13), (0, 9, 15, 15)] TB { frames := 8, cells := 1, slots := 6, locals := 160 } lo D vwCl (TY cI cZ cN cJ) [.ref (x), .int (pa), .ref (o)] (fun U => hq_E lo U ∧ va_Nc "java/lang/IllegalStateException" "java/lang/IllegalArgumentException" U ∧ busP D cI cZ cN x n N R lev tot U.heap) (fun H v H' => v = some (.int 2) ∧ hq_O H.size H H' ∧ H.size ≤ H'.size) := by
  refine hq_ofWW (by decide) (Nat.le_of_ble_eq_true rfl) ?_
  intro p e s m below meth c ls C hml hret hlk htab hl hP
  have hl : lv_has ls 4 [(0, .ref (x)), (1, .int (pa)), (2, .ref (o))] := hl
  obtain ⟨hE, hNc, hBus⟩ := hP
  have k0 : va_at D vwCl (x, .inr (5, [.ref (x + 3), .ref (x + 1), .ref (x + 2)])) s.heap := hBus.1 0 (by decide)
  refine lv_aload_n C.1 C.2.1 d_L_take_0 rfl (lv_at hl 2 rfl) ?_
  refine lv_iconst (v := 0) C.1 C.2.1 d_L_take_1 (by decide) ?_
  refine lv_aload_n C.1 C.2.1 d_L_take_2 rfl (lv_at hl 0 rfl) ?_
  refine lv_iload_n C.1 C.2.1 d_L_take_3 rfl (lv_at hl 1 rfl) ?_
  refine hq_tcallV (As := [.int (pa)]) (rest := [.int (0), .ref (o)]) C tb_good hml Y_L_36 inner k0 rfl (fun _ _ _ _ h => ⟨hq_E.call h.1, h.2⟩) (fun U hU hW => ⟨hE.move hW (by rw [hU]; exact hq_O0), by show busP D cI cZ cN x n N R lev tot U.heap; rw [hU]; exact hBus⟩) hl.1 rfl rfl ⟨⟨Nat.le_of_ble_eq_true rfl, Nat.le_of_ble_eq_true rfl⟩, Nat.le_of_ble_eq_true rfl, Nat.le_of_ble_eq_true rfl⟩ (Nat.le_of_ble_eq_true rfl) d_L_take_4 (fun q9 ce9 H9 hO9 hz9 hce9 hcv9 hcl9 => ?_)
  obtain ⟨y9, x9, hx9, ⟨g1, g2, g3, g4⟩, h91, h92, h93, h94⟩ := hq_tab2 htab
  refine hq_catch (own := R_L) (name := "java/lang/IllegalStateException") C.2.2.1 [y9] x9 [] hx9 (fun z hz => by rw [List.mem_singleton.mp hz]; refine Or.inr ⟨by rw [g4]; decide, "java/lang/IllegalArgumentException", by rw [g4]; exact C.2.2.2.1 _ cl_A.1, fun c1 c2 e1 e2 => ?_⟩; obtain ⟨d1, d2, f1, f2, f3⟩ := hNc; cases e1.symm.trans f1; cases e2.symm.trans f2; exact f3) (by simp [covers, h91, h92]) (by rw [h94]; decide) (by rw [h94]; exact C.2.2.2.1 _ cl_A.2) (va_Nw.use rfl hE.2.2.2.2.2.2.1) hce9 hcv9 hcl9 ?_
  rw [h93]
  refine lv_astore_n C.1 C.2.1 d_L_take_15 rfl hl (by decide) rfl (lv' := [(3, .ref (q9)), (0, .ref (x)), (1, .int (pa)), (2, .ref (o))]) (fun ls hl => ?_)
  refine lv_iconst (v := 2) C.1 C.2.1 d_L_take_16 (by decide) ?_
  exact hq_iret C hret hlk (Nat.le_of_ble_eq_true rfl) (Nat.le_of_ble_eq_true rfl) hq_L0 ⟨rfl, hO9, hz9⟩ d_L_take_17
set_option maxHeartbeats 4000000 in
set_option maxRecDepth 100000 in
theorem w_take_R (l : Launch) (D : va_G) (cI cZ cN cJ : ClassId) (lo : Nat) (x n o : Nat) (pa r : Int32) (f : Nat → Int64) (hlo : lo ≤ x) (ho : x + (4 + 10 * n) ≤ o) (Pi Pj : Heap → Prop) (hmo : ∀ (e : va_E) (H H1 : Heap), Pj H → hq_U D vwCl o e H H1 → Pj H1) (hk0 : ∀ H, Pi H → va_at D vwCl (x, .inr (5, [.ref (x + 3), .ref (x + 1), .ref (x + 2)])) H) (inner : hq_M l y_X_take b_X_take 3 (some .int) TB { frames := 3, cells := 0, slots := 0, locals := 80 } lo D vwCl (TY cI cZ cN cJ) [.ref x, .int pa] (fun U => Pi U.heap) (fun H v H' => v = some (.int r) ∧ Pj H' ∧ hq_S x (4 + 10 * n) H H')) : hq_MW l y_L_take b_L_take 4 (some .int) [(0, 9, 12, 13), (0, 9, 15, 15)] TB { frames := 4, cells := 0, slots := 0, locals := 120 } lo D vwCl (TY cI cZ cN cJ) [.ref (x), .int (pa), .ref (o)] (fun U => Pi U.heap ∧ va_at D vwCl (o, .inl (cJ, 1, .inr (.inl f))) U.heap) (fun H v H' => v = some (.int 0) ∧ va_at D vwCl (o, .inl (cJ, 1, .inr (.inl (vp_updL f 0 r.toInt64)))) H' ∧ Pj H' ∧ H'.size = H.size ∧ ∀ q : Nat, (q < x ∨ x + (4 + 10 * n) ≤ q) → q ≠ o → H'[q]? = H[q]?) := by
  refine hq_ofWW (by decide) (Nat.le_of_ble_eq_true rfl) ?_
  intro p e s m below meth c ls C hml hret hlk htab hl hP
  have hl : lv_has ls 4 [(0, .ref (x)), (1, .int (pa)), (2, .ref (o))] := hl
  have hL : hq_L lo [] := hq_L0
  obtain ⟨hPi, ko⟩ := hP
  have k0 := hk0 _ hPi
  refine lv_aload_n C.1 C.2.1 d_L_take_0 rfl (lv_at hl 2 rfl) ?_
  refine lv_iconst (v := 0) C.1 C.2.1 d_L_take_1 (by decide) ?_
  refine lv_aload_n C.1 C.2.1 d_L_take_2 rfl (lv_at hl 0 rfl) ?_
  refine lv_iload_n C.1 C.2.1 d_L_take_3 rfl (lv_at hl 1 rfl) ?_
  refine hq_callV (lo := lo) (As := [.int (pa)]) (rest := [.int (0), .ref (o)]) C tb_good hml Y_L_36 inner k0 rfl (fun _ _ _ _ h => h) (fun U hU hW => by show Pi U.heap; rw [hU]; exact hPi) hL hl.1 rfl rfl ⟨⟨Nat.le_of_ble_eq_true rfl, Nat.le_of_ble_eq_true rfl⟩, Nat.le_of_ble_eq_true rfl, Nat.le_of_ble_eq_true rfl⟩ (Nat.le_of_ble_eq_true rfl) d_L_take_4 (fun v H41 locs hp hL => ?_)
  obtain ⟨rfl, hPj, hS⟩ := hp
  refine W.eq (g2 := F0 m 7 ls [.int (r), .int (0), .ref (o)]) rfl ?_
  refine lv_i2l (v := r.toInt64) C.1 C.2.1 d_L_take_7 rfl ?_
  have ko := hq_as ko hS (by omega)
  refine hq_last (lo := lo) C 3 rfl ko (show vp_in (nI 0) 1 from vp_in_nI (by decide) (by decide)) hL (by omega) d_L_take_8 (fun H9 locs u9 hL => ?_)
  refine lv_goto (tgt := 18) C.1 C.2.1 d_L_take_9 (by decide) ?_
  refine lv_iconst (v := 0) C.1 C.2.1 d_L_take_18 (by decide) ?_
  exact hq_iret C hret hlk (Nat.le_of_ble_eq_true rfl) (Nat.le_of_ble_eq_true rfl) hL ⟨rfl, u9.2.2, hmo _ _ _ hPj u9, u9.1.trans hS.1, fun q hq hqo => (u9.2.1 q hqo).trans (hS.2 q hq)⟩ d_L_take_19
set_option maxHeartbeats 4000000 in
set_option maxRecDepth 100000 in
theorem w_total_A (l : Launch) (D : va_G) (cI cZ cN cJ : ClassId) (lo : Nat) (x n : Nat) (N : Nat → Nat → Int32) (R : Nat → Nat → Nat → Int32) (lev tot : Nat → Int32) (o : Nat) (pa : Int32) (inner : hq_T l y_X_total b_X_total 2 (some .int) TB { frames := 7, cells := 1, slots := 6, locals := 130 } D vwCl (TY cI cZ cN cJ) [.ref x, .int pa] (fun U => hq_E lo U ∧ busP D cI cZ cN x n N R lev tot U.heap) "java/lang/IllegalArgumentException") : hq_MW l y_L_total b_L_total 4 (some .int) [(0, 9, 12, 13)] TB { frames := 8, cells := 1, slots := 6, locals := 160 } lo D vwCl (TY cI cZ cN cJ) [.ref (x), .int (pa), .ref (o)] (fun U => hq_E lo U ∧ busP D cI cZ cN x n N R lev tot U.heap) (fun H v H' => v = some (.int 1) ∧ hq_O H.size H H' ∧ H.size ≤ H'.size) := by
  refine hq_ofWW (by decide) (Nat.le_of_ble_eq_true rfl) ?_
  intro p e s m below meth c ls C hml hret hlk htab hl hP
  have hl : lv_has ls 4 [(0, .ref (x)), (1, .int (pa)), (2, .ref (o))] := hl
  obtain ⟨hE, hBus⟩ := hP
  have k0 : va_at D vwCl (x, .inr (5, [.ref (x + 3), .ref (x + 1), .ref (x + 2)])) s.heap := hBus.1 0 (by decide)
  refine lv_aload_n C.1 C.2.1 d_L_total_0 rfl (lv_at hl 2 rfl) ?_
  refine lv_iconst (v := 0) C.1 C.2.1 d_L_total_1 (by decide) ?_
  refine lv_aload_n C.1 C.2.1 d_L_total_2 rfl (lv_at hl 0 rfl) ?_
  refine lv_iload_n C.1 C.2.1 d_L_total_3 rfl (lv_at hl 1 rfl) ?_
  refine hq_tcallV (As := [.int (pa)]) (rest := [.int (0), .ref (o)]) C tb_good hml Y_L_39 inner k0 rfl (fun _ _ _ _ h => ⟨hq_E.call h.1, h.2⟩) (fun U hU hW => ⟨hE.move hW (by rw [hU]; exact hq_O0), by show busP D cI cZ cN x n N R lev tot U.heap; rw [hU]; exact hBus⟩) hl.1 rfl rfl ⟨⟨Nat.le_of_ble_eq_true rfl, Nat.le_of_ble_eq_true rfl⟩, Nat.le_of_ble_eq_true rfl, Nat.le_of_ble_eq_true rfl⟩ (Nat.le_of_ble_eq_true rfl) d_L_total_4 (fun q9 ce9 H9 hO9 hz9 hce9 hcv9 hcl9 => ?_)
  obtain ⟨x9, hx9, h91, h92, h93, h94⟩ := hq_tab1 htab
  refine hq_catch (own := R_L) (name := "java/lang/IllegalArgumentException") C.2.2.1 [] x9 [] hx9 (fun z hz => by cases hz) (by simp [covers, h91, h92]) (by rw [h94]; decide) (by rw [h94]; exact C.2.2.2.1 _ cl_A.1) (va_Nw.use rfl hE.2.2.2.2.2.1) hce9 hcv9 hcl9 ?_
  rw [h93]
  refine lv_astore_n C.1 C.2.1 d_L_total_12 rfl hl (by decide) rfl (lv' := [(3, .ref (q9)), (0, .ref (x)), (1, .int (pa)), (2, .ref (o))]) (fun ls hl => ?_)
  refine lv_iconst (v := 1) C.1 C.2.1 d_L_total_13 (by decide) ?_
  exact hq_iret C hret hlk (Nat.le_of_ble_eq_true rfl) (Nat.le_of_ble_eq_true rfl) hq_L0 ⟨rfl, hO9, hz9⟩ d_L_total_14
set_option maxHeartbeats 4000000 in
set_option maxRecDepth 100000 in
theorem w_total_R (l : Launch) (D : va_G) (cI cZ cN cJ : ClassId) (lo : Nat) (x n o : Nat) (pa r : Int32) (f : Nat → Int64) (hlo : lo ≤ x) (ho : x + (4 + 10 * n) ≤ o) (Pi : Heap → Prop) (hmo : ∀ (e : va_E) (H H1 : Heap), Pi H → hq_U D vwCl o e H H1 → Pi H1) (hk0 : ∀ H, Pi H → va_at D vwCl (x, .inr (5, [.ref (x + 3), .ref (x + 1), .ref (x + 2)])) H) (inner : hq_M l y_X_total b_X_total 2 (some .int) TB { frames := 2, cells := 0, slots := 0, locals := 60 } lo D vwCl (TY cI cZ cN cJ) [.ref x, .int pa] (fun U => Pi U.heap) (fun H v H' => v = some (.int r) ∧ H' = H)) : hq_MW l y_L_total b_L_total 4 (some .int) [(0, 9, 12, 13)] TB { frames := 4, cells := 0, slots := 0, locals := 120 } lo D vwCl (TY cI cZ cN cJ) [.ref (x), .int (pa), .ref (o)] (fun U => Pi U.heap ∧ va_at D vwCl (o, .inl (cJ, 1, .inr (.inl f))) U.heap) (fun H v H' => v = some (.int 0) ∧ va_at D vwCl (o, .inl (cJ, 1, .inr (.inl (vp_updL f 0 r.toInt64)))) H' ∧ Pi H' ∧ H'.size = H.size ∧ ∀ q : Nat, (q < x ∨ x + (4 + 10 * n) ≤ q) → q ≠ o → H'[q]? = H[q]?) := by
  refine hq_ofWW (by decide) (Nat.le_of_ble_eq_true rfl) ?_
  intro p e s m below meth c ls C hml hret hlk htab hl hP
  have hl : lv_has ls 4 [(0, .ref (x)), (1, .int (pa)), (2, .ref (o))] := hl
  have hL : hq_L lo [] := hq_L0
  obtain ⟨hPi, ko⟩ := hP
  have k0 := hk0 _ hPi
  refine lv_aload_n C.1 C.2.1 d_L_total_0 rfl (lv_at hl 2 rfl) ?_
  refine lv_iconst (v := 0) C.1 C.2.1 d_L_total_1 (by decide) ?_
  refine lv_aload_n C.1 C.2.1 d_L_total_2 rfl (lv_at hl 0 rfl) ?_
  refine lv_iload_n C.1 C.2.1 d_L_total_3 rfl (lv_at hl 1 rfl) ?_
  refine hq_callV (lo := lo) (As := [.int (pa)]) (rest := [.int (0), .ref (o)]) C tb_good hml Y_L_39 inner k0 rfl (fun _ _ _ _ h => h) (fun U hU hW => by show Pi U.heap; rw [hU]; exact hPi) hL hl.1 rfl rfl ⟨⟨Nat.le_of_ble_eq_true rfl, Nat.le_of_ble_eq_true rfl⟩, Nat.le_of_ble_eq_true rfl, Nat.le_of_ble_eq_true rfl⟩ (Nat.le_of_ble_eq_true rfl) d_L_total_4 (fun v H41 locs hp hL => ?_)
  obtain ⟨rfl, rfl⟩ := hp
  refine W.eq (g2 := F0 m 7 ls [.int (r), .int (0), .ref (o)]) rfl ?_
  refine lv_i2l (v := r.toInt64) C.1 C.2.1 d_L_total_7 rfl ?_
  refine hq_last (lo := lo) C 3 rfl ko (show vp_in (nI 0) 1 from vp_in_nI (by decide) (by decide)) hL (by omega) d_L_total_8 (fun H9 locs u9 hL => ?_)
  refine lv_goto (tgt := 15) C.1 C.2.1 d_L_total_9 (by decide) ?_
  refine lv_iconst (v := 0) C.1 C.2.1 d_L_total_15 (by decide) ?_
  exact hq_iret C hret hlk (Nat.le_of_ble_eq_true rfl) (Nat.le_of_ble_eq_true rfl) hL ⟨rfl, u9.2.2, hmo _ _ _ hPi u9, u9.1, fun q hq hqo => u9.2.1 q hqo⟩ d_L_total_16
def cel (L : Nat) (xs : Nat → Int32) : Int32 := if L = 0 then 0 else xs 0
theorem cel0 {L : Nat} (h6 : L < 2 ^ 31) (h : nI L ≤ 0) : L = 0 := by
  have h1 : nI L ≤ nI 0 := h
  rw [nI_leI (by omega) (by decide)] at h1
  omega
set_option maxHeartbeats 4000000 in
set_option maxRecDepth 100000 in
theorem c_cell (l : Launch) (D : va_G) (cI cZ cN cJ : ClassId) (lo : Nat) (b L : Nat) (xs : Nat → Int32) (hL6 : L < 2 ^ 31) : hq_M l y_L_cell b_L_cell 2 (some .int) TB { frames := 0, cells := 0, slots := 0, locals := 0 } lo D vwCl (TY cI cZ cN cJ) [.ref b, .int 0] (fun U => va_X b L xs U U.heap ∧ b < U.heap.size) (fun H v H' => v = some (.int (cel L xs)) ∧ H' = H) := by
  refine hq_ofW (by decide) (Nat.le_of_ble_eq_true rfl) ?_
  intro p e s m below meth c ls C hml hret hlk hnm hl hP
  obtain ⟨hX, hb⟩ := hP
  have hL : hq_L lo [] := hq_L0
  have hl : lv_has ls 2 [(0, .ref (b)), (1, .int (0))] := hl
  refine lv_iload_n C.1 C.2.1 d_L_cell_0 rfl (lv_at hl 1 rfl) ?_
  refine lv_aload_n C.1 C.2.1 d_L_cell_1 rfl (lv_at hl 0 rfl) ?_
  refine hq_slen C hX hb hq_O0 d_L_cell_2 ?_
  refine lv_icmp_ge (tgt := 12) C.1 C.2.1 d_L_cell_3 (by decide) ?_ ?_
  · intro c0
    refine lv_iconst (v := 0) C.1 C.2.1 d_L_cell_12 (by decide) ?_
    exact hq_iret C hret hlk (Nat.le_of_ble_eq_true rfl) (Nat.le_of_ble_eq_true rfl) hL ⟨by unfold cel; rw [if_pos (cel0 hL6 c0)], rfl⟩ d_L_cell_13
  · intro c0
    have hL0 : ¬ L = 0 := fun h9 => c0 (by rw [h9]; decide)
    refine lv_aload_n C.1 C.2.1 d_L_cell_6 rfl (lv_at hl 0 rfl) ?_
    refine lv_iload_n C.1 C.2.1 d_L_cell_7 rfl (lv_at hl 1 rfl) ?_
    refine hq_sld C hX hb hq_O0 (show vp_in (nI 0) L from vp_in_nI (by omega) (by omega)) d_L_cell_8 ?_
    refine W.eq (g2 := F0 m 9 ls [.int (xs 0)]) rfl ?_
    refine lv_goto (tgt := 13) C.1 C.2.1 d_L_cell_9 (by decide) ?_
    exact hq_iret C hret hlk (Nat.le_of_ble_eq_true rfl) (Nat.le_of_ble_eq_true rfl) hL ⟨by unfold cel; rw [if_neg hL0], rfl⟩ d_L_cell_13
