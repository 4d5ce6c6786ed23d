/-! The law from its first byte on. -/
theorem okA_new : okA (fun _ _ => 0) := fun j _ => ⟨⟨0, Nat.zero_le 4, nI_0.symm⟩, ⟨0, Nat.zero_le 4, nI_0.symm⟩, ⟨0, Nat.zero_le 3, nI_0.symm⟩, fun h => absurd (show (0 : Int32) = 1 from h) (by decide)⟩
section LAWBEGIN
variable {p : Program} {l : Launch} {e : Env} {s : State} {m : MethodId} {below : List Frame} {meth : Method} {c : Code} {D : va_G} {cI cZ cN cJ : ClassId} {b x : Nat} {xs : Nat → Int32} {ls : Array Slot}
set_option maxHeartbeats 4000000 in
set_option maxRecDepth 100000 in
theorem l_begin {L : Nat} (C : hq_C p c s m #[Value.ref b] R_L code TB D vwCl (TY cI cZ cN cJ)) (hml : c.maxLocals = 7) (hret : meth.sig.returnType = ret) (hlk : meth.locks = false) (hx : s.heap.size = x) (hXL : va_X b L xs s s.heap) (hLN : L ≤ 2561) (hb : b < x) (hl : lv_has ls 7 [(0, .ref b)]) (htr : l.stackTraces = false) (hE : hq_E x s) (hNc : va_Nc "java/lang/IllegalStateException" "java/lang/IllegalArgumentException" s) (hNW : hq_NW s) (hAO : va_AO R_No s) : W p l e room_1 s m #[Value.ref b] below meth c s.heap [] 0 0 (lw_Z below #[Value.ref b] s) (F0 m 0 ls []) := by
  obtain ⟨n, hn2, hn4, hcl⟩ := clip_n (cel L xs)
  have hL : hq_L x [] := hq_L0
  have hO0 : hq_O x s.heap s.heap := hq_O0
  refine hq_new C k_X (by decide +kernel) (by decide +kernel) (by decide +kernel) (fs := [.null, .null, .null]) (by decide +kernel) (Nat.le_of_ble_eq_true rfl) (Nat.le_of_ble_eq_true rfl) (h := x) hx d_law_0 (fun H1 n1 => ?_)
  have hO1 := hq_On hO0 n1 (Nat.le_refl x)
  have k1 : va_at D vwCl (x, .inr (5, [.null, .null, .null])) H1 := n1.2.2
  refine W.eq (g2 := F0 m 3 ls [.ref x]) rfl ?_
  refine lv_dup C.1 C.2.1 d_law_3 rfl ?_
  refine lv_aload_n C.1 C.2.1 d_law_4 rfl (lv_at hl 0 rfl) ?_
  refine lv_iconst (v := 0) C.1 C.2.1 d_law_5 (by decide) ?_
  have z1 := n1.1
  refine hq_callS (lo := x) (As := [.ref b, .int 0]) (rest := [.ref (x), .ref (x)]) C tb_good hml Y_L_42 (c_cell l D cI cZ cN cJ x b L xs (by omega)) (fun _ _ _ _ h => h) (fun U hU hW => ⟨by rw [hU]; exact (hXL.moved hW.alike).kept (hO1 b hb), by rw [hU]; omega⟩) hL hl.1 rfl rfl ⟨⟨Nat.le_of_ble_eq_true rfl, Nat.le_of_ble_eq_true rfl⟩, Nat.le_of_ble_eq_true rfl, Nat.le_of_ble_eq_true rfl⟩ (Nat.le_of_ble_eq_true rfl) d_law_6 (fun v H9 locs hp hL => ?_)
  obtain ⟨rfl, rfl⟩ := hp
  refine W.eq (g2 := F0 m 9 ls [.int (cel L xs), .ref (x), .ref (x)]) rfl ?_
  refine hq_callI (lo := x) (b := x) (As := [.int (cel L xs)]) (rest := [.ref x]) C tb_good hml Y_L_48 (c_X_init l D cI cZ cN cJ x x n (cel L xs) (Nat.le_refl x) hn4 hcl) (fun _ _ _ _ h => ⟨hq_NW.call h.1, h.2.1.moved (Vm.Alike.refl _), h.2.2⟩) (fun U hU hW => ⟨hq_NW.warm hW hNW, hAO.moved hW.alike, by rw [hU]; exact n1.1, by rw [hU]; exact k1⟩) hL hl.1 rfl rfl ⟨⟨Nat.le_of_ble_eq_true rfl, Nat.le_of_ble_eq_true rfl⟩, Nat.le_of_ble_eq_true rfl, Nat.le_of_ble_eq_true rfl⟩ (Nat.le_of_ble_eq_true rfl) d_law_9 (fun v H2 locs hp hL => ?_)
  obtain ⟨rfl, z2, hBus2, o2⟩ := hp
  refine W.eq (g2 := F0 m 12 ls [.ref x]) rfl ?_
  refine lv_astore_n C.1 C.2.1 d_law_12 rfl hl (by decide) rfl (lv' := [(1, .ref (x)), (0, .ref (b))]) (fun ls hl => ?_)
  have hO2 := hq_Oo hO1 o2 (Nat.le_refl x)
  refine hq_new C k_M (by decide +kernel) (by decide +kernel) (by decide +kernel) (fs := [.int (0), .int (0), .null, .null, .null, .null, .null, .null, .null, .null, .null, .null, .null, .null, .null, .null, .null, .null, .null, .null, .null, .null, .null, .null, .null, .null, .null, .null, .null, .null, .null, .null]) (by decide +kernel) (Nat.le_of_ble_eq_true rfl) (Nat.le_of_ble_eq_true rfl) (h := x + 4 + 10 * n) z2 d_law_13 (fun H3 n3 => ?_)
  have hO3 := hq_On hO2 n3 (by omega)
  have k3 : va_at D vwCl (x + 4 + 10 * n, .inr (6, [.int (0), .int (0), .null, .null, .null, .null, .null, .null, .null, .null, .null, .null, .null, .null, .null, .null, .null, .null, .null, .null, .null, .null, .null, .null, .null, .null, .null, .null, .null, .null, .null, .null])) H3 := n3.2.2
  have z3 := n3.1
  have hBus3 : busP D cI cZ cN x n (fun _ => N0) (fun _ => R0) (fun _ => 0) (fun _ => 0) H3 := ⟨hq_Bn hBus2.1 n3 (by omega), fun i hi => hq_Bn (hBus2.2 i hi) n3 (by omega)⟩
  refine W.eq (g2 := F0 m 16 ls [.ref (x + 4 + 10 * n)]) rfl ?_
  refine lv_dup C.1 C.2.1 d_law_16 rfl ?_
  refine lv_aload_n C.1 C.2.1 d_law_17 rfl (lv_at hl 1 rfl) ?_
  refine lv_iconst (v := 0) C.1 C.2.1 d_law_18 (by decide) ?_
  refine hq_callS (lo := x) (As := [.ref b, .int 0]) (rest := [.ref (x + 4 + 10 * n), .ref (x + 4 + 10 * n)]) C tb_good hml Y_L_42 (c_cell l D cI cZ cN cJ x b L xs (by omega)) (fun _ _ _ _ h => h) (fun U hU hW => ⟨by rw [hU]; exact (hXL.moved hW.alike).kept (hO3 b hb), by rw [hU]; omega⟩) hL hl.1 rfl rfl ⟨⟨Nat.le_of_ble_eq_true rfl, Nat.le_of_ble_eq_true rfl⟩, Nat.le_of_ble_eq_true rfl, Nat.le_of_ble_eq_true rfl⟩ (Nat.le_of_ble_eq_true rfl) d_law_19 (fun v H9 locs hp hL => ?_)
  obtain ⟨rfl, rfl⟩ := hp
  refine W.eq (g2 := F0 m 22 ls [.int (cel L xs), .ref (x + 4 + 10 * n), .ref (x + 4 + 10 * n)]) rfl ?_
  refine hq_callI (lo := x) (b := x + 4 + 10 * n) (As := [.int (cel L xs)]) (rest := [.ref (x + 4 + 10 * n)]) C tb_good hml Y_L_53 (c_M_init l D cI cZ cN cJ x (x + 4 + 10 * n) (cel L xs) (by omega)) (fun _ _ _ _ h => h) (fun U hU hW => ⟨by rw [hU]; exact n3.1, by rw [hU]; exact k3⟩) hL hl.1 rfl rfl ⟨⟨Nat.le_of_ble_eq_true rfl, Nat.le_of_ble_eq_true rfl⟩, Nat.le_of_ble_eq_true rfl, Nat.le_of_ble_eq_true rfl⟩ (Nat.le_of_ble_eq_true rfl) d_law_22 (fun v H4 locs hp hL => ?_)
  obtain ⟨rfl, z4, hMd4, o4⟩ := hp
  rw [hcl] at hMd4
  have hO4 := hq_Oo hO3 o4 (by omega)
  have hBus4 : busP D cI cZ cN x n (fun _ => N0) (fun _ => R0) (fun _ => 0) (fun _ => 0) H4 := ⟨hq_Bo hBus3.1 o4 (by omega), fun i hi => hq_Bo (hBus3.2 i hi) o4 (by omega)⟩
  refine W.eq (g2 := F0 m 25 ls [.ref (x + 4 + 10 * n)]) rfl ?_
  refine lv_astore_n C.1 C.2.1 d_law_25 rfl hl (by decide) rfl (lv' := [(2, .ref (x + 4 + 10 * n)), (1, .ref (x)), (0, .ref (b))]) (fun ls hl => ?_)
  refine lv_iconst (v := 1) C.1 C.2.1 d_law_26 (by decide) ?_
  refine hq_newa C (by decide +kernel) 3 rfl (a0 := (1, .inr (.inl (fun _ => 0)))) (N' := 1) (h := x + 4 + 10 * n + 31) (by first | rfl | exact vp_cell_l _ _ _ | exact vp_cell_j _ _ _) (by decide) (by decide) (by decide) (Nat.le_of_ble_eq_true rfl) (Nat.le_of_ble_eq_true rfl) z4 d_law_27 (fun H5 n5 => ?_)
  have hO5 := hq_On hO4 n5 (by omega)
  have hBus5 : busP D cI cZ cN x n (fun _ => N0) (fun _ => R0) (fun _ => 0) (fun _ => 0) H5 := ⟨hq_Bn hBus4.1 n5 (by omega), fun i hi => hq_Bn (hBus4.2 i hi) n5 (by omega)⟩
  have hMd5 := hq_Bn hMd4 n5 (by omega)
  refine W.eq (g2 := F0 m 29 ls [.ref (x + 4 + 10 * n + 31)]) rfl ?_
  refine lv_astore_n C.1 C.2.1 d_law_29 rfl hl (by decide) rfl (lv' := [(3, .ref (x + 4 + 10 * n + 31)), (2, .ref (x + 4 + 10 * n)), (1, .ref (x)), (0, .ref (b))]) (fun ls hl => ?_)
  refine lv_iconst (v := 1) C.1 C.2.1 d_law_30 (by decide) ?_
  refine lv_istore C.1 C.2.1 d_law_31 hl (by decide) rfl (lv' := [(4, .int (1)), (3, .ref (x + 4 + 10 * n + 31)), (2, .ref (x + 4 + 10 * n)), (1, .ref (x)), (0, .ref (b))]) (fun ls hl => ?_)
  exact l_loop C hml hret hlk hx rfl rfl hXL hLN hb htr hn4 hE hNc 512 1 0 H5 _ _ _ _ (by omega) ⟨rfl, Nat.zero_le _⟩ (Nat.le_of_ble_eq_true rfl) (Nat.le_of_ble_eq_true rfl) hL ⟨u0, fun _ _ => 0, 0, fun _ => 0, 0, Nat.zero_le _, ok_new n, okA_new, nI_0.symm, SB_new n, hO5, bus_new hBus5, hMd5, n5.2.2, by have := n5.1; omega⟩ hl
end LAWBEGIN
