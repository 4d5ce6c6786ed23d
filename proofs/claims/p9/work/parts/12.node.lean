/-! A node: ten cells from b on; N: its numbers and those of its parts, R: its four rows. -/
def ndC (cI cZ : ClassId) (b : Nat) (N : Nat → Int32) (R : Nat → Nat → Int32) : Nat → va_E := fun j => match j with
  | 0 => .inr (3, [.ref (b + 1), .ref (b + 3), .ref (b + 5), .ref (b + 7), .ref (b + 9), .int (N 0), .int (N 1), .int (N 2), .int (N 3), .int (N 4), .int (N 5), .int (N 6), .int (N 7), .int (N 8), .int (N 9), .int (N 10), .int (N 11), .int (N 12)])
  | 1 => .inr (2, [.ref (b + 2), .int (N 13)])
  | 2 => .inl (cI, 4, .inl (R 0))
  | 3 => .inr (2, [.ref (b + 4), .int (N 14)])
  | 4 => .inl (cI, 4, .inl (R 1))
  | 5 => .inr (1, [.ref (b + 6), .int (N 15)])
  | 6 => .inl (cZ, 201, .inl (R 2))
  | 7 => .inr (0, [.ref (b + 8), .int (N 16), .int (N 17)])
  | 8 => .inl (cI, 50, .inl (R 3))
  | _ => .inr (4, [.int (N 18), .int (N 19), .int (N 20), .int (N 21), .int (N 22), .int (N 23), .int (N 24), .int (N 25)])
/-- a new node's numbers -/
def N0 : Nat → Int32 := fun k => match k with
  | 8 => 1
  | 19 => 50
  | 20 => 1
  | _ => 0
def R0 : Nat → Nat → Int32 := fun _ _ => 0
/-- the links to nest mates' constructors -/
def hq_NW (U : State) : Prop := va_Nw (.methodLinkNest R_No 11 y_Fr_init R_X) U ∧ va_Nw (.methodLinkNest R_No 23 y_Di_init R_X) U ∧ va_Nw (.methodLinkNest R_No 30 y_Co_init R_X) U ∧ va_Nw (.methodLinkNest R_No 37 y_Re_init R_X) U ∧ va_Nw (.methodLinkNest R_X 31 y_No_init R_X) U
theorem hq_NW.warm {s U : State} (hW : s.WarmedH U.vm) (h : hq_NW s) : hq_NW U := ⟨va_Nw.warmM hW h.1, va_Nw.warmM hW h.2.1, va_Nw.warmM hW h.2.2.1, va_Nw.warmM hW h.2.2.2.1, va_Nw.warmM hW h.2.2.2.2⟩
theorem hq_NW.call {a : Array Value} {U : State} {g : JFrame} {mk : MethodId} (h : hq_NW U) : hq_NW (U.calling g mk a) := ⟨va_Nw.same rfl (rfl : U.vm = (U.calling g mk a).vm) h.1, va_Nw.same rfl (rfl : U.vm = (U.calling g mk a).vm) h.2.1, va_Nw.same rfl (rfl : U.vm = (U.calling g mk a).vm) h.2.2.1, va_Nw.same rfl (rfl : U.vm = (U.calling g mk a).vm) h.2.2.2.1, va_Nw.same rfl (rfl : U.vm = (U.calling g mk a).vm) h.2.2.2.2⟩
set_option maxHeartbeats 4000000 in
set_option maxRecDepth 100000 in
theorem c_No_init (l : Launch) (D : va_G) (cI cZ cN cJ : ClassId) (lo : Nat) (b : Nat) (hlo : lo ≤ b) : hq_M l y_No_init b_No_init 1 none TB { frames := 2, cells := 9, slots := 276, locals := 40 } lo D vwCl (TY cI cZ cN cJ) [.ref b] (fun U => hq_NW U ∧ U.heap.size = b + 1 ∧ va_at D vwCl (b, .inr (3, [.null, .null, .null, .null, .null, .int (0), .int (0), .int (0), .int (0), .int (0), .int (0), .int (0), .int (0), .int (0), .int (0), .int (0), .int (0), .int (0)])) U.heap) (fun H v H' => v = none ∧ H'.size = b + 10 ∧ hq_B D vwCl b 10 (ndC cI cZ b N0 R0) H' ∧ hq_O b H H') := by
  refine hq_ofW (by decide) (Nat.le_of_ble_eq_true rfl) ?_
  intro p e s m below meth c ls C hml hret hlk hnm hl hP
  obtain ⟨⟨w1, w2, w3, w4, w5⟩, hz, k0⟩ := hP
  have hL : hq_L lo [] := hq_L0
  have hl : lv_has ls 1 [(0, .ref b)] := hl
  refine lv_aload_n C.1 C.2.1 d_No_init_0 rfl (lv_at hl 0 rfl) ?_
  refine W.objInit C.1 C.2.1 C.2.2.1 (C.2.2.2.1 _ oi_No) (C.2.2.2.1 _ oi_inst) (C.2.2.2.1 _ oi_code) rfl (by rw [hml]; exact hl.1) rfl d_No_init_1 (Nat.le_of_ble_eq_true rfl) (Nat.le_of_ble_eq_true rfl) ?_
  refine W.eq (g2 := F0 m 4 ls []) rfl ?_
  refine lv_aload_n C.1 C.2.1 d_No_init_4 rfl (lv_at hl 0 rfl) ?_
  refine hq_new C k_Fr (by decide +kernel) (by decide +kernel) (by decide +kernel) (fs := [.null, .int (0)]) (by decide +kernel) (Nat.le_of_ble_eq_true rfl) (Nat.le_of_ble_eq_true rfl) (h := b + 1) hz d_No_init_5 (fun H1 n2 => ?_)
  have k3 : va_at D vwCl (b + 1, .inr (2, [.null, .int (0)])) H1 := n2.2.2
  refine lv_dup C.1 C.2.1 d_No_init_8 rfl ?_
  refine hq_callIN (lo := lo) (As := []) (rest := [.ref (b + 1), .ref (b)]) C tb_good hml Y_No_11 w1 (c_Fr_init l D cI cZ cN cJ lo (b + 1) (by omega)) (fun _ _ _ _ h => h) (fun U hU hW => ⟨by rw [hU]; exact n2.1, by rw [hU]; exact k3⟩) hL hl.1 rfl rfl ⟨⟨Nat.le_of_ble_eq_true rfl, Nat.le_of_ble_eq_true rfl⟩, Nat.le_of_ble_eq_true rfl, Nat.le_of_ble_eq_true rfl⟩ (Nat.le_of_ble_eq_true rfl) d_No_init_9 (fun v H4 locs hp hL => ?_)
  obtain ⟨rfl, z5, B6, o7⟩ := hp
  refine W.eq (g2 := F0 m 12 ls [.ref (b + 1), .ref (b)]) rfl ?_
  have k8 : va_at D vwCl (b + 1, .inr (2, [.ref (b + 2), .int (0)])) H4 := B6 0 (by decide)
  have k9 : va_at D vwCl (b + 2, .inl (cI, 4, .inl (fun _ => 0))) H4 := B6 1 (by decide)
  have k10 := hq_ao (hq_an k0 n2 (by omega)) o7 (by omega)
  refine hq_putF (lo := lo) C f_No_12 hnm (fun r hr => by cases hr; rfl) k10 rfl rfl (Nat.le_of_ble_eq_true rfl) hL (by omega) d_No_init_12 (fun H11 locs u12 hL => ?_)
  have k13 : va_at D vwCl (b, .inr (3, [.ref (b + 1), .null, .null, .null, .null, .int (0), .int (0), .int (0), .int (0), .int (0), .int (0), .int (0), .int (0), .int (0), .int (0), .int (0), .int (0), .int (0)])) H11 := u12.2.2
  have z14 := u12.1
  refine lv_aload_n C.1 C.2.1 d_No_init_15 rfl (lv_at hl 0 rfl) ?_
  refine hq_new C k_Fr (by decide +kernel) (by decide +kernel) (by decide +kernel) (fs := [.null, .int (0)]) (by decide +kernel) (Nat.le_of_ble_eq_true rfl) (Nat.le_of_ble_eq_true rfl) (h := b + 3) (by omega) d_No_init_16 (fun H15 n16 => ?_)
  have k17 : va_at D vwCl (b + 3, .inr (2, [.null, .int (0)])) H15 := n16.2.2
  refine lv_dup C.1 C.2.1 d_No_init_19 rfl ?_
  refine hq_callIN (lo := lo) (As := []) (rest := [.ref (b + 3), .ref (b)]) C tb_good hml Y_No_11 w1 (c_Fr_init l D cI cZ cN cJ lo (b + 3) (by omega)) (fun _ _ _ _ h => h) (fun U hU hW => ⟨by rw [hU]; exact n16.1, by rw [hU]; exact k17⟩) hL hl.1 rfl rfl ⟨⟨Nat.le_of_ble_eq_true rfl, Nat.le_of_ble_eq_true rfl⟩, Nat.le_of_ble_eq_true rfl, Nat.le_of_ble_eq_true rfl⟩ (Nat.le_of_ble_eq_true rfl) d_No_init_20 (fun v H18 locs hp hL => ?_)
  obtain ⟨rfl, z19, B20, o21⟩ := hp
  refine W.eq (g2 := F0 m 23 ls [.ref (b + 3), .ref (b)]) rfl ?_
  have k22 : va_at D vwCl (b + 3, .inr (2, [.ref (b + 4), .int (0)])) H18 := B20 0 (by decide)
  have k23 : va_at D vwCl (b + 4, .inl (cI, 4, .inl (fun _ => 0))) H18 := B20 1 (by decide)
  have k24 := hq_ao (hq_an k13 n16 (by omega)) o21 (by omega)
  refine hq_putF (lo := lo) C f_No_18 hnm (fun r hr => by cases hr; rfl) k24 rfl rfl (Nat.le_of_ble_eq_true rfl) hL (by omega) d_No_init_23 (fun H25 locs u26 hL => ?_)
  have k27 : va_at D vwCl (b, .inr (3, [.ref (b + 1), .ref (b + 3), .null, .null, .null, .int (0), .int (0), .int (0), .int (0), .int (0), .int (0), .int (0), .int (0), .int (0), .int (0), .int (0), .int (0), .int (0)])) H25 := u26.2.2
  have z28 := u26.1
  refine lv_aload_n C.1 C.2.1 d_No_init_26 rfl (lv_at hl 0 rfl) ?_
  refine hq_new C k_Di (by decide +kernel) (by decide +kernel) (by decide +kernel) (fs := [.null, .int (0)]) (by decide +kernel) (Nat.le_of_ble_eq_true rfl) (Nat.le_of_ble_eq_true rfl) (h := b + 5) (by omega) d_No_init_27 (fun H29 n30 => ?_)
  have k31 : va_at D vwCl (b + 5, .inr (1, [.null, .int (0)])) H29 := n30.2.2
  refine lv_dup C.1 C.2.1 d_No_init_30 rfl ?_
  refine hq_callIN (lo := lo) (As := []) (rest := [.ref (b + 5), .ref (b)]) C tb_good hml Y_No_23 w2 (c_Di_init l D cI cZ cN cJ lo (b + 5) (by omega)) (fun _ _ _ _ h => h) (fun U hU hW => ⟨by rw [hU]; exact n30.1, by rw [hU]; exact k31⟩) hL hl.1 rfl rfl ⟨⟨Nat.le_of_ble_eq_true rfl, Nat.le_of_ble_eq_true rfl⟩, Nat.le_of_ble_eq_true rfl, Nat.le_of_ble_eq_true rfl⟩ (Nat.le_of_ble_eq_true rfl) d_No_init_31 (fun v H32 locs hp hL => ?_)
  obtain ⟨rfl, z33, B34, o35⟩ := hp
  refine W.eq (g2 := F0 m 34 ls [.ref (b + 5), .ref (b)]) rfl ?_
  have k36 : va_at D vwCl (b + 5, .inr (1, [.ref (b + 6), .int (0)])) H32 := B34 0 (by decide)
  have k37 : va_at D vwCl (b + 6, .inl (cZ, 201, .inl (fun _ => 0))) H32 := B34 1 (by decide)
  have k38 := hq_ao (hq_an k27 n30 (by omega)) o35 (by omega)
  refine hq_putF (lo := lo) C f_No_24 hnm (fun r hr => by cases hr; rfl) k38 rfl rfl (Nat.le_of_ble_eq_true rfl) hL (by omega) d_No_init_34 (fun H39 locs u40 hL => ?_)
  have k41 : va_at D vwCl (b, .inr (3, [.ref (b + 1), .ref (b + 3), .ref (b + 5), .null, .null, .int (0), .int (0), .int (0), .int (0), .int (0), .int (0), .int (0), .int (0), .int (0), .int (0), .int (0), .int (0), .int (0)])) H39 := u40.2.2
  have z42 := u40.1
  refine lv_aload_n C.1 C.2.1 d_No_init_37 rfl (lv_at hl 0 rfl) ?_
  refine hq_new C k_Co (by decide +kernel) (by decide +kernel) (by decide +kernel) (fs := [.null, .int (0), .int (0)]) (by decide +kernel) (Nat.le_of_ble_eq_true rfl) (Nat.le_of_ble_eq_true rfl) (h := b + 7) (by omega) d_No_init_38 (fun H43 n44 => ?_)
  have k45 : va_at D vwCl (b + 7, .inr (0, [.null, .int (0), .int (0)])) H43 := n44.2.2
  refine lv_dup C.1 C.2.1 d_No_init_41 rfl ?_
  refine hq_callIN (lo := lo) (As := []) (rest := [.ref (b + 7), .ref (b)]) C tb_good hml Y_No_30 w3 (c_Co_init l D cI cZ cN cJ lo (b + 7) (by omega)) (fun _ _ _ _ h => h) (fun U hU hW => ⟨by rw [hU]; exact n44.1, by rw [hU]; exact k45⟩) hL hl.1 rfl rfl ⟨⟨Nat.le_of_ble_eq_true rfl, Nat.le_of_ble_eq_true rfl⟩, Nat.le_of_ble_eq_true rfl, Nat.le_of_ble_eq_true rfl⟩ (Nat.le_of_ble_eq_true rfl) d_No_init_42 (fun v H46 locs hp hL => ?_)
  obtain ⟨rfl, z47, B48, o49⟩ := hp
  refine W.eq (g2 := F0 m 45 ls [.ref (b + 7), .ref (b)]) rfl ?_
  have k50 : va_at D vwCl (b + 7, .inr (0, [.ref (b + 8), .int (0), .int (0)])) H46 := B48 0 (by decide)
  have k51 : va_at D vwCl (b + 8, .inl (cI, 50, .inl (fun _ => 0))) H46 := B48 1 (by decide)
  have k52 := hq_ao (hq_an k41 n44 (by omega)) o49 (by omega)
  refine hq_putF (lo := lo) C f_No_31 hnm (fun r hr => by cases hr; rfl) k52 rfl rfl (Nat.le_of_ble_eq_true rfl) hL (by omega) d_No_init_45 (fun H53 locs u54 hL => ?_)
  have k55 : va_at D vwCl (b, .inr (3, [.ref (b + 1), .ref (b + 3), .ref (b + 5), .ref (b + 7), .null, .int (0), .int (0), .int (0), .int (0), .int (0), .int (0), .int (0), .int (0), .int (0), .int (0), .int (0), .int (0), .int (0)])) H53 := u54.2.2
  have z56 := u54.1
  refine lv_aload_n C.1 C.2.1 d_No_init_48 rfl (lv_at hl 0 rfl) ?_
  refine hq_new C k_Re (by decide +kernel) (by decide +kernel) (by decide +kernel) (fs := [.int (0), .int (0), .int (0), .int (0), .int (0), .int (0), .int (0), .int (0)]) (by decide +kernel) (Nat.le_of_ble_eq_true rfl) (Nat.le_of_ble_eq_true rfl) (h := b + 9) (by omega) d_No_init_49 (fun H57 n58 => ?_)
  have k59 : va_at D vwCl (b + 9, .inr (4, [.int (0), .int (0), .int (0), .int (0), .int (0), .int (0), .int (0), .int (0)])) H57 := n58.2.2
  refine lv_dup C.1 C.2.1 d_No_init_52 rfl ?_
  refine hq_callIN (lo := lo) (As := []) (rest := [.ref (b + 9), .ref (b)]) C tb_good hml Y_No_37 w4 (c_Re_init l D cI cZ cN cJ lo (b + 9) (by omega)) (fun _ _ _ _ h => h) (fun U hU hW => ⟨by rw [hU]; exact n58.1, by rw [hU]; exact k59⟩) hL hl.1 rfl rfl ⟨⟨Nat.le_of_ble_eq_true rfl, Nat.le_of_ble_eq_true rfl⟩, Nat.le_of_ble_eq_true rfl, Nat.le_of_ble_eq_true rfl⟩ (Nat.le_of_ble_eq_true rfl) d_No_init_53 (fun v H60 locs hp hL => ?_)
  obtain ⟨rfl, z61, B62, o63⟩ := hp
  refine W.eq (g2 := F0 m 56 ls [.ref (b + 9), .ref (b)]) rfl ?_
  have k64 : va_at D vwCl (b + 9, .inr (4, [.int (0), .int (50), .int (1), .int (0), .int (0), .int (0), .int (0), .int (0)])) H60 := B62 0 (by decide)
  have k65 := hq_ao (hq_an k55 n58 (by omega)) o63 (by omega)
  refine hq_putF (lo := lo) C f_No_38 hnm (fun r hr => by cases hr; rfl) k65 rfl rfl (Nat.le_of_ble_eq_true rfl) hL (by omega) d_No_init_56 (fun H66 locs u67 hL => ?_)
  have k68 : va_at D vwCl (b, .inr (3, [.ref (b + 1), .ref (b + 3), .ref (b + 5), .ref (b + 7), .ref (b + 9), .int (0), .int (0), .int (0), .int (0), .int (0), .int (0), .int (0), .int (0), .int (0), .int (0), .int (0), .int (0), .int (0)])) H66 := u67.2.2
  have z69 := u67.1
  refine lv_aload_n C.1 C.2.1 d_No_init_59 rfl (lv_at hl 0 rfl) ?_
  refine lv_iconst (v := 0) C.1 C.2.1 d_No_init_60 (by decide) ?_
  refine hq_put (lo := lo) C f_No_42 k68 rfl rfl (Nat.le_of_ble_eq_true rfl) hL (by omega) d_No_init_61 (fun H70 locs u71 hL => ?_)
  have k72 : va_at D vwCl (b, .inr (3, [.ref (b + 1), .ref (b + 3), .ref (b + 5), .ref (b + 7), .ref (b + 9), .int (0), .int (0), .int (0), .int (0), .int (0), .int (0), .int (0), .int (0), .int (0), .int (0), .int (0), .int (0), .int (0)])) H70 := u71.2.2
  refine lv_aload_n C.1 C.2.1 d_No_init_64 rfl (lv_at hl 0 rfl) ?_
  refine lv_iconst (v := 0) C.1 C.2.1 d_No_init_65 (by decide) ?_
  refine hq_put (lo := lo) C f_No_46 k72 rfl rfl (Nat.le_of_ble_eq_true rfl) hL (by omega) d_No_init_66 (fun H73 locs u74 hL => ?_)
  have k75 : va_at D vwCl (b, .inr (3, [.ref (b + 1), .ref (b + 3), .ref (b + 5), .ref (b + 7), .ref (b + 9), .int (0), .int (0), .int (0), .int (0), .int (0), .int (0), .int (0), .int (0), .int (0), .int (0), .int (0), .int (0), .int (0)])) H73 := u74.2.2
  refine lv_aload_n C.1 C.2.1 d_No_init_69 rfl (lv_at hl 0 rfl) ?_
  refine lv_iconst (v := 0) C.1 C.2.1 d_No_init_70 (by decide) ?_
  refine hq_put (lo := lo) C f_No_49 k75 rfl rfl (Nat.le_of_ble_eq_true rfl) hL (by omega) d_No_init_71 (fun H76 locs u77 hL => ?_)
  have k78 : va_at D vwCl (b, .inr (3, [.ref (b + 1), .ref (b + 3), .ref (b + 5), .ref (b + 7), .ref (b + 9), .int (0), .int (0), .int (0), .int (0), .int (0), .int (0), .int (0), .int (0), .int (0), .int (0), .int (0), .int (0), .int (0)])) H76 := u77.2.2
  refine lv_aload_n C.1 C.2.1 d_No_init_74 rfl (lv_at hl 0 rfl) ?_
  refine lv_iconst (v := 0) C.1 C.2.1 d_No_init_75 (by decide) ?_
  refine hq_put (lo := lo) C f_No_52 k78 rfl rfl (Nat.le_of_ble_eq_true rfl) hL (by omega) d_No_init_76 (fun H79 locs u80 hL => ?_)
  have k81 : va_at D vwCl (b, .inr (3, [.ref (b + 1), .ref (b + 3), .ref (b + 5), .ref (b + 7), .ref (b + 9), .int (0), .int (0), .int (0), .int (0), .int (0), .int (0), .int (0), .int (0), .int (0), .int (0), .int (0), .int (0), .int (0)])) H79 := u80.2.2
  refine lv_aload_n C.1 C.2.1 d_No_init_79 rfl (lv_at hl 0 rfl) ?_
  refine lv_iconst (v := 0) C.1 C.2.1 d_No_init_80 (by decide) ?_
  refine hq_put (lo := lo) C f_No_55 k81 rfl rfl (Nat.le_of_ble_eq_true rfl) hL (by omega) d_No_init_81 (fun H82 locs u83 hL => ?_)
  have k84 : va_at D vwCl (b, .inr (3, [.ref (b + 1), .ref (b + 3), .ref (b + 5), .ref (b + 7), .ref (b + 9), .int (0), .int (0), .int (0), .int (0), .int (0), .int (0), .int (0), .int (0), .int (0), .int (0), .int (0), .int (0), .int (0)])) H82 := u83.2.2
  refine lv_aload_n C.1 C.2.1 d_No_init_84 rfl (lv_at hl 0 rfl) ?_
  refine lv_iconst (v := 0) C.1 C.2.1 d_No_init_85 (by decide) ?_
  refine hq_put (lo := lo) C f_No_58 k84 rfl rfl (Nat.le_of_ble_eq_true rfl) hL (by omega) d_No_init_86 (fun H85 locs u86 hL => ?_)
  have k87 : va_at D vwCl (b, .inr (3, [.ref (b + 1), .ref (b + 3), .ref (b + 5), .ref (b + 7), .ref (b + 9), .int (0), .int (0), .int (0), .int (0), .int (0), .int (0), .int (0), .int (0), .int (0), .int (0), .int (0), .int (0), .int (0)])) H85 := u86.2.2
  refine lv_aload_n C.1 C.2.1 d_No_init_89 rfl (lv_at hl 0 rfl) ?_
  refine lv_iconst (v := 0) C.1 C.2.1 d_No_init_90 (by decide) ?_
  refine hq_put (lo := lo) C f_No_61 k87 rfl rfl (Nat.le_of_ble_eq_true rfl) hL (by omega) d_No_init_91 (fun H88 locs u89 hL => ?_)
  have k90 : va_at D vwCl (b, .inr (3, [.ref (b + 1), .ref (b + 3), .ref (b + 5), .ref (b + 7), .ref (b + 9), .int (0), .int (0), .int (0), .int (0), .int (0), .int (0), .int (0), .int (0), .int (0), .int (0), .int (0), .int (0), .int (0)])) H88 := u89.2.2
  refine lv_aload_n C.1 C.2.1 d_No_init_94 rfl (lv_at hl 0 rfl) ?_
  refine lv_iconst (v := 0) C.1 C.2.1 d_No_init_95 (by decide) ?_
  refine hq_put (lo := lo) C f_No_64 k90 rfl rfl (Nat.le_of_ble_eq_true rfl) hL (by omega) d_No_init_96 (fun H91 locs u92 hL => ?_)
  have k93 : va_at D vwCl (b, .inr (3, [.ref (b + 1), .ref (b + 3), .ref (b + 5), .ref (b + 7), .ref (b + 9), .int (0), .int (0), .int (0), .int (0), .int (0), .int (0), .int (0), .int (0), .int (0), .int (0), .int (0), .int (0), .int (0)])) H91 := u92.2.2
  refine lv_aload_n C.1 C.2.1 d_No_init_99 rfl (lv_at hl 0 rfl) ?_
  refine lv_iconst (v := 1) C.1 C.2.1 d_No_init_100 (by decide) ?_
  refine hq_put (lo := lo) C f_No_67 k93 rfl rfl (Nat.le_of_ble_eq_true rfl) hL (by omega) d_No_init_101 (fun H94 locs u95 hL => ?_)
  have k96 : va_at D vwCl (b, .inr (3, [.ref (b + 1), .ref (b + 3), .ref (b + 5), .ref (b + 7), .ref (b + 9), .int (0), .int (0), .int (0), .int (0), .int (0), .int (0), .int (0), .int (0), .int (1), .int (0), .int (0), .int (0), .int (0)])) H94 := u95.2.2
  refine lv_aload_n C.1 C.2.1 d_No_init_104 rfl (lv_at hl 0 rfl) ?_
  refine lv_iconst (v := 0) C.1 C.2.1 d_No_init_105 (by decide) ?_
  refine hq_put (lo := lo) C f_No_70 k96 (by decide) rfl (Nat.le_of_ble_eq_true rfl) hL (by omega) d_No_init_106 (fun H97 locs u98 hL => ?_)
  have k99 : va_at D vwCl (b, .inr (3, [.ref (b + 1), .ref (b + 3), .ref (b + 5), .ref (b + 7), .ref (b + 9), .int (0), .int (0), .int (0), .int (0), .int (0), .int (0), .int (0), .int (0), .int (1), .int (0), .int (0), .int (0), .int (0)])) H97 := u98.2.2
  refine lv_aload_n C.1 C.2.1 d_No_init_109 rfl (lv_at hl 0 rfl) ?_
  refine lv_iconst (v := 0) C.1 C.2.1 d_No_init_110 (by decide) ?_
  refine hq_put (lo := lo) C f_No_74 k99 rfl rfl (Nat.le_of_ble_eq_true rfl) hL (by omega) d_No_init_111 (fun H100 locs u101 hL => ?_)
  have k102 : va_at D vwCl (b, .inr (3, [.ref (b + 1), .ref (b + 3), .ref (b + 5), .ref (b + 7), .ref (b + 9), .int (0), .int (0), .int (0), .int (0), .int (0), .int (0), .int (0), .int (0), .int (1), .int (0), .int (0), .int (0), .int (0)])) H100 := u101.2.2
  refine lv_aload_n C.1 C.2.1 d_No_init_114 rfl (lv_at hl 0 rfl) ?_
  refine lv_iconst (v := 0) C.1 C.2.1 d_No_init_115 (by decide) ?_
  refine hq_put (lo := lo) C f_No_77 k102 rfl rfl (Nat.le_of_ble_eq_true rfl) hL (by omega) d_No_init_116 (fun H103 locs u104 hL => ?_)
  have k105 : va_at D vwCl (b, .inr (3, [.ref (b + 1), .ref (b + 3), .ref (b + 5), .ref (b + 7), .ref (b + 9), .int (0), .int (0), .int (0), .int (0), .int (0), .int (0), .int (0), .int (0), .int (1), .int (0), .int (0), .int (0), .int (0)])) H103 := u104.2.2
  refine lv_aload_n C.1 C.2.1 d_No_init_119 rfl (lv_at hl 0 rfl) ?_
  refine lv_iconst (v := 0) C.1 C.2.1 d_No_init_120 (by decide) ?_
  refine hq_put (lo := lo) C f_No_80 k105 rfl rfl (Nat.le_of_ble_eq_true rfl) hL (by omega) d_No_init_121 (fun H106 locs u107 hL => ?_)
  have k108 : va_at D vwCl (b, .inr (3, [.ref (b + 1), .ref (b + 3), .ref (b + 5), .ref (b + 7), .ref (b + 9), .int (0), .int (0), .int (0), .int (0), .int (0), .int (0), .int (0), .int (0), .int (1), .int (0), .int (0), .int (0), .int (0)])) H106 := u107.2.2
  have hO : hq_O b s.heap H106 := fun q hq => ((u107.2.1 q (by omega)).trans ((u104.2.1 q (by omega)).trans ((u101.2.1 q (by omega)).trans ((u98.2.1 q (by omega)).trans ((u95.2.1 q (by omega)).trans ((u92.2.1 q (by omega)).trans ((u89.2.1 q (by omega)).trans ((u86.2.1 q (by omega)).trans ((u83.2.1 q (by omega)).trans ((u80.2.1 q (by omega)).trans ((u77.2.1 q (by omega)).trans ((u74.2.1 q (by omega)).trans ((u71.2.1 q (by omega)).trans ((u67.2.1 q (by omega)).trans ((o63 q (by omega)).trans ((n58.2.1 q (by omega)).trans ((u54.2.1 q (by omega)).trans ((o49 q (by omega)).trans ((n44.2.1 q (by omega)).trans ((u40.2.1 q (by omega)).trans ((o35 q (by omega)).trans ((n30.2.1 q (by omega)).trans ((u26.2.1 q (by omega)).trans ((o21 q (by omega)).trans ((n16.2.1 q (by omega)).trans ((u12.2.1 q (by omega)).trans ((o7 q (by omega)).trans (n2.2.1 q (by omega)))))))))))))))))))))))))))))
  have hsz : H106.size = b + 10 := by
    have z_n2 := n2.1
    have z_u12 := u12.1
    have z_n16 := n16.1
    have z_u26 := u26.1
    have z_n30 := n30.1
    have z_u40 := u40.1
    have z_n44 := n44.1
    have z_u54 := u54.1
    have z_n58 := n58.1
    have z_u67 := u67.1
    have z_u71 := u71.1
    have z_u74 := u74.1
    have z_u77 := u77.1
    have z_u80 := u80.1
    have z_u83 := u83.1
    have z_u86 := u86.1
    have z_u89 := u89.1
    have z_u92 := u92.1
    have z_u95 := u95.1
    have z_u98 := u98.1
    have z_u101 := u101.1
    have z_u104 := u104.1
    have z_u107 := u107.1
    omega
  have k109 := hq_au (hq_au (hq_au (hq_au (hq_au (hq_au (hq_au (hq_au (hq_au (hq_au (hq_au (hq_au (hq_au (hq_au (hq_ao (hq_an (hq_au (hq_ao (hq_an (hq_au (hq_ao (hq_an (hq_au (hq_ao (hq_an (hq_au k8 u12 (by omega)) n16 (by omega)) o21 (by omega)) u26 (by omega)) n30 (by omega)) o35 (by omega)) u40 (by omega)) n44 (by omega)) o49 (by omega)) u54 (by omega)) n58 (by omega)) o63 (by omega)) u67 (by omega)) u71 (by omega)) u74 (by omega)) u77 (by omega)) u80 (by omega)) u83 (by omega)) u86 (by omega)) u89 (by omega)) u92 (by omega)) u95 (by omega)) u98 (by omega)) u101 (by omega)) u104 (by omega)) u107 (by omega)
  have k110 := hq_au (hq_au (hq_au (hq_au (hq_au (hq_au (hq_au (hq_au (hq_au (hq_au (hq_au (hq_au (hq_au (hq_au (hq_ao (hq_an (hq_au (hq_ao (hq_an (hq_au (hq_ao (hq_an (hq_au (hq_ao (hq_an (hq_au k9 u12 (by omega)) n16 (by omega)) o21 (by omega)) u26 (by omega)) n30 (by omega)) o35 (by omega)) u40 (by omega)) n44 (by omega)) o49 (by omega)) u54 (by omega)) n58 (by omega)) o63 (by omega)) u67 (by omega)) u71 (by omega)) u74 (by omega)) u77 (by omega)) u80 (by omega)) u83 (by omega)) u86 (by omega)) u89 (by omega)) u92 (by omega)) u95 (by omega)) u98 (by omega)) u101 (by omega)) u104 (by omega)) u107 (by omega)
  have k111 := hq_au (hq_au (hq_au (hq_au (hq_au (hq_au (hq_au (hq_au (hq_au (hq_au (hq_au (hq_au (hq_au (hq_au (hq_ao (hq_an (hq_au (hq_ao (hq_an (hq_au (hq_ao (hq_an (hq_au k22 u26 (by omega)) n30 (by omega)) o35 (by omega)) u40 (by omega)) n44 (by omega)) o49 (by omega)) u54 (by omega)) n58 (by omega)) o63 (by omega)) u67 (by omega)) u71 (by omega)) u74 (by omega)) u77 (by omega)) u80 (by omega)) u83 (by omega)) u86 (by omega)) u89 (by omega)) u92 (by omega)) u95 (by omega)) u98 (by omega)) u101 (by omega)) u104 (by omega)) u107 (by omega)
  have k112 := hq_au (hq_au (hq_au (hq_au (hq_au (hq_au (hq_au (hq_au (hq_au (hq_au (hq_au (hq_au (hq_au (hq_au (hq_ao (hq_an (hq_au (hq_ao (hq_an (hq_au (hq_ao (hq_an (hq_au k23 u26 (by omega)) n30 (by omega)) o35 (by omega)) u40 (by omega)) n44 (by omega)) o49 (by omega)) u54 (by omega)) n58 (by omega)) o63 (by omega)) u67 (by omega)) u71 (by omega)) u74 (by omega)) u77 (by omega)) u80 (by omega)) u83 (by omega)) u86 (by omega)) u89 (by omega)) u92 (by omega)) u95 (by omega)) u98 (by omega)) u101 (by omega)) u104 (by omega)) u107 (by omega)
  have k113 := hq_au (hq_au (hq_au (hq_au (hq_au (hq_au (hq_au (hq_au (hq_au (hq_au (hq_au (hq_au (hq_au (hq_au (hq_ao (hq_an (hq_au (hq_ao (hq_an (hq_au k36 u40 (by omega)) n44 (by omega)) o49 (by omega)) u54 (by omega)) n58 (by omega)) o63 (by omega)) u67 (by omega)) u71 (by omega)) u74 (by omega)) u77 (by omega)) u80 (by omega)) u83 (by omega)) u86 (by omega)) u89 (by omega)) u92 (by omega)) u95 (by omega)) u98 (by omega)) u101 (by omega)) u104 (by omega)) u107 (by omega)
  have k114 := hq_au (hq_au (hq_au (hq_au (hq_au (hq_au (hq_au (hq_au (hq_au (hq_au (hq_au (hq_au (hq_au (hq_au (hq_ao (hq_an (hq_au (hq_ao (hq_an (hq_au k37 u40 (by omega)) n44 (by omega)) o49 (by omega)) u54 (by omega)) n58 (by omega)) o63 (by omega)) u67 (by omega)) u71 (by omega)) u74 (by omega)) u77 (by omega)) u80 (by omega)) u83 (by omega)) u86 (by omega)) u89 (by omega)) u92 (by omega)) u95 (by omega)) u98 (by omega)) u101 (by omega)) u104 (by omega)) u107 (by omega)
  have k115 := hq_au (hq_au (hq_au (hq_au (hq_au (hq_au (hq_au (hq_au (hq_au (hq_au (hq_au (hq_au (hq_au (hq_au (hq_ao (hq_an (hq_au k50 u54 (by omega)) n58 (by omega)) o63 (by omega)) u67 (by omega)) u71 (by omega)) u74 (by omega)) u77 (by omega)) u80 (by omega)) u83 (by omega)) u86 (by omega)) u89 (by omega)) u92 (by omega)) u95 (by omega)) u98 (by omega)) u101 (by omega)) u104 (by omega)) u107 (by omega)
  have k116 := hq_au (hq_au (hq_au (hq_au (hq_au (hq_au (hq_au (hq_au (hq_au (hq_au (hq_au (hq_au (hq_au (hq_au (hq_ao (hq_an (hq_au k51 u54 (by omega)) n58 (by omega)) o63 (by omega)) u67 (by omega)) u71 (by omega)) u74 (by omega)) u77 (by omega)) u80 (by omega)) u83 (by omega)) u86 (by omega)) u89 (by omega)) u92 (by omega)) u95 (by omega)) u98 (by omega)) u101 (by omega)) u104 (by omega)) u107 (by omega)
  have k117 := hq_au (hq_au (hq_au (hq_au (hq_au (hq_au (hq_au (hq_au (hq_au (hq_au (hq_au (hq_au (hq_au (hq_au k64 u67 (by omega)) u71 (by omega)) u74 (by omega)) u77 (by omega)) u80 (by omega)) u83 (by omega)) u86 (by omega)) u89 (by omega)) u92 (by omega)) u95 (by omega)) u98 (by omega)) u101 (by omega)) u104 (by omega)) u107 (by omega)
  exact hq_vret C hret hlk (Nat.le_of_ble_eq_true rfl) (Nat.le_of_ble_eq_true rfl) hL ⟨rfl, hsz, hq_Ba (hq_Ba (hq_Ba (hq_Ba (hq_Ba (hq_Ba (hq_Ba (hq_Ba (hq_Ba (hq_Ba hq_B0 k108) k109) k110) k111) k112) k113) k114) k115) k116) k117, hO⟩ d_No_init_124
