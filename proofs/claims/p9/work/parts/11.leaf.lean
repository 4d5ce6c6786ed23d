/-! The leaf constructors: an object at b, its arrays right behind it. -/
abbrev TY (cI cZ cN cJ : ClassId) : List (ClassId × FieldType) := [(cI, .int), (cZ, .boolean), (cN, .object "StrongBus$Node"), (cJ, .long)]
theorem oi_inst : Cond.instanceMethod objectInit ∈ TB := by decide +kernel
set_option maxRecDepth 100000 in
theorem oi_code : Cond.code objectInit ⟨#[0xb1]⟩ 1 none ∈ TB := tb_at 49 rfl rfl
theorem oi_Co : Cond.methodLink R_Co 5 objectInit ∈ TB := by decide +kernel
theorem oi_Di : Cond.methodLink R_Di 3 objectInit ∈ TB := by decide +kernel
theorem oi_Fr : Cond.methodLink R_Fr 3 objectInit ∈ TB := by decide +kernel
theorem oi_No : Cond.methodLink R_No 3 objectInit ∈ TB := by decide +kernel
theorem oi_Re : Cond.methodLink R_Re 3 objectInit ∈ TB := by decide +kernel
theorem oi_X : Cond.methodLink R_X 1 objectInit ∈ TB := by decide +kernel
theorem oi_M : Cond.methodLink R_M 1 objectInit ∈ TB := by decide +kernel
def bk_Fr (cI cZ : ClassId) (b : Nat) : Nat → va_E := fun j => match j with
  | 0 => .inr (2, [.ref (b + 1), .int (0)])
  | _ => .inl (cI, 4, .inl (fun _ => 0))
def bk_Di (cI cZ : ClassId) (b : Nat) : Nat → va_E := fun j => match j with
  | 0 => .inr (1, [.ref (b + 1), .int (0)])
  | _ => .inl (cZ, 201, .inl (fun _ => 0))
def bk_Co (cI cZ : ClassId) (b : Nat) : Nat → va_E := fun j => match j with
  | 0 => .inr (0, [.ref (b + 1), .int (0), .int (0)])
  | _ => .inl (cI, 50, .inl (fun _ => 0))
def bk_Re (cI cZ : ClassId) (b : Nat) : Nat → va_E := fun j => match j with
  | _ => .inr (4, [.int (0), .int (50), .int (1), .int (0), .int (0), .int (0), .int (0), .int (0)])
set_option maxHeartbeats 4000000 in
set_option maxRecDepth 100000 in
theorem c_Fr_init (l : Launch) (D : va_G) (cI cZ cN cJ : ClassId) (lo : Nat) (b : Nat) (hlo : lo ≤ b) : hq_M l y_Fr_init b_Fr_init 1 none TB { frames := 1, cells := 1, slots := 4, locals := 12 } lo D vwCl (TY cI cZ cN cJ) [.ref b] (fun U => U.heap.size = b + 1 ∧ va_at D vwCl (b, .inr (2, [.null, .int (0)])) U.heap) (fun H v H' => v = none ∧ H'.size = b + 2 ∧ hq_B D vwCl b 2 (bk_Fr cI cZ b) H' ∧ hq_O b H H') := by
  refine hq_ofW (by decide) (Nat.le_of_ble_eq_true rfl) ?_
  intro p e s m below meth c ls C hml hret hlk hnm hl hP
  obtain ⟨hz, k0⟩ := hP
  have hL : hq_L lo [] := hq_L0
  have hl : lv_has ls 1 [(0, .ref b)] := hl
  refine lv_aload_n C.1 C.2.1 d_Fr_init_0 rfl (lv_at hl 0 rfl) ?_
  refine W.objInit C.1 C.2.1 C.2.2.1 (C.2.2.2.1 _ oi_Fr) (C.2.2.2.1 _ oi_inst) (C.2.2.2.1 _ oi_code) rfl (by rw [hml]; exact hl.1) rfl d_Fr_init_1 (Nat.le_of_ble_eq_true rfl) (Nat.le_of_ble_eq_true rfl) ?_
  refine W.eq (g2 := F0 m 4 ls []) rfl ?_
  refine lv_aload_n C.1 C.2.1 d_Fr_init_4 rfl (lv_at hl 0 rfl) ?_
  refine lv_iconst (v := 4) C.1 C.2.1 d_Fr_init_5 (by decide) ?_
  refine hq_newa C (by decide +kernel) 0 rfl (a0 := (4, .inl (fun _ => 0))) (N' := 4) (h := b + 1) (by first | rfl | exact vp_cell_i _ _ _) (by decide) (by decide) (by decide) (Nat.le_of_ble_eq_true rfl) (Nat.le_of_ble_eq_true rfl) hz d_Fr_init_6 (fun H1 n2 => ?_)
  have k3 : va_at D vwCl (b + 1, .inl (cI, 4, .inl (fun _ => 0))) H1 := n2.2.2
  have k4 := hq_an k0 n2 (by omega)
  refine hq_putF (lo := lo) C f_Fr_9 hnm (fun r hr => by cases hr; rfl) k4 rfl rfl (Nat.le_of_ble_eq_true rfl) hL (by omega) d_Fr_init_8 (fun H5 locs u6 hL => ?_)
  have k7 : va_at D vwCl (b, .inr (2, [.ref (b + 1), .int (0)])) H5 := u6.2.2
  refine lv_aload_n C.1 C.2.1 d_Fr_init_11 rfl (lv_at hl 0 rfl) ?_
  refine lv_iconst (v := 0) C.1 C.2.1 d_Fr_init_12 (by decide) ?_
  refine hq_put (lo := lo) C f_Fr_15 k7 rfl rfl (Nat.le_of_ble_eq_true rfl) hL (by omega) d_Fr_init_13 (fun H8 locs u9 hL => ?_)
  have k10 : va_at D vwCl (b, .inr (2, [.ref (b + 1), .int (0)])) H8 := u9.2.2
  have hO : hq_O b s.heap H8 := by
    intro q hq
    exact ((u9.2.1 q (by omega)).trans ((u6.2.1 q (by omega)).trans (n2.2.1 q (by omega))))
  have k11 := hq_au (hq_au k3 u6 (by omega)) u9 (by omega)
  have hsz : H8.size = b + 2 := by
    have z_n2 := n2.1
    have z_u6 := u6.1
    have z_u9 := u9.1
    omega
  exact hq_vret C hret hlk (Nat.le_of_ble_eq_true rfl) (Nat.le_of_ble_eq_true rfl) hL ⟨rfl, hsz, hq_Ba (hq_Ba hq_B0 k10) k11, hO⟩ d_Fr_init_16
set_option maxHeartbeats 4000000 in
set_option maxRecDepth 100000 in
theorem c_Di_init (l : Launch) (D : va_G) (cI cZ cN cJ : ClassId) (lo : Nat) (b : Nat) (hlo : lo ≤ b) : hq_M l y_Di_init b_Di_init 1 none TB { frames := 1, cells := 1, slots := 201, locals := 12 } lo D vwCl (TY cI cZ cN cJ) [.ref b] (fun U => U.heap.size = b + 1 ∧ va_at D vwCl (b, .inr (1, [.null, .int (0)])) U.heap) (fun H v H' => v = none ∧ H'.size = b + 2 ∧ hq_B D vwCl b 2 (bk_Di cI cZ b) H' ∧ hq_O b H H') := by
  refine hq_ofW (by decide) (Nat.le_of_ble_eq_true rfl) ?_
  intro p e s m below meth c ls C hml hret hlk hnm hl hP
  obtain ⟨hz, k0⟩ := hP
  have hL : hq_L lo [] := hq_L0
  have hl : lv_has ls 1 [(0, .ref b)] := hl
  refine lv_aload_n C.1 C.2.1 d_Di_init_0 rfl (lv_at hl 0 rfl) ?_
  refine W.objInit C.1 C.2.1 C.2.2.1 (C.2.2.2.1 _ oi_Di) (C.2.2.2.1 _ oi_inst) (C.2.2.2.1 _ oi_code) rfl (by rw [hml]; exact hl.1) rfl d_Di_init_1 (Nat.le_of_ble_eq_true rfl) (Nat.le_of_ble_eq_true rfl) ?_
  refine W.eq (g2 := F0 m 4 ls []) rfl ?_
  refine lv_aload_n C.1 C.2.1 d_Di_init_4 rfl (lv_at hl 0 rfl) ?_
  refine lv_sipush (v := 201) C.1 C.2.1 d_Di_init_5 (by decide) ?_
  refine hq_newa C (by decide +kernel) 1 rfl (a0 := (201, .inl (fun _ => 0))) (N' := 201) (h := b + 1) (by first | rfl | exact vp_cell_i _ _ _) (by decide) (by decide) (by decide) (Nat.le_of_ble_eq_true rfl) (Nat.le_of_ble_eq_true rfl) hz d_Di_init_8 (fun H1 n2 => ?_)
  have k3 : va_at D vwCl (b + 1, .inl (cZ, 201, .inl (fun _ => 0))) H1 := n2.2.2
  have k4 := hq_an k0 n2 (by omega)
  refine hq_putF (lo := lo) C f_Di_9 hnm (fun r hr => by cases hr; rfl) k4 rfl rfl (Nat.le_of_ble_eq_true rfl) hL (by omega) d_Di_init_10 (fun H5 locs u6 hL => ?_)
  have k7 : va_at D vwCl (b, .inr (1, [.ref (b + 1), .int (0)])) H5 := u6.2.2
  refine lv_aload_n C.1 C.2.1 d_Di_init_13 rfl (lv_at hl 0 rfl) ?_
  refine lv_iconst (v := 0) C.1 C.2.1 d_Di_init_14 (by decide) ?_
  refine hq_put (lo := lo) C f_Di_15 k7 rfl rfl (Nat.le_of_ble_eq_true rfl) hL (by omega) d_Di_init_15 (fun H8 locs u9 hL => ?_)
  have k10 : va_at D vwCl (b, .inr (1, [.ref (b + 1), .int (0)])) H8 := u9.2.2
  have hO : hq_O b s.heap H8 := by
    intro q hq
    exact ((u9.2.1 q (by omega)).trans ((u6.2.1 q (by omega)).trans (n2.2.1 q (by omega))))
  have k11 := hq_au (hq_au k3 u6 (by omega)) u9 (by omega)
  have hsz : H8.size = b + 2 := by
    have z_n2 := n2.1
    have z_u6 := u6.1
    have z_u9 := u9.1
    omega
  exact hq_vret C hret hlk (Nat.le_of_ble_eq_true rfl) (Nat.le_of_ble_eq_true rfl) hL ⟨rfl, hsz, hq_Ba (hq_Ba hq_B0 k10) k11, hO⟩ d_Di_init_18
set_option maxHeartbeats 4000000 in
set_option maxRecDepth 100000 in
theorem c_Co_init (l : Launch) (D : va_G) (cI cZ cN cJ : ClassId) (lo : Nat) (b : Nat) (hlo : lo ≤ b) : hq_M l y_Co_init b_Co_init 1 none TB { frames := 1, cells := 1, slots := 50, locals := 12 } lo D vwCl (TY cI cZ cN cJ) [.ref b] (fun U => U.heap.size = b + 1 ∧ va_at D vwCl (b, .inr (0, [.null, .int (0), .int (0)])) U.heap) (fun H v H' => v = none ∧ H'.size = b + 2 ∧ hq_B D vwCl b 2 (bk_Co cI cZ b) H' ∧ hq_O b H H') := by
  refine hq_ofW (by decide) (Nat.le_of_ble_eq_true rfl) ?_
  intro p e s m below meth c ls C hml hret hlk hnm hl hP
  obtain ⟨hz, k0⟩ := hP
  have hL : hq_L lo [] := hq_L0
  have hl : lv_has ls 1 [(0, .ref b)] := hl
  refine lv_aload_n C.1 C.2.1 d_Co_init_0 rfl (lv_at hl 0 rfl) ?_
  refine W.objInit C.1 C.2.1 C.2.2.1 (C.2.2.2.1 _ oi_Co) (C.2.2.2.1 _ oi_inst) (C.2.2.2.1 _ oi_code) rfl (by rw [hml]; exact hl.1) rfl d_Co_init_1 (Nat.le_of_ble_eq_true rfl) (Nat.le_of_ble_eq_true rfl) ?_
  refine W.eq (g2 := F0 m 4 ls []) rfl ?_
  refine lv_aload_n C.1 C.2.1 d_Co_init_4 rfl (lv_at hl 0 rfl) ?_
  refine lv_bipush (v := 50) C.1 C.2.1 d_Co_init_5 (by decide) ?_
  refine hq_newa C (by decide +kernel) 0 rfl (a0 := (50, .inl (fun _ => 0))) (N' := 50) (h := b + 1) (by first | rfl | exact vp_cell_i _ _ _) (by decide) (by decide) (by decide) (Nat.le_of_ble_eq_true rfl) (Nat.le_of_ble_eq_true rfl) hz d_Co_init_7 (fun H1 n2 => ?_)
  have k3 : va_at D vwCl (b + 1, .inl (cI, 50, .inl (fun _ => 0))) H1 := n2.2.2
  have k4 := hq_an k0 n2 (by omega)
  refine hq_putF (lo := lo) C f_Co_11 hnm (fun r hr => by cases hr; rfl) k4 rfl rfl (Nat.le_of_ble_eq_true rfl) hL (by omega) d_Co_init_9 (fun H5 locs u6 hL => ?_)
  have k7 : va_at D vwCl (b, .inr (0, [.ref (b + 1), .int (0), .int (0)])) H5 := u6.2.2
  refine lv_aload_n C.1 C.2.1 d_Co_init_12 rfl (lv_at hl 0 rfl) ?_
  refine lv_iconst (v := 0) C.1 C.2.1 d_Co_init_13 (by decide) ?_
  refine hq_put (lo := lo) C f_Co_15 k7 rfl rfl (Nat.le_of_ble_eq_true rfl) hL (by omega) d_Co_init_14 (fun H8 locs u9 hL => ?_)
  have k10 : va_at D vwCl (b, .inr (0, [.ref (b + 1), .int (0), .int (0)])) H8 := u9.2.2
  refine lv_aload_n C.1 C.2.1 d_Co_init_17 rfl (lv_at hl 0 rfl) ?_
  refine lv_iconst (v := 0) C.1 C.2.1 d_Co_init_18 (by decide) ?_
  refine hq_put (lo := lo) C f_Co_19 k10 rfl rfl (Nat.le_of_ble_eq_true rfl) hL (by omega) d_Co_init_19 (fun H11 locs u12 hL => ?_)
  have k13 : va_at D vwCl (b, .inr (0, [.ref (b + 1), .int (0), .int (0)])) H11 := u12.2.2
  have hO : hq_O b s.heap H11 := by
    intro q hq
    exact ((u12.2.1 q (by omega)).trans ((u9.2.1 q (by omega)).trans ((u6.2.1 q (by omega)).trans (n2.2.1 q (by omega)))))
  have k14 := hq_au (hq_au (hq_au k3 u6 (by omega)) u9 (by omega)) u12 (by omega)
  have hsz : H11.size = b + 2 := by
    have z_n2 := n2.1
    have z_u6 := u6.1
    have z_u9 := u9.1
    have z_u12 := u12.1
    omega
  exact hq_vret C hret hlk (Nat.le_of_ble_eq_true rfl) (Nat.le_of_ble_eq_true rfl) hL ⟨rfl, hsz, hq_Ba (hq_Ba hq_B0 k13) k14, hO⟩ d_Co_init_22
set_option maxHeartbeats 4000000 in
set_option maxRecDepth 100000 in
theorem c_Re_init (l : Launch) (D : va_G) (cI cZ cN cJ : ClassId) (lo : Nat) (b : Nat) (hlo : lo ≤ b) : hq_M l y_Re_init b_Re_init 1 none TB { frames := 1, cells := 0, slots := 0, locals := 12 } lo D vwCl (TY cI cZ cN cJ) [.ref b] (fun U => U.heap.size = b + 1 ∧ va_at D vwCl (b, .inr (4, [.int (0), .int (0), .int (0), .int (0), .int (0), .int (0), .int (0), .int (0)])) U.heap) (fun H v H' => v = none ∧ H'.size = b + 1 ∧ hq_B D vwCl b 1 (bk_Re cI cZ b) H' ∧ hq_O b H H') := by
  refine hq_ofW (by decide) (Nat.le_of_ble_eq_true rfl) ?_
  intro p e s m below meth c ls C hml hret hlk hnm hl hP
  obtain ⟨hz, k0⟩ := hP
  have hL : hq_L lo [] := hq_L0
  have hl : lv_has ls 1 [(0, .ref b)] := hl
  refine lv_aload_n C.1 C.2.1 d_Re_init_0 rfl (lv_at hl 0 rfl) ?_
  refine W.objInit C.1 C.2.1 C.2.2.1 (C.2.2.2.1 _ oi_Re) (C.2.2.2.1 _ oi_inst) (C.2.2.2.1 _ oi_code) rfl (by rw [hml]; exact hl.1) rfl d_Re_init_1 (Nat.le_of_ble_eq_true rfl) (Nat.le_of_ble_eq_true rfl) ?_
  refine W.eq (g2 := F0 m 4 ls []) rfl ?_
  refine lv_aload_n C.1 C.2.1 d_Re_init_4 rfl (lv_at hl 0 rfl) ?_
  refine lv_iconst (v := 0) C.1 C.2.1 d_Re_init_5 (by decide) ?_
  refine hq_put (lo := lo) C f_Re_9 k0 rfl rfl (Nat.le_of_ble_eq_true rfl) hL (by omega) d_Re_init_6 (fun H1 locs u2 hL => ?_)
  have k3 : va_at D vwCl (b, .inr (4, [.int (0), .int (0), .int (0), .int (0), .int (0), .int (0), .int (0), .int (0)])) H1 := u2.2.2
  refine lv_aload_n C.1 C.2.1 d_Re_init_9 rfl (lv_at hl 0 rfl) ?_
  refine lv_bipush (v := 50) C.1 C.2.1 d_Re_init_10 (by decide) ?_
  refine hq_put (lo := lo) C f_Re_17 k3 rfl rfl (Nat.le_of_ble_eq_true rfl) hL (by omega) d_Re_init_12 (fun H4 locs u5 hL => ?_)
  have k6 : va_at D vwCl (b, .inr (4, [.int (0), .int (50), .int (0), .int (0), .int (0), .int (0), .int (0), .int (0)])) H4 := u5.2.2
  refine lv_aload_n C.1 C.2.1 d_Re_init_15 rfl (lv_at hl 0 rfl) ?_
  refine lv_iconst (v := 1) C.1 C.2.1 d_Re_init_16 (by decide) ?_
  refine hq_put (lo := lo) C f_Re_20 k6 rfl rfl (Nat.le_of_ble_eq_true rfl) hL (by omega) d_Re_init_17 (fun H7 locs u8 hL => ?_)
  have k9 : va_at D vwCl (b, .inr (4, [.int (0), .int (50), .int (1), .int (0), .int (0), .int (0), .int (0), .int (0)])) H7 := u8.2.2
  refine lv_aload_n C.1 C.2.1 d_Re_init_20 rfl (lv_at hl 0 rfl) ?_
  refine lv_iconst (v := 0) C.1 C.2.1 d_Re_init_21 (by decide) ?_
  refine hq_put (lo := lo) C f_Re_23 k9 rfl rfl (Nat.le_of_ble_eq_true rfl) hL (by omega) d_Re_init_22 (fun H10 locs u11 hL => ?_)
  have k12 : va_at D vwCl (b, .inr (4, [.int (0), .int (50), .int (1), .int (0), .int (0), .int (0), .int (0), .int (0)])) H10 := u11.2.2
  refine lv_aload_n C.1 C.2.1 d_Re_init_25 rfl (lv_at hl 0 rfl) ?_
  refine lv_iconst (v := 0) C.1 C.2.1 d_Re_init_26 (by decide) ?_
  refine hq_put (lo := lo) C f_Re_26 k12 rfl rfl (Nat.le_of_ble_eq_true rfl) hL (by omega) d_Re_init_27 (fun H13 locs u14 hL => ?_)
  have k15 : va_at D vwCl (b, .inr (4, [.int (0), .int (50), .int (1), .int (0), .int (0), .int (0), .int (0), .int (0)])) H13 := u14.2.2
  refine lv_aload_n C.1 C.2.1 d_Re_init_30 rfl (lv_at hl 0 rfl) ?_
  refine lv_iconst (v := 0) C.1 C.2.1 d_Re_init_31 (by decide) ?_
  refine hq_put (lo := lo) C f_Re_29 k15 rfl rfl (Nat.le_of_ble_eq_true rfl) hL (by omega) d_Re_init_32 (fun H16 locs u17 hL => ?_)
  have k18 : va_at D vwCl (b, .inr (4, [.int (0), .int (50), .int (1), .int (0), .int (0), .int (0), .int (0), .int (0)])) H16 := u17.2.2
  refine lv_aload_n C.1 C.2.1 d_Re_init_35 rfl (lv_at hl 0 rfl) ?_
  refine lv_iconst (v := 0) C.1 C.2.1 d_Re_init_36 (by decide) ?_
  refine hq_put (lo := lo) C f_Re_32 k18 rfl rfl (Nat.le_of_ble_eq_true rfl) hL (by omega) d_Re_init_37 (fun H19 locs u20 hL => ?_)
  have k21 : va_at D vwCl (b, .inr (4, [.int (0), .int (50), .int (1), .int (0), .int (0), .int (0), .int (0), .int (0)])) H19 := u20.2.2
  refine lv_aload_n C.1 C.2.1 d_Re_init_40 rfl (lv_at hl 0 rfl) ?_
  refine lv_iconst (v := 0) C.1 C.2.1 d_Re_init_41 (by decide) ?_
  refine hq_put (lo := lo) C f_Re_35 k21 rfl rfl (Nat.le_of_ble_eq_true rfl) hL (by omega) d_Re_init_42 (fun H22 locs u23 hL => ?_)
  have k24 : va_at D vwCl (b, .inr (4, [.int (0), .int (50), .int (1), .int (0), .int (0), .int (0), .int (0), .int (0)])) H22 := u23.2.2
  have hO : hq_O b s.heap H22 := by
    intro q hq
    exact ((u23.2.1 q (by omega)).trans ((u20.2.1 q (by omega)).trans ((u17.2.1 q (by omega)).trans ((u14.2.1 q (by omega)).trans ((u11.2.1 q (by omega)).trans ((u8.2.1 q (by omega)).trans ((u5.2.1 q (by omega)).trans (u2.2.1 q (by omega)))))))))
  have hsz : H22.size = b + 1 := by
    have z_u2 := u2.1
    have z_u5 := u5.1
    have z_u8 := u8.1
    have z_u11 := u11.1
    have z_u14 := u14.1
    have z_u17 := u17.1
    have z_u20 := u20.1
    have z_u23 := u23.1
    omega
  exact hq_vret C hret hlk (Nat.le_of_ble_eq_true rfl) (Nat.le_of_ble_eq_true rfl) hL ⟨rfl, hsz, hq_Ba hq_B0 k24, hO⟩ d_Re_init_45
