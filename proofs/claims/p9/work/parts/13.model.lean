/-! The reference: an object at b, its thirty rows right behind it. -/
def mdC (cI cZ : ClassId) (b : Nat) (th nn : Int32) (A : Nat → Nat → Int32) : Nat → va_E := fun j => match j with
  | 0 => .inr (6, [.int th, .int nn, .ref (b + 1), .ref (b + 2), .ref (b + 3), .ref (b + 4), .ref (b + 5), .ref (b + 6), .ref (b + 7), .ref (b + 8), .ref (b + 9), .ref (b + 10), .ref (b + 11), .ref (b + 12), .ref (b + 13), .ref (b + 14), .ref (b + 15), .ref (b + 16), .ref (b + 17), .ref (b + 18), .ref (b + 19), .ref (b + 20), .ref (b + 21), .ref (b + 22), .ref (b + 23), .ref (b + 24), .ref (b + 25), .ref (b + 26), .ref (b + 27), .ref (b + 28), .ref (b + 29), .ref (b + 30)])
  | 1 => .inl (cI, 8, .inl (A 0))
  | 2 => .inl (cI, 64, .inl (A 1))
  | 3 => .inl (cZ, 1024, .inl (A 2))
  | 4 => .inl (cI, 4, .inl (A 3))
  | 5 => .inl (cI, 4, .inl (A 4))
  | 6 => .inl (cI, 4, .inl (A 5))
  | 7 => .inl (cI, 4, .inl (A 6))
  | 8 => .inl (cI, 4, .inl (A 7))
  | 9 => .inl (cI, 4, .inl (A 8))
  | 10 => .inl (cI, 4, .inl (A 9))
  | 11 => .inl (cI, 16, .inl (A 10))
  | 12 => .inl (cI, 16, .inl (A 11))
  | 13 => .inl (cI, 16, .inl (A 12))
  | 14 => .inl (cI, 4, .inl (A 13))
  | 15 => .inl (cI, 4, .inl (A 14))
  | 16 => .inl (cI, 16, .inl (A 15))
  | 17 => .inl (cI, 4, .inl (A 16))
  | 18 => .inl (cI, 4, .inl (A 17))
  | 19 => .inl (cI, 4, .inl (A 18))
  | 20 => .inl (cI, 4, .inl (A 19))
  | 21 => .inl (cI, 4, .inl (A 20))
  | 22 => .inl (cI, 4, .inl (A 21))
  | 23 => .inl (cI, 4, .inl (A 22))
  | 24 => .inl (cI, 4, .inl (A 23))
  | 25 => .inl (cI, 4, .inl (A 24))
  | 26 => .inl (cZ, 4, .inl (A 25))
  | 27 => .inl (cI, 4, .inl (A 26))
  | 28 => .inl (cI, 4, .inl (A 27))
  | 29 => .inl (cI, 4, .inl (A 28))
  | _ => .inl (cI, 4, .inl (A 29))
/-- the number of nodes that is taken -/
def clip (x : Int32) : Int32 := if x < 2 then 2 else if 4 < x then 4 else x
theorem md_ge {x : Int32} (h : (2 : Int32) ≤ x) : ¬ x < 2 := Int32.not_lt.mpr h
theorem md_nge {x : Int32} (h : ¬ (2 : Int32) ≤ x) : x < 2 := Int32.not_le.mp h
theorem md_le {x : Int32} (h : x ≤ 4) : ¬ (4 : Int32) < x := Int32.not_lt.mpr h
theorem md_nle {x : Int32} (h : ¬ x ≤ 4) : (4 : Int32) < x := Int32.not_le.mp h
theorem md_at {D : va_G} {cl : List vw_C} {a a' : Nat} {e : va_E} {H : Heap} (h : a' = a) (k : va_at D cl (a, e) H) : va_at D cl (a', e) H := by rw [h]; exact k
theorem md_tail {cI cZ : ClassId} {b : Nat} {th nn th' nn' : Int32} {A : Nat → Nat → Int32} (j : Nat) (_ : j < 30) : mdC cI cZ b th nn A (j + 1) = mdC cI cZ b th' nn' A (j + 1) := by
  match j with
  | 0 => rfl
  | 1 => rfl
  | 2 => rfl
  | 3 => rfl
  | 4 => rfl
  | 5 => rfl
  | 6 => rfl
  | 7 => rfl
  | 8 => rfl
  | 9 => rfl
  | 10 => rfl
  | 11 => rfl
  | 12 => rfl
  | 13 => rfl
  | 14 => rfl
  | 15 => rfl
  | 16 => rfl
  | 17 => rfl
  | 18 => rfl
  | 19 => rfl
  | 20 => rfl
  | 21 => rfl
  | 22 => rfl
  | 23 => rfl
  | 24 => rfl
  | 25 => rfl
  | 26 => rfl
  | 27 => rfl
  | 28 => rfl
  | _ + 29 => rfl
set_option maxHeartbeats 8000000 in
set_option maxRecDepth 100000 in
theorem c_M_init (l : Launch) (D : va_G) (cI cZ cN cJ : ClassId) (lo : Nat) (b : Nat) (x : Int32) (hlo : lo ≤ b) : hq_M l y_M_init b_M_init 2 none TB { frames := 1, cells := 30, slots := 1252, locals := 12 } lo D vwCl (TY cI cZ cN cJ) [.ref b, .int x] (fun U => U.heap.size = b + 1 ∧ va_at D vwCl (b, .inr (6, [.int (0), .int (0), .null, .null, .null, .null, .null, .null, .null, .null, .null, .null, .null, .null, .null, .null, .null, .null, .null, .null, .null, .null, .null, .null, .null, .null, .null, .null, .null, .null, .null, .null])) U.heap) (fun H v H' => v = none ∧ H'.size = b + 31 ∧ hq_B D vwCl b 31 (mdC cI cZ b 0 (clip x) (fun _ _ => 0)) H' ∧ hq_O b H H') := by
  refine hq_ofW (by decide) (Nat.le_of_ble_eq_true rfl) ?_
  intro p e s m below meth c ls C hml hret hlk hnm hl hP
  obtain ⟨hz, k0⟩ := hP
  have hL : hq_L lo [] := hq_L0
  have hl : lv_has ls 2 [(0, .ref b), (1, .int x)] := hl
  have hO : hq_O b s.heap s.heap := hq_O0
  have hB : hq_B D vwCl (b + 1) 0 (fun j => mdC cI cZ b 0 0 (fun _ _ => 0) (j + 1)) s.heap := hq_B0
  refine lv_aload_n C.1 C.2.1 d_M_init_0 rfl (lv_at hl 0 rfl) ?_
  refine W.objInit C.1 C.2.1 C.2.2.1 (C.2.2.2.1 _ oi_M) (C.2.2.2.1 _ oi_inst) (C.2.2.2.1 _ oi_code) rfl (by rw [hml]; exact hl.1) rfl d_M_init_1 (Nat.le_of_ble_eq_true rfl) (Nat.le_of_ble_eq_true rfl) ?_
  refine W.eq (g2 := F0 m 4 ls []) rfl ?_
  refine lv_aload_n C.1 C.2.1 d_M_init_4 rfl (lv_at hl 0 rfl) ?_
  refine lv_bipush (v := 8) C.1 C.2.1 d_M_init_5 (by decide) ?_
  refine hq_newa C (by decide +kernel) 0 rfl (a0 := (8, .inl (fun _ => 0))) (N' := 8) (h := b + 1) (by first | rfl | exact vp_cell_i _ _ _) (by decide) (by decide) (by decide) (Nat.le_of_ble_eq_true rfl) (Nat.le_of_ble_eq_true rfl) hz d_M_init_7 (fun H1 n2 => ?_)
  have k3 : va_at D vwCl (b + 1, .inl (cI, 8, .inl (fun _ => 0))) H1 := n2.2.2
  replace hO := hq_On hO n2 (by omega)
  replace hB : hq_B D vwCl (b + 1) 1 (fun j => mdC cI cZ b 0 0 (fun _ _ => 0) (j + 1)) H1 := hq_Ba (hq_Bn hB n2 (by omega)) (md_at (a := b + 1) (by omega) k3)
  replace k0 := hq_an k0 n2 (by omega)
  replace hz : H1.size = b + 2 := n2.1
  clear k3 n2
  refine hq_put (lo := lo) C f_M_7 k0 rfl rfl (Nat.le_of_ble_eq_true rfl) hL (by omega) d_M_init_9 (fun H4 locs u5 hL => ?_)
  have k6 : va_at D vwCl (b, .inr (6, [.int (0), .int (0), .ref (b + 1), .null, .null, .null, .null, .null, .null, .null, .null, .null, .null, .null, .null, .null, .null, .null, .null, .null, .null, .null, .null, .null, .null, .null, .null, .null, .null, .null, .null, .null])) H4 := u5.2.2
  replace hO := hq_Ou hO u5 (by omega)
  replace hB : hq_B D vwCl (b + 1) 1 (fun j => mdC cI cZ b 0 0 (fun _ _ => 0) (j + 1)) H4 := hq_Bu hB u5 (by omega)
  replace hz : H4.size = b + 2 := u5.1.trans hz
  replace k0 := k6
  clear k6 u5
  refine lv_aload_n C.1 C.2.1 d_M_init_12 rfl (lv_at hl 0 rfl) ?_
  refine lv_bipush (v := 64) C.1 C.2.1 d_M_init_13 (by decide) ?_
  refine hq_newa C (by decide +kernel) 0 rfl (a0 := (64, .inl (fun _ => 0))) (N' := 64) (h := b + 2) (by first | rfl | exact vp_cell_i _ _ _) (by decide) (by decide) (by decide) (Nat.le_of_ble_eq_true rfl) (Nat.le_of_ble_eq_true rfl) hz d_M_init_15 (fun H7 n8 => ?_)
  have k9 : va_at D vwCl (b + 2, .inl (cI, 64, .inl (fun _ => 0))) H7 := n8.2.2
  replace hO := hq_On hO n8 (by omega)
  replace hB : hq_B D vwCl (b + 1) 2 (fun j => mdC cI cZ b 0 0 (fun _ _ => 0) (j + 1)) H7 := hq_Ba (hq_Bn hB n8 (by omega)) (md_at (a := b + 2) (by omega) k9)
  replace k0 := hq_an k0 n8 (by omega)
  replace hz : H7.size = b + 3 := n8.1
  clear k9 n8
  refine hq_put (lo := lo) C f_M_13 k0 rfl rfl (Nat.le_of_ble_eq_true rfl) hL (by omega) d_M_init_17 (fun H10 locs u11 hL => ?_)
  have k12 : va_at D vwCl (b, .inr (6, [.int (0), .int (0), .ref (b + 1), .ref (b + 2), .null, .null, .null, .null, .null, .null, .null, .null, .null, .null, .null, .null, .null, .null, .null, .null, .null, .null, .null, .null, .null, .null, .null, .null, .null, .null, .null, .null])) H10 := u11.2.2
  replace hO := hq_Ou hO u11 (by omega)
  replace hB : hq_B D vwCl (b + 1) 2 (fun j => mdC cI cZ b 0 0 (fun _ _ => 0) (j + 1)) H10 := hq_Bu hB u11 (by omega)
  replace hz : H10.size = b + 3 := u11.1.trans hz
  replace k0 := k12
  clear k12 u11
  refine lv_aload_n C.1 C.2.1 d_M_init_20 rfl (lv_at hl 0 rfl) ?_
  refine lv_sipush (v := 1024) C.1 C.2.1 d_M_init_21 (by decide) ?_
  refine hq_newa C (by decide +kernel) 1 rfl (a0 := (1024, .inl (fun _ => 0))) (N' := 1024) (h := b + 3) (by first | rfl | exact vp_cell_i _ _ _) (by decide) (by decide) (by decide) (Nat.le_of_ble_eq_true rfl) (Nat.le_of_ble_eq_true rfl) hz d_M_init_24 (fun H13 n14 => ?_)
  have k15 : va_at D vwCl (b + 3, .inl (cZ, 1024, .inl (fun _ => 0))) H13 := n14.2.2
  replace hO := hq_On hO n14 (by omega)
  replace hB : hq_B D vwCl (b + 1) 3 (fun j => mdC cI cZ b 0 0 (fun _ _ => 0) (j + 1)) H13 := hq_Ba (hq_Bn hB n14 (by omega)) (md_at (a := b + 3) (by omega) k15)
  replace k0 := hq_an k0 n14 (by omega)
  replace hz : H13.size = b + 4 := n14.1
  clear k15 n14
  refine hq_put (lo := lo) C f_M_16 k0 rfl rfl (Nat.le_of_ble_eq_true rfl) hL (by omega) d_M_init_26 (fun H16 locs u17 hL => ?_)
  have k18 : va_at D vwCl (b, .inr (6, [.int (0), .int (0), .ref (b + 1), .ref (b + 2), .ref (b + 3), .null, .null, .null, .null, .null, .null, .null, .null, .null, .null, .null, .null, .null, .null, .null, .null, .null, .null, .null, .null, .null, .null, .null, .null, .null, .null, .null])) H16 := u17.2.2
  replace hO := hq_Ou hO u17 (by omega)
  replace hB : hq_B D vwCl (b + 1) 3 (fun j => mdC cI cZ b 0 0 (fun _ _ => 0) (j + 1)) H16 := hq_Bu hB u17 (by omega)
  replace hz : H16.size = b + 4 := u17.1.trans hz
  replace k0 := k18
  clear k18 u17
  refine lv_aload_n C.1 C.2.1 d_M_init_29 rfl (lv_at hl 0 rfl) ?_
  refine lv_iconst (v := 4) C.1 C.2.1 d_M_init_30 (by decide) ?_
  refine hq_newa C (by decide +kernel) 0 rfl (a0 := (4, .inl (fun _ => 0))) (N' := 4) (h := b + 4) (by first | rfl | exact vp_cell_i _ _ _) (by decide) (by decide) (by decide) (Nat.le_of_ble_eq_true rfl) (Nat.le_of_ble_eq_true rfl) hz d_M_init_31 (fun H19 n20 => ?_)
  have k21 : va_at D vwCl (b + 4, .inl (cI, 4, .inl (fun _ => 0))) H19 := n20.2.2
  replace hO := hq_On hO n20 (by omega)
  replace hB : hq_B D vwCl (b + 1) 4 (fun j => mdC cI cZ b 0 0 (fun _ _ => 0) (j + 1)) H19 := hq_Ba (hq_Bn hB n20 (by omega)) (md_at (a := b + 4) (by omega) k21)
  replace k0 := hq_an k0 n20 (by omega)
  replace hz : H19.size = b + 5 := n20.1
  clear k21 n20
  refine hq_put (lo := lo) C f_M_20 k0 rfl rfl (Nat.le_of_ble_eq_true rfl) hL (by omega) d_M_init_33 (fun H22 locs u23 hL => ?_)
  have k24 : va_at D vwCl (b, .inr (6, [.int (0), .int (0), .ref (b + 1), .ref (b + 2), .ref (b + 3), .ref (b + 4), .null, .null, .null, .null, .null, .null, .null, .null, .null, .null, .null, .null, .null, .null, .null, .null, .null, .null, .null, .null, .null, .null, .null, .null, .null, .null])) H22 := u23.2.2
  replace hO := hq_Ou hO u23 (by omega)
  replace hB : hq_B D vwCl (b + 1) 4 (fun j => mdC cI cZ b 0 0 (fun _ _ => 0) (j + 1)) H22 := hq_Bu hB u23 (by omega)
  replace hz : H22.size = b + 5 := u23.1.trans hz
  replace k0 := k24
  clear k24 u23
  refine lv_aload_n C.1 C.2.1 d_M_init_36 rfl (lv_at hl 0 rfl) ?_
  refine lv_iconst (v := 4) C.1 C.2.1 d_M_init_37 (by decide) ?_
  refine hq_newa C (by decide +kernel) 0 rfl (a0 := (4, .inl (fun _ => 0))) (N' := 4) (h := b + 5) (by first | rfl | exact vp_cell_i _ _ _) (by decide) (by decide) (by decide) (Nat.le_of_ble_eq_true rfl) (Nat.le_of_ble_eq_true rfl) hz d_M_init_38 (fun H25 n26 => ?_)
  have k27 : va_at D vwCl (b + 5, .inl (cI, 4, .inl (fun _ => 0))) H25 := n26.2.2
  replace hO := hq_On hO n26 (by omega)
  replace hB : hq_B D vwCl (b + 1) 5 (fun j => mdC cI cZ b 0 0 (fun _ _ => 0) (j + 1)) H25 := hq_Ba (hq_Bn hB n26 (by omega)) (md_at (a := b + 5) (by omega) k27)
  replace k0 := hq_an k0 n26 (by omega)
  replace hz : H25.size = b + 6 := n26.1
  clear k27 n26
  refine hq_put (lo := lo) C f_M_23 k0 rfl rfl (Nat.le_of_ble_eq_true rfl) hL (by omega) d_M_init_40 (fun H28 locs u29 hL => ?_)
  have k30 : va_at D vwCl (b, .inr (6, [.int (0), .int (0), .ref (b + 1), .ref (b + 2), .ref (b + 3), .ref (b + 4), .ref (b + 5), .null, .null, .null, .null, .null, .null, .null, .null, .null, .null, .null, .null, .null, .null, .null, .null, .null, .null, .null, .null, .null, .null, .null, .null, .null])) H28 := u29.2.2
  replace hO := hq_Ou hO u29 (by omega)
  replace hB : hq_B D vwCl (b + 1) 5 (fun j => mdC cI cZ b 0 0 (fun _ _ => 0) (j + 1)) H28 := hq_Bu hB u29 (by omega)
  replace hz : H28.size = b + 6 := u29.1.trans hz
  replace k0 := k30
  clear k30 u29
  refine lv_aload_n C.1 C.2.1 d_M_init_43 rfl (lv_at hl 0 rfl) ?_
  refine lv_iconst (v := 4) C.1 C.2.1 d_M_init_44 (by decide) ?_
  refine hq_newa C (by decide +kernel) 0 rfl (a0 := (4, .inl (fun _ => 0))) (N' := 4) (h := b + 6) (by first | rfl | exact vp_cell_i _ _ _) (by decide) (by decide) (by decide) (Nat.le_of_ble_eq_true rfl) (Nat.le_of_ble_eq_true rfl) hz d_M_init_45 (fun H31 n32 => ?_)
  have k33 : va_at D vwCl (b + 6, .inl (cI, 4, .inl (fun _ => 0))) H31 := n32.2.2
  replace hO := hq_On hO n32 (by omega)
  replace hB : hq_B D vwCl (b + 1) 6 (fun j => mdC cI cZ b 0 0 (fun _ _ => 0) (j + 1)) H31 := hq_Ba (hq_Bn hB n32 (by omega)) (md_at (a := b + 6) (by omega) k33)
  replace k0 := hq_an k0 n32 (by omega)
  replace hz : H31.size = b + 7 := n32.1
  clear k33 n32
  refine hq_put (lo := lo) C f_M_26 k0 rfl rfl (Nat.le_of_ble_eq_true rfl) hL (by omega) d_M_init_47 (fun H34 locs u35 hL => ?_)
  have k36 : va_at D vwCl (b, .inr (6, [.int (0), .int (0), .ref (b + 1), .ref (b + 2), .ref (b + 3), .ref (b + 4), .ref (b + 5), .ref (b + 6), .null, .null, .null, .null, .null, .null, .null, .null, .null, .null, .null, .null, .null, .null, .null, .null, .null, .null, .null, .null, .null, .null, .null, .null])) H34 := u35.2.2
  replace hO := hq_Ou hO u35 (by omega)
  replace hB : hq_B D vwCl (b + 1) 6 (fun j => mdC cI cZ b 0 0 (fun _ _ => 0) (j + 1)) H34 := hq_Bu hB u35 (by omega)
  replace hz : H34.size = b + 7 := u35.1.trans hz
  replace k0 := k36
  clear k36 u35
  refine lv_aload_n C.1 C.2.1 d_M_init_50 rfl (lv_at hl 0 rfl) ?_
  refine lv_iconst (v := 4) C.1 C.2.1 d_M_init_51 (by decide) ?_
  refine hq_newa C (by decide +kernel) 0 rfl (a0 := (4, .inl (fun _ => 0))) (N' := 4) (h := b + 7) (by first | rfl | exact vp_cell_i _ _ _) (by decide) (by decide) (by decide) (Nat.le_of_ble_eq_true rfl) (Nat.le_of_ble_eq_true rfl) hz d_M_init_52 (fun H37 n38 => ?_)
  have k39 : va_at D vwCl (b + 7, .inl (cI, 4, .inl (fun _ => 0))) H37 := n38.2.2
  replace hO := hq_On hO n38 (by omega)
  replace hB : hq_B D vwCl (b + 1) 7 (fun j => mdC cI cZ b 0 0 (fun _ _ => 0) (j + 1)) H37 := hq_Ba (hq_Bn hB n38 (by omega)) (md_at (a := b + 7) (by omega) k39)
  replace k0 := hq_an k0 n38 (by omega)
  replace hz : H37.size = b + 8 := n38.1
  clear k39 n38
  refine hq_put (lo := lo) C f_M_29 k0 rfl rfl (Nat.le_of_ble_eq_true rfl) hL (by omega) d_M_init_54 (fun H40 locs u41 hL => ?_)
  have k42 : va_at D vwCl (b, .inr (6, [.int (0), .int (0), .ref (b + 1), .ref (b + 2), .ref (b + 3), .ref (b + 4), .ref (b + 5), .ref (b + 6), .ref (b + 7), .null, .null, .null, .null, .null, .null, .null, .null, .null, .null, .null, .null, .null, .null, .null, .null, .null, .null, .null, .null, .null, .null, .null])) H40 := u41.2.2
  replace hO := hq_Ou hO u41 (by omega)
  replace hB : hq_B D vwCl (b + 1) 7 (fun j => mdC cI cZ b 0 0 (fun _ _ => 0) (j + 1)) H40 := hq_Bu hB u41 (by omega)
  replace hz : H40.size = b + 8 := u41.1.trans hz
  replace k0 := k42
  clear k42 u41
  refine lv_aload_n C.1 C.2.1 d_M_init_57 rfl (lv_at hl 0 rfl) ?_
  refine lv_iconst (v := 4) C.1 C.2.1 d_M_init_58 (by decide) ?_
  refine hq_newa C (by decide +kernel) 0 rfl (a0 := (4, .inl (fun _ => 0))) (N' := 4) (h := b + 8) (by first | rfl | exact vp_cell_i _ _ _) (by decide) (by decide) (by decide) (Nat.le_of_ble_eq_true rfl) (Nat.le_of_ble_eq_true rfl) hz d_M_init_59 (fun H43 n44 => ?_)
  have k45 : va_at D vwCl (b + 8, .inl (cI, 4, .inl (fun _ => 0))) H43 := n44.2.2
  replace hO := hq_On hO n44 (by omega)
  replace hB : hq_B D vwCl (b + 1) 8 (fun j => mdC cI cZ b 0 0 (fun _ _ => 0) (j + 1)) H43 := hq_Ba (hq_Bn hB n44 (by omega)) (md_at (a := b + 8) (by omega) k45)
  replace k0 := hq_an k0 n44 (by omega)
  replace hz : H43.size = b + 9 := n44.1
  clear k45 n44
  refine hq_put (lo := lo) C f_M_32 k0 rfl rfl (Nat.le_of_ble_eq_true rfl) hL (by omega) d_M_init_61 (fun H46 locs u47 hL => ?_)
  have k48 : va_at D vwCl (b, .inr (6, [.int (0), .int (0), .ref (b + 1), .ref (b + 2), .ref (b + 3), .ref (b + 4), .ref (b + 5), .ref (b + 6), .ref (b + 7), .ref (b + 8), .null, .null, .null, .null, .null, .null, .null, .null, .null, .null, .null, .null, .null, .null, .null, .null, .null, .null, .null, .null, .null, .null])) H46 := u47.2.2
  replace hO := hq_Ou hO u47 (by omega)
  replace hB : hq_B D vwCl (b + 1) 8 (fun j => mdC cI cZ b 0 0 (fun _ _ => 0) (j + 1)) H46 := hq_Bu hB u47 (by omega)
  replace hz : H46.size = b + 9 := u47.1.trans hz
  replace k0 := k48
  clear k48 u47
  refine lv_aload_n C.1 C.2.1 d_M_init_64 rfl (lv_at hl 0 rfl) ?_
  refine lv_iconst (v := 4) C.1 C.2.1 d_M_init_65 (by decide) ?_
  refine hq_newa C (by decide +kernel) 0 rfl (a0 := (4, .inl (fun _ => 0))) (N' := 4) (h := b + 9) (by first | rfl | exact vp_cell_i _ _ _) (by decide) (by decide) (by decide) (Nat.le_of_ble_eq_true rfl) (Nat.le_of_ble_eq_true rfl) hz d_M_init_66 (fun H49 n50 => ?_)
  have k51 : va_at D vwCl (b + 9, .inl (cI, 4, .inl (fun _ => 0))) H49 := n50.2.2
  replace hO := hq_On hO n50 (by omega)
  replace hB : hq_B D vwCl (b + 1) 9 (fun j => mdC cI cZ b 0 0 (fun _ _ => 0) (j + 1)) H49 := hq_Ba (hq_Bn hB n50 (by omega)) (md_at (a := b + 9) (by omega) k51)
  replace k0 := hq_an k0 n50 (by omega)
  replace hz : H49.size = b + 10 := n50.1
  clear k51 n50
  refine hq_put (lo := lo) C f_M_35 k0 rfl rfl (Nat.le_of_ble_eq_true rfl) hL (by omega) d_M_init_68 (fun H52 locs u53 hL => ?_)
  have k54 : va_at D vwCl (b, .inr (6, [.int (0), .int (0), .ref (b + 1), .ref (b + 2), .ref (b + 3), .ref (b + 4), .ref (b + 5), .ref (b + 6), .ref (b + 7), .ref (b + 8), .ref (b + 9), .null, .null, .null, .null, .null, .null, .null, .null, .null, .null, .null, .null, .null, .null, .null, .null, .null, .null, .null, .null, .null])) H52 := u53.2.2
  replace hO := hq_Ou hO u53 (by omega)
  replace hB : hq_B D vwCl (b + 1) 9 (fun j => mdC cI cZ b 0 0 (fun _ _ => 0) (j + 1)) H52 := hq_Bu hB u53 (by omega)
  replace hz : H52.size = b + 10 := u53.1.trans hz
  replace k0 := k54
  clear k54 u53
  refine lv_aload_n C.1 C.2.1 d_M_init_71 rfl (lv_at hl 0 rfl) ?_
  refine lv_iconst (v := 4) C.1 C.2.1 d_M_init_72 (by decide) ?_
  refine hq_newa C (by decide +kernel) 0 rfl (a0 := (4, .inl (fun _ => 0))) (N' := 4) (h := b + 10) (by first | rfl | exact vp_cell_i _ _ _) (by decide) (by decide) (by decide) (Nat.le_of_ble_eq_true rfl) (Nat.le_of_ble_eq_true rfl) hz d_M_init_73 (fun H55 n56 => ?_)
  have k57 : va_at D vwCl (b + 10, .inl (cI, 4, .inl (fun _ => 0))) H55 := n56.2.2
  replace hO := hq_On hO n56 (by omega)
  replace hB : hq_B D vwCl (b + 1) 10 (fun j => mdC cI cZ b 0 0 (fun _ _ => 0) (j + 1)) H55 := hq_Ba (hq_Bn hB n56 (by omega)) (md_at (a := b + 10) (by omega) k57)
  replace k0 := hq_an k0 n56 (by omega)
  replace hz : H55.size = b + 11 := n56.1
  clear k57 n56
  refine hq_put (lo := lo) C f_M_38 k0 rfl rfl (Nat.le_of_ble_eq_true rfl) hL (by omega) d_M_init_75 (fun H58 locs u59 hL => ?_)
  have k60 : va_at D vwCl (b, .inr (6, [.int (0), .int (0), .ref (b + 1), .ref (b + 2), .ref (b + 3), .ref (b + 4), .ref (b + 5), .ref (b + 6), .ref (b + 7), .ref (b + 8), .ref (b + 9), .ref (b + 10), .null, .null, .null, .null, .null, .null, .null, .null, .null, .null, .null, .null, .null, .null, .null, .null, .null, .null, .null, .null])) H58 := u59.2.2
  replace hO := hq_Ou hO u59 (by omega)
  replace hB : hq_B D vwCl (b + 1) 10 (fun j => mdC cI cZ b 0 0 (fun _ _ => 0) (j + 1)) H58 := hq_Bu hB u59 (by omega)
  replace hz : H58.size = b + 11 := u59.1.trans hz
  replace k0 := k60
  clear k60 u59
  refine lv_aload_n C.1 C.2.1 d_M_init_78 rfl (lv_at hl 0 rfl) ?_
  refine lv_bipush (v := 16) C.1 C.2.1 d_M_init_79 (by decide) ?_
  refine hq_newa C (by decide +kernel) 0 rfl (a0 := (16, .inl (fun _ => 0))) (N' := 16) (h := b + 11) (by first | rfl | exact vp_cell_i _ _ _) (by decide) (by decide) (by decide) (Nat.le_of_ble_eq_true rfl) (Nat.le_of_ble_eq_true rfl) hz d_M_init_81 (fun H61 n62 => ?_)
  have k63 : va_at D vwCl (b + 11, .inl (cI, 16, .inl (fun _ => 0))) H61 := n62.2.2
  replace hO := hq_On hO n62 (by omega)
  replace hB : hq_B D vwCl (b + 1) 11 (fun j => mdC cI cZ b 0 0 (fun _ _ => 0) (j + 1)) H61 := hq_Ba (hq_Bn hB n62 (by omega)) (md_at (a := b + 11) (by omega) k63)
  replace k0 := hq_an k0 n62 (by omega)
  replace hz : H61.size = b + 12 := n62.1
  clear k63 n62
  refine hq_put (lo := lo) C f_M_41 k0 rfl rfl (Nat.le_of_ble_eq_true rfl) hL (by omega) d_M_init_83 (fun H64 locs u65 hL => ?_)
  have k66 : va_at D vwCl (b, .inr (6, [.int (0), .int (0), .ref (b + 1), .ref (b + 2), .ref (b + 3), .ref (b + 4), .ref (b + 5), .ref (b + 6), .ref (b + 7), .ref (b + 8), .ref (b + 9), .ref (b + 10), .ref (b + 11), .null, .null, .null, .null, .null, .null, .null, .null, .null, .null, .null, .null, .null, .null, .null, .null, .null, .null, .null])) H64 := u65.2.2
  replace hO := hq_Ou hO u65 (by omega)
  replace hB : hq_B D vwCl (b + 1) 11 (fun j => mdC cI cZ b 0 0 (fun _ _ => 0) (j + 1)) H64 := hq_Bu hB u65 (by omega)
  replace hz : H64.size = b + 12 := u65.1.trans hz
  replace k0 := k66
  clear k66 u65
  refine lv_aload_n C.1 C.2.1 d_M_init_86 rfl (lv_at hl 0 rfl) ?_
  refine lv_bipush (v := 16) C.1 C.2.1 d_M_init_87 (by decide) ?_
  refine hq_newa C (by decide +kernel) 0 rfl (a0 := (16, .inl (fun _ => 0))) (N' := 16) (h := b + 12) (by first | rfl | exact vp_cell_i _ _ _) (by decide) (by decide) (by decide) (Nat.le_of_ble_eq_true rfl) (Nat.le_of_ble_eq_true rfl) hz d_M_init_89 (fun H67 n68 => ?_)
  have k69 : va_at D vwCl (b + 12, .inl (cI, 16, .inl (fun _ => 0))) H67 := n68.2.2
  replace hO := hq_On hO n68 (by omega)
  replace hB : hq_B D vwCl (b + 1) 12 (fun j => mdC cI cZ b 0 0 (fun _ _ => 0) (j + 1)) H67 := hq_Ba (hq_Bn hB n68 (by omega)) (md_at (a := b + 12) (by omega) k69)
  replace k0 := hq_an k0 n68 (by omega)
  replace hz : H67.size = b + 13 := n68.1
  clear k69 n68
  refine hq_put (lo := lo) C f_M_44 k0 rfl rfl (Nat.le_of_ble_eq_true rfl) hL (by omega) d_M_init_91 (fun H70 locs u71 hL => ?_)
  have k72 : va_at D vwCl (b, .inr (6, [.int (0), .int (0), .ref (b + 1), .ref (b + 2), .ref (b + 3), .ref (b + 4), .ref (b + 5), .ref (b + 6), .ref (b + 7), .ref (b + 8), .ref (b + 9), .ref (b + 10), .ref (b + 11), .ref (b + 12), .null, .null, .null, .null, .null, .null, .null, .null, .null, .null, .null, .null, .null, .null, .null, .null, .null, .null])) H70 := u71.2.2
  replace hO := hq_Ou hO u71 (by omega)
  replace hB : hq_B D vwCl (b + 1) 12 (fun j => mdC cI cZ b 0 0 (fun _ _ => 0) (j + 1)) H70 := hq_Bu hB u71 (by omega)
  replace hz : H70.size = b + 13 := u71.1.trans hz
  replace k0 := k72
  clear k72 u71
  refine lv_aload_n C.1 C.2.1 d_M_init_94 rfl (lv_at hl 0 rfl) ?_
  refine lv_bipush (v := 16) C.1 C.2.1 d_M_init_95 (by decide) ?_
  refine hq_newa C (by decide +kernel) 0 rfl (a0 := (16, .inl (fun _ => 0))) (N' := 16) (h := b + 13) (by first | rfl | exact vp_cell_i _ _ _) (by decide) (by decide) (by decide) (Nat.le_of_ble_eq_true rfl) (Nat.le_of_ble_eq_true rfl) hz d_M_init_97 (fun H73 n74 => ?_)
  have k75 : va_at D vwCl (b + 13, .inl (cI, 16, .inl (fun _ => 0))) H73 := n74.2.2
  replace hO := hq_On hO n74 (by omega)
  replace hB : hq_B D vwCl (b + 1) 13 (fun j => mdC cI cZ b 0 0 (fun _ _ => 0) (j + 1)) H73 := hq_Ba (hq_Bn hB n74 (by omega)) (md_at (a := b + 13) (by omega) k75)
  replace k0 := hq_an k0 n74 (by omega)
  replace hz : H73.size = b + 14 := n74.1
  clear k75 n74
  refine hq_put (lo := lo) C f_M_47 k0 rfl rfl (Nat.le_of_ble_eq_true rfl) hL (by omega) d_M_init_99 (fun H76 locs u77 hL => ?_)
  have k78 : va_at D vwCl (b, .inr (6, [.int (0), .int (0), .ref (b + 1), .ref (b + 2), .ref (b + 3), .ref (b + 4), .ref (b + 5), .ref (b + 6), .ref (b + 7), .ref (b + 8), .ref (b + 9), .ref (b + 10), .ref (b + 11), .ref (b + 12), .ref (b + 13), .null, .null, .null, .null, .null, .null, .null, .null, .null, .null, .null, .null, .null, .null, .null, .null, .null])) H76 := u77.2.2
  replace hO := hq_Ou hO u77 (by omega)
  replace hB : hq_B D vwCl (b + 1) 13 (fun j => mdC cI cZ b 0 0 (fun _ _ => 0) (j + 1)) H76 := hq_Bu hB u77 (by omega)
  replace hz : H76.size = b + 14 := u77.1.trans hz
  replace k0 := k78
  clear k78 u77
  refine lv_aload_n C.1 C.2.1 d_M_init_102 rfl (lv_at hl 0 rfl) ?_
  refine lv_iconst (v := 4) C.1 C.2.1 d_M_init_103 (by decide) ?_
  refine hq_newa C (by decide +kernel) 0 rfl (a0 := (4, .inl (fun _ => 0))) (N' := 4) (h := b + 14) (by first | rfl | exact vp_cell_i _ _ _) (by decide) (by decide) (by decide) (Nat.le_of_ble_eq_true rfl) (Nat.le_of_ble_eq_true rfl) hz d_M_init_104 (fun H79 n80 => ?_)
  have k81 : va_at D vwCl (b + 14, .inl (cI, 4, .inl (fun _ => 0))) H79 := n80.2.2
  replace hO := hq_On hO n80 (by omega)
  replace hB : hq_B D vwCl (b + 1) 14 (fun j => mdC cI cZ b 0 0 (fun _ _ => 0) (j + 1)) H79 := hq_Ba (hq_Bn hB n80 (by omega)) (md_at (a := b + 14) (by omega) k81)
  replace k0 := hq_an k0 n80 (by omega)
  replace hz : H79.size = b + 15 := n80.1
  clear k81 n80
  refine hq_put (lo := lo) C f_M_50 k0 rfl rfl (Nat.le_of_ble_eq_true rfl) hL (by omega) d_M_init_106 (fun H82 locs u83 hL => ?_)
  have k84 : va_at D vwCl (b, .inr (6, [.int (0), .int (0), .ref (b + 1), .ref (b + 2), .ref (b + 3), .ref (b + 4), .ref (b + 5), .ref (b + 6), .ref (b + 7), .ref (b + 8), .ref (b + 9), .ref (b + 10), .ref (b + 11), .ref (b + 12), .ref (b + 13), .ref (b + 14), .null, .null, .null, .null, .null, .null, .null, .null, .null, .null, .null, .null, .null, .null, .null, .null])) H82 := u83.2.2
  replace hO := hq_Ou hO u83 (by omega)
  replace hB : hq_B D vwCl (b + 1) 14 (fun j => mdC cI cZ b 0 0 (fun _ _ => 0) (j + 1)) H82 := hq_Bu hB u83 (by omega)
  replace hz : H82.size = b + 15 := u83.1.trans hz
  replace k0 := k84
  clear k84 u83
  refine lv_aload_n C.1 C.2.1 d_M_init_109 rfl (lv_at hl 0 rfl) ?_
  refine lv_iconst (v := 4) C.1 C.2.1 d_M_init_110 (by decide) ?_
  refine hq_newa C (by decide +kernel) 0 rfl (a0 := (4, .inl (fun _ => 0))) (N' := 4) (h := b + 15) (by first | rfl | exact vp_cell_i _ _ _) (by decide) (by decide) (by decide) (Nat.le_of_ble_eq_true rfl) (Nat.le_of_ble_eq_true rfl) hz d_M_init_111 (fun H85 n86 => ?_)
  have k87 : va_at D vwCl (b + 15, .inl (cI, 4, .inl (fun _ => 0))) H85 := n86.2.2
  replace hO := hq_On hO n86 (by omega)
  replace hB : hq_B D vwCl (b + 1) 15 (fun j => mdC cI cZ b 0 0 (fun _ _ => 0) (j + 1)) H85 := hq_Ba (hq_Bn hB n86 (by omega)) (md_at (a := b + 15) (by omega) k87)
  replace k0 := hq_an k0 n86 (by omega)
  replace hz : H85.size = b + 16 := n86.1
  clear k87 n86
  refine hq_put (lo := lo) C f_M_53 k0 rfl rfl (Nat.le_of_ble_eq_true rfl) hL (by omega) d_M_init_113 (fun H88 locs u89 hL => ?_)
  have k90 : va_at D vwCl (b, .inr (6, [.int (0), .int (0), .ref (b + 1), .ref (b + 2), .ref (b + 3), .ref (b + 4), .ref (b + 5), .ref (b + 6), .ref (b + 7), .ref (b + 8), .ref (b + 9), .ref (b + 10), .ref (b + 11), .ref (b + 12), .ref (b + 13), .ref (b + 14), .ref (b + 15), .null, .null, .null, .null, .null, .null, .null, .null, .null, .null, .null, .null, .null, .null, .null])) H88 := u89.2.2
  replace hO := hq_Ou hO u89 (by omega)
  replace hB : hq_B D vwCl (b + 1) 15 (fun j => mdC cI cZ b 0 0 (fun _ _ => 0) (j + 1)) H88 := hq_Bu hB u89 (by omega)
  replace hz : H88.size = b + 16 := u89.1.trans hz
  replace k0 := k90
  clear k90 u89
  refine lv_aload_n C.1 C.2.1 d_M_init_116 rfl (lv_at hl 0 rfl) ?_
  refine lv_bipush (v := 16) C.1 C.2.1 d_M_init_117 (by decide) ?_
  refine hq_newa C (by decide +kernel) 0 rfl (a0 := (16, .inl (fun _ => 0))) (N' := 16) (h := b + 16) (by first | rfl | exact vp_cell_i _ _ _) (by decide) (by decide) (by decide) (Nat.le_of_ble_eq_true rfl) (Nat.le_of_ble_eq_true rfl) hz d_M_init_119 (fun H91 n92 => ?_)
  have k93 : va_at D vwCl (b + 16, .inl (cI, 16, .inl (fun _ => 0))) H91 := n92.2.2
  replace hO := hq_On hO n92 (by omega)
  replace hB : hq_B D vwCl (b + 1) 16 (fun j => mdC cI cZ b 0 0 (fun _ _ => 0) (j + 1)) H91 := hq_Ba (hq_Bn hB n92 (by omega)) (md_at (a := b + 16) (by omega) k93)
  replace k0 := hq_an k0 n92 (by omega)
  replace hz : H91.size = b + 17 := n92.1
  clear k93 n92
  refine hq_put (lo := lo) C f_M_56 k0 rfl rfl (Nat.le_of_ble_eq_true rfl) hL (by omega) d_M_init_121 (fun H94 locs u95 hL => ?_)
  have k96 : va_at D vwCl (b, .inr (6, [.int (0), .int (0), .ref (b + 1), .ref (b + 2), .ref (b + 3), .ref (b + 4), .ref (b + 5), .ref (b + 6), .ref (b + 7), .ref (b + 8), .ref (b + 9), .ref (b + 10), .ref (b + 11), .ref (b + 12), .ref (b + 13), .ref (b + 14), .ref (b + 15), .ref (b + 16), .null, .null, .null, .null, .null, .null, .null, .null, .null, .null, .null, .null, .null, .null])) H94 := u95.2.2
  replace hO := hq_Ou hO u95 (by omega)
  replace hB : hq_B D vwCl (b + 1) 16 (fun j => mdC cI cZ b 0 0 (fun _ _ => 0) (j + 1)) H94 := hq_Bu hB u95 (by omega)
  replace hz : H94.size = b + 17 := u95.1.trans hz
  replace k0 := k96
  clear k96 u95
  refine lv_aload_n C.1 C.2.1 d_M_init_124 rfl (lv_at hl 0 rfl) ?_
  refine lv_iconst (v := 4) C.1 C.2.1 d_M_init_125 (by decide) ?_
  refine hq_newa C (by decide +kernel) 0 rfl (a0 := (4, .inl (fun _ => 0))) (N' := 4) (h := b + 17) (by first | rfl | exact vp_cell_i _ _ _) (by decide) (by decide) (by decide) (Nat.le_of_ble_eq_true rfl) (Nat.le_of_ble_eq_true rfl) hz d_M_init_126 (fun H97 n98 => ?_)
  have k99 : va_at D vwCl (b + 17, .inl (cI, 4, .inl (fun _ => 0))) H97 := n98.2.2
  replace hO := hq_On hO n98 (by omega)
  replace hB : hq_B D vwCl (b + 1) 17 (fun j => mdC cI cZ b 0 0 (fun _ _ => 0) (j + 1)) H97 := hq_Ba (hq_Bn hB n98 (by omega)) (md_at (a := b + 17) (by omega) k99)
  replace k0 := hq_an k0 n98 (by omega)
  replace hz : H97.size = b + 18 := n98.1
  clear k99 n98
  refine hq_put (lo := lo) C f_M_59 k0 rfl rfl (Nat.le_of_ble_eq_true rfl) hL (by omega) d_M_init_128 (fun H100 locs u101 hL => ?_)
  have k102 : va_at D vwCl (b, .inr (6, [.int (0), .int (0), .ref (b + 1), .ref (b + 2), .ref (b + 3), .ref (b + 4), .ref (b + 5), .ref (b + 6), .ref (b + 7), .ref (b + 8), .ref (b + 9), .ref (b + 10), .ref (b + 11), .ref (b + 12), .ref (b + 13), .ref (b + 14), .ref (b + 15), .ref (b + 16), .ref (b + 17), .null, .null, .null, .null, .null, .null, .null, .null, .null, .null, .null, .null, .null])) H100 := u101.2.2
  replace hO := hq_Ou hO u101 (by omega)
  replace hB : hq_B D vwCl (b + 1) 17 (fun j => mdC cI cZ b 0 0 (fun _ _ => 0) (j + 1)) H100 := hq_Bu hB u101 (by omega)
  replace hz : H100.size = b + 18 := u101.1.trans hz
  replace k0 := k102
  clear k102 u101
  refine lv_aload_n C.1 C.2.1 d_M_init_131 rfl (lv_at hl 0 rfl) ?_
  refine lv_iconst (v := 4) C.1 C.2.1 d_M_init_132 (by decide) ?_
  refine hq_newa C (by decide +kernel) 0 rfl (a0 := (4, .inl (fun _ => 0))) (N' := 4) (h := b + 18) (by first | rfl | exact vp_cell_i _ _ _) (by decide) (by decide) (by decide) (Nat.le_of_ble_eq_true rfl) (Nat.le_of_ble_eq_true rfl) hz d_M_init_133 (fun H103 n104 => ?_)
  have k105 : va_at D vwCl (b + 18, .inl (cI, 4, .inl (fun _ => 0))) H103 := n104.2.2
  replace hO := hq_On hO n104 (by omega)
  replace hB : hq_B D vwCl (b + 1) 18 (fun j => mdC cI cZ b 0 0 (fun _ _ => 0) (j + 1)) H103 := hq_Ba (hq_Bn hB n104 (by omega)) (md_at (a := b + 18) (by omega) k105)
  replace k0 := hq_an k0 n104 (by omega)
  replace hz : H103.size = b + 19 := n104.1
  clear k105 n104
  refine hq_put (lo := lo) C f_M_62 k0 rfl rfl (Nat.le_of_ble_eq_true rfl) hL (by omega) d_M_init_135 (fun H106 locs u107 hL => ?_)
  have k108 : va_at D vwCl (b, .inr (6, [.int (0), .int (0), .ref (b + 1), .ref (b + 2), .ref (b + 3), .ref (b + 4), .ref (b + 5), .ref (b + 6), .ref (b + 7), .ref (b + 8), .ref (b + 9), .ref (b + 10), .ref (b + 11), .ref (b + 12), .ref (b + 13), .ref (b + 14), .ref (b + 15), .ref (b + 16), .ref (b + 17), .ref (b + 18), .null, .null, .null, .null, .null, .null, .null, .null, .null, .null, .null, .null])) H106 := u107.2.2
  replace hO := hq_Ou hO u107 (by omega)
  replace hB : hq_B D vwCl (b + 1) 18 (fun j => mdC cI cZ b 0 0 (fun _ _ => 0) (j + 1)) H106 := hq_Bu hB u107 (by omega)
  replace hz : H106.size = b + 19 := u107.1.trans hz
  replace k0 := k108
  clear k108 u107
  refine lv_aload_n C.1 C.2.1 d_M_init_138 rfl (lv_at hl 0 rfl) ?_
  refine lv_iconst (v := 4) C.1 C.2.1 d_M_init_139 (by decide) ?_
  refine hq_newa C (by decide +kernel) 0 rfl (a0 := (4, .inl (fun _ => 0))) (N' := 4) (h := b + 19) (by first | rfl | exact vp_cell_i _ _ _) (by decide) (by decide) (by decide) (Nat.le_of_ble_eq_true rfl) (Nat.le_of_ble_eq_true rfl) hz d_M_init_140 (fun H109 n110 => ?_)
  have k111 : va_at D vwCl (b + 19, .inl (cI, 4, .inl (fun _ => 0))) H109 := n110.2.2
  replace hO := hq_On hO n110 (by omega)
  replace hB : hq_B D vwCl (b + 1) 19 (fun j => mdC cI cZ b 0 0 (fun _ _ => 0) (j + 1)) H109 := hq_Ba (hq_Bn hB n110 (by omega)) (md_at (a := b + 19) (by omega) k111)
  replace k0 := hq_an k0 n110 (by omega)
  replace hz : H109.size = b + 20 := n110.1
  clear k111 n110
  refine hq_put (lo := lo) C f_M_65 k0 rfl rfl (Nat.le_of_ble_eq_true rfl) hL (by omega) d_M_init_142 (fun H112 locs u113 hL => ?_)
  have k114 : va_at D vwCl (b, .inr (6, [.int (0), .int (0), .ref (b + 1), .ref (b + 2), .ref (b + 3), .ref (b + 4), .ref (b + 5), .ref (b + 6), .ref (b + 7), .ref (b + 8), .ref (b + 9), .ref (b + 10), .ref (b + 11), .ref (b + 12), .ref (b + 13), .ref (b + 14), .ref (b + 15), .ref (b + 16), .ref (b + 17), .ref (b + 18), .ref (b + 19), .null, .null, .null, .null, .null, .null, .null, .null, .null, .null, .null])) H112 := u113.2.2
  replace hO := hq_Ou hO u113 (by omega)
  replace hB : hq_B D vwCl (b + 1) 19 (fun j => mdC cI cZ b 0 0 (fun _ _ => 0) (j + 1)) H112 := hq_Bu hB u113 (by omega)
  replace hz : H112.size = b + 20 := u113.1.trans hz
  replace k0 := k114
  clear k114 u113
  refine lv_aload_n C.1 C.2.1 d_M_init_145 rfl (lv_at hl 0 rfl) ?_
  refine lv_iconst (v := 4) C.1 C.2.1 d_M_init_146 (by decide) ?_
  refine hq_newa C (by decide +kernel) 0 rfl (a0 := (4, .inl (fun _ => 0))) (N' := 4) (h := b + 20) (by first | rfl | exact vp_cell_i _ _ _) (by decide) (by decide) (by decide) (Nat.le_of_ble_eq_true rfl) (Nat.le_of_ble_eq_true rfl) hz d_M_init_147 (fun H115 n116 => ?_)
  have k117 : va_at D vwCl (b + 20, .inl (cI, 4, .inl (fun _ => 0))) H115 := n116.2.2
  replace hO := hq_On hO n116 (by omega)
  replace hB : hq_B D vwCl (b + 1) 20 (fun j => mdC cI cZ b 0 0 (fun _ _ => 0) (j + 1)) H115 := hq_Ba (hq_Bn hB n116 (by omega)) (md_at (a := b + 20) (by omega) k117)
  replace k0 := hq_an k0 n116 (by omega)
  replace hz : H115.size = b + 21 := n116.1
  clear k117 n116
  refine hq_put (lo := lo) C f_M_68 k0 rfl rfl (Nat.le_of_ble_eq_true rfl) hL (by omega) d_M_init_149 (fun H118 locs u119 hL => ?_)
  have k120 : va_at D vwCl (b, .inr (6, [.int (0), .int (0), .ref (b + 1), .ref (b + 2), .ref (b + 3), .ref (b + 4), .ref (b + 5), .ref (b + 6), .ref (b + 7), .ref (b + 8), .ref (b + 9), .ref (b + 10), .ref (b + 11), .ref (b + 12), .ref (b + 13), .ref (b + 14), .ref (b + 15), .ref (b + 16), .ref (b + 17), .ref (b + 18), .ref (b + 19), .ref (b + 20), .null, .null, .null, .null, .null, .null, .null, .null, .null, .null])) H118 := u119.2.2
  replace hO := hq_Ou hO u119 (by omega)
  replace hB : hq_B D vwCl (b + 1) 20 (fun j => mdC cI cZ b 0 0 (fun _ _ => 0) (j + 1)) H118 := hq_Bu hB u119 (by omega)
  replace hz : H118.size = b + 21 := u119.1.trans hz
  replace k0 := k120
  clear k120 u119
  refine lv_aload_n C.1 C.2.1 d_M_init_152 rfl (lv_at hl 0 rfl) ?_
  refine lv_iconst (v := 4) C.1 C.2.1 d_M_init_153 (by decide) ?_
  refine hq_newa C (by decide +kernel) 0 rfl (a0 := (4, .inl (fun _ => 0))) (N' := 4) (h := b + 21) (by first | rfl | exact vp_cell_i _ _ _) (by decide) (by decide) (by decide) (Nat.le_of_ble_eq_true rfl) (Nat.le_of_ble_eq_true rfl) hz d_M_init_154 (fun H121 n122 => ?_)
  have k123 : va_at D vwCl (b + 21, .inl (cI, 4, .inl (fun _ => 0))) H121 := n122.2.2
  replace hO := hq_On hO n122 (by omega)
  replace hB : hq_B D vwCl (b + 1) 21 (fun j => mdC cI cZ b 0 0 (fun _ _ => 0) (j + 1)) H121 := hq_Ba (hq_Bn hB n122 (by omega)) (md_at (a := b + 21) (by omega) k123)
  replace k0 := hq_an k0 n122 (by omega)
  replace hz : H121.size = b + 22 := n122.1
  clear k123 n122
  refine hq_put (lo := lo) C f_M_71 k0 rfl rfl (Nat.le_of_ble_eq_true rfl) hL (by omega) d_M_init_156 (fun H124 locs u125 hL => ?_)
  have k126 : va_at D vwCl (b, .inr (6, [.int (0), .int (0), .ref (b + 1), .ref (b + 2), .ref (b + 3), .ref (b + 4), .ref (b + 5), .ref (b + 6), .ref (b + 7), .ref (b + 8), .ref (b + 9), .ref (b + 10), .ref (b + 11), .ref (b + 12), .ref (b + 13), .ref (b + 14), .ref (b + 15), .ref (b + 16), .ref (b + 17), .ref (b + 18), .ref (b + 19), .ref (b + 20), .ref (b + 21), .null, .null, .null, .null, .null, .null, .null, .null, .null])) H124 := u125.2.2
  replace hO := hq_Ou hO u125 (by omega)
  replace hB : hq_B D vwCl (b + 1) 21 (fun j => mdC cI cZ b 0 0 (fun _ _ => 0) (j + 1)) H124 := hq_Bu hB u125 (by omega)
  replace hz : H124.size = b + 22 := u125.1.trans hz
  replace k0 := k126
  clear k126 u125
  refine lv_aload_n C.1 C.2.1 d_M_init_159 rfl (lv_at hl 0 rfl) ?_
  refine lv_iconst (v := 4) C.1 C.2.1 d_M_init_160 (by decide) ?_
  refine hq_newa C (by decide +kernel) 0 rfl (a0 := (4, .inl (fun _ => 0))) (N' := 4) (h := b + 22) (by first | rfl | exact vp_cell_i _ _ _) (by decide) (by decide) (by decide) (Nat.le_of_ble_eq_true rfl) (Nat.le_of_ble_eq_true rfl) hz d_M_init_161 (fun H127 n128 => ?_)
  have k129 : va_at D vwCl (b + 22, .inl (cI, 4, .inl (fun _ => 0))) H127 := n128.2.2
  replace hO := hq_On hO n128 (by omega)
  replace hB : hq_B D vwCl (b + 1) 22 (fun j => mdC cI cZ b 0 0 (fun _ _ => 0) (j + 1)) H127 := hq_Ba (hq_Bn hB n128 (by omega)) (md_at (a := b + 22) (by omega) k129)
  replace k0 := hq_an k0 n128 (by omega)
  replace hz : H127.size = b + 23 := n128.1
  clear k129 n128
  refine hq_put (lo := lo) C f_M_74 k0 rfl rfl (Nat.le_of_ble_eq_true rfl) hL (by omega) d_M_init_163 (fun H130 locs u131 hL => ?_)
  have k132 : va_at D vwCl (b, .inr (6, [.int (0), .int (0), .ref (b + 1), .ref (b + 2), .ref (b + 3), .ref (b + 4), .ref (b + 5), .ref (b + 6), .ref (b + 7), .ref (b + 8), .ref (b + 9), .ref (b + 10), .ref (b + 11), .ref (b + 12), .ref (b + 13), .ref (b + 14), .ref (b + 15), .ref (b + 16), .ref (b + 17), .ref (b + 18), .ref (b + 19), .ref (b + 20), .ref (b + 21), .ref (b + 22), .null, .null, .null, .null, .null, .null, .null, .null])) H130 := u131.2.2
  replace hO := hq_Ou hO u131 (by omega)
  replace hB : hq_B D vwCl (b + 1) 22 (fun j => mdC cI cZ b 0 0 (fun _ _ => 0) (j + 1)) H130 := hq_Bu hB u131 (by omega)
  replace hz : H130.size = b + 23 := u131.1.trans hz
  replace k0 := k132
  clear k132 u131
  refine lv_aload_n C.1 C.2.1 d_M_init_166 rfl (lv_at hl 0 rfl) ?_
  refine lv_iconst (v := 4) C.1 C.2.1 d_M_init_167 (by decide) ?_
  refine hq_newa C (by decide +kernel) 0 rfl (a0 := (4, .inl (fun _ => 0))) (N' := 4) (h := b + 23) (by first | rfl | exact vp_cell_i _ _ _) (by decide) (by decide) (by decide) (Nat.le_of_ble_eq_true rfl) (Nat.le_of_ble_eq_true rfl) hz d_M_init_168 (fun H133 n134 => ?_)
  have k135 : va_at D vwCl (b + 23, .inl (cI, 4, .inl (fun _ => 0))) H133 := n134.2.2
  replace hO := hq_On hO n134 (by omega)
  replace hB : hq_B D vwCl (b + 1) 23 (fun j => mdC cI cZ b 0 0 (fun _ _ => 0) (j + 1)) H133 := hq_Ba (hq_Bn hB n134 (by omega)) (md_at (a := b + 23) (by omega) k135)
  replace k0 := hq_an k0 n134 (by omega)
  replace hz : H133.size = b + 24 := n134.1
  clear k135 n134
  refine hq_put (lo := lo) C f_M_77 k0 rfl rfl (Nat.le_of_ble_eq_true rfl) hL (by omega) d_M_init_170 (fun H136 locs u137 hL => ?_)
  have k138 : va_at D vwCl (b, .inr (6, [.int (0), .int (0), .ref (b + 1), .ref (b + 2), .ref (b + 3), .ref (b + 4), .ref (b + 5), .ref (b + 6), .ref (b + 7), .ref (b + 8), .ref (b + 9), .ref (b + 10), .ref (b + 11), .ref (b + 12), .ref (b + 13), .ref (b + 14), .ref (b + 15), .ref (b + 16), .ref (b + 17), .ref (b + 18), .ref (b + 19), .ref (b + 20), .ref (b + 21), .ref (b + 22), .ref (b + 23), .null, .null, .null, .null, .null, .null, .null])) H136 := u137.2.2
  replace hO := hq_Ou hO u137 (by omega)
  replace hB : hq_B D vwCl (b + 1) 23 (fun j => mdC cI cZ b 0 0 (fun _ _ => 0) (j + 1)) H136 := hq_Bu hB u137 (by omega)
  replace hz : H136.size = b + 24 := u137.1.trans hz
  replace k0 := k138
  clear k138 u137
  refine lv_aload_n C.1 C.2.1 d_M_init_173 rfl (lv_at hl 0 rfl) ?_
  refine lv_iconst (v := 4) C.1 C.2.1 d_M_init_174 (by decide) ?_
  refine hq_newa C (by decide +kernel) 0 rfl (a0 := (4, .inl (fun _ => 0))) (N' := 4) (h := b + 24) (by first | rfl | exact vp_cell_i _ _ _) (by decide) (by decide) (by decide) (Nat.le_of_ble_eq_true rfl) (Nat.le_of_ble_eq_true rfl) hz d_M_init_175 (fun H139 n140 => ?_)
  have k141 : va_at D vwCl (b + 24, .inl (cI, 4, .inl (fun _ => 0))) H139 := n140.2.2
  replace hO := hq_On hO n140 (by omega)
  replace hB : hq_B D vwCl (b + 1) 24 (fun j => mdC cI cZ b 0 0 (fun _ _ => 0) (j + 1)) H139 := hq_Ba (hq_Bn hB n140 (by omega)) (md_at (a := b + 24) (by omega) k141)
  replace k0 := hq_an k0 n140 (by omega)
  replace hz : H139.size = b + 25 := n140.1
  clear k141 n140
  refine hq_put (lo := lo) C f_M_80 k0 rfl rfl (Nat.le_of_ble_eq_true rfl) hL (by omega) d_M_init_177 (fun H142 locs u143 hL => ?_)
  have k144 : va_at D vwCl (b, .inr (6, [.int (0), .int (0), .ref (b + 1), .ref (b + 2), .ref (b + 3), .ref (b + 4), .ref (b + 5), .ref (b + 6), .ref (b + 7), .ref (b + 8), .ref (b + 9), .ref (b + 10), .ref (b + 11), .ref (b + 12), .ref (b + 13), .ref (b + 14), .ref (b + 15), .ref (b + 16), .ref (b + 17), .ref (b + 18), .ref (b + 19), .ref (b + 20), .ref (b + 21), .ref (b + 22), .ref (b + 23), .ref (b + 24), .null, .null, .null, .null, .null, .null])) H142 := u143.2.2
  replace hO := hq_Ou hO u143 (by omega)
  replace hB : hq_B D vwCl (b + 1) 24 (fun j => mdC cI cZ b 0 0 (fun _ _ => 0) (j + 1)) H142 := hq_Bu hB u143 (by omega)
  replace hz : H142.size = b + 25 := u143.1.trans hz
  replace k0 := k144
  clear k144 u143
  refine lv_aload_n C.1 C.2.1 d_M_init_180 rfl (lv_at hl 0 rfl) ?_
  refine lv_iconst (v := 4) C.1 C.2.1 d_M_init_181 (by decide) ?_
  refine hq_newa C (by decide +kernel) 0 rfl (a0 := (4, .inl (fun _ => 0))) (N' := 4) (h := b + 25) (by first | rfl | exact vp_cell_i _ _ _) (by decide) (by decide) (by decide) (Nat.le_of_ble_eq_true rfl) (Nat.le_of_ble_eq_true rfl) hz d_M_init_182 (fun H145 n146 => ?_)
  have k147 : va_at D vwCl (b + 25, .inl (cI, 4, .inl (fun _ => 0))) H145 := n146.2.2
  replace hO := hq_On hO n146 (by omega)
  replace hB : hq_B D vwCl (b + 1) 25 (fun j => mdC cI cZ b 0 0 (fun _ _ => 0) (j + 1)) H145 := hq_Ba (hq_Bn hB n146 (by omega)) (md_at (a := b + 25) (by omega) k147)
  replace k0 := hq_an k0 n146 (by omega)
  replace hz : H145.size = b + 26 := n146.1
  clear k147 n146
  refine hq_put (lo := lo) C f_M_83 k0 rfl rfl (Nat.le_of_ble_eq_true rfl) hL (by omega) d_M_init_184 (fun H148 locs u149 hL => ?_)
  have k150 : va_at D vwCl (b, .inr (6, [.int (0), .int (0), .ref (b + 1), .ref (b + 2), .ref (b + 3), .ref (b + 4), .ref (b + 5), .ref (b + 6), .ref (b + 7), .ref (b + 8), .ref (b + 9), .ref (b + 10), .ref (b + 11), .ref (b + 12), .ref (b + 13), .ref (b + 14), .ref (b + 15), .ref (b + 16), .ref (b + 17), .ref (b + 18), .ref (b + 19), .ref (b + 20), .ref (b + 21), .ref (b + 22), .ref (b + 23), .ref (b + 24), .ref (b + 25), .null, .null, .null, .null, .null])) H148 := u149.2.2
  replace hO := hq_Ou hO u149 (by omega)
  replace hB : hq_B D vwCl (b + 1) 25 (fun j => mdC cI cZ b 0 0 (fun _ _ => 0) (j + 1)) H148 := hq_Bu hB u149 (by omega)
  replace hz : H148.size = b + 26 := u149.1.trans hz
  replace k0 := k150
  clear k150 u149
  refine lv_aload_n C.1 C.2.1 d_M_init_187 rfl (lv_at hl 0 rfl) ?_
  refine lv_iconst (v := 4) C.1 C.2.1 d_M_init_188 (by decide) ?_
  refine hq_newa C (by decide +kernel) 1 rfl (a0 := (4, .inl (fun _ => 0))) (N' := 4) (h := b + 26) (by first | rfl | exact vp_cell_i _ _ _) (by decide) (by decide) (by decide) (Nat.le_of_ble_eq_true rfl) (Nat.le_of_ble_eq_true rfl) hz d_M_init_189 (fun H151 n152 => ?_)
  have k153 : va_at D vwCl (b + 26, .inl (cZ, 4, .inl (fun _ => 0))) H151 := n152.2.2
  replace hO := hq_On hO n152 (by omega)
  replace hB : hq_B D vwCl (b + 1) 26 (fun j => mdC cI cZ b 0 0 (fun _ _ => 0) (j + 1)) H151 := hq_Ba (hq_Bn hB n152 (by omega)) (md_at (a := b + 26) (by omega) k153)
  replace k0 := hq_an k0 n152 (by omega)
  replace hz : H151.size = b + 27 := n152.1
  clear k153 n152
  refine hq_put (lo := lo) C f_M_86 k0 rfl rfl (Nat.le_of_ble_eq_true rfl) hL (by omega) d_M_init_191 (fun H154 locs u155 hL => ?_)
  have k156 : va_at D vwCl (b, .inr (6, [.int (0), .int (0), .ref (b + 1), .ref (b + 2), .ref (b + 3), .ref (b + 4), .ref (b + 5), .ref (b + 6), .ref (b + 7), .ref (b + 8), .ref (b + 9), .ref (b + 10), .ref (b + 11), .ref (b + 12), .ref (b + 13), .ref (b + 14), .ref (b + 15), .ref (b + 16), .ref (b + 17), .ref (b + 18), .ref (b + 19), .ref (b + 20), .ref (b + 21), .ref (b + 22), .ref (b + 23), .ref (b + 24), .ref (b + 25), .ref (b + 26), .null, .null, .null, .null])) H154 := u155.2.2
  replace hO := hq_Ou hO u155 (by omega)
  replace hB : hq_B D vwCl (b + 1) 26 (fun j => mdC cI cZ b 0 0 (fun _ _ => 0) (j + 1)) H154 := hq_Bu hB u155 (by omega)
  replace hz : H154.size = b + 27 := u155.1.trans hz
  replace k0 := k156
  clear k156 u155
  refine lv_aload_n C.1 C.2.1 d_M_init_194 rfl (lv_at hl 0 rfl) ?_
  refine lv_iconst (v := 4) C.1 C.2.1 d_M_init_195 (by decide) ?_
  refine hq_newa C (by decide +kernel) 0 rfl (a0 := (4, .inl (fun _ => 0))) (N' := 4) (h := b + 27) (by first | rfl | exact vp_cell_i _ _ _) (by decide) (by decide) (by decide) (Nat.le_of_ble_eq_true rfl) (Nat.le_of_ble_eq_true rfl) hz d_M_init_196 (fun H157 n158 => ?_)
  have k159 : va_at D vwCl (b + 27, .inl (cI, 4, .inl (fun _ => 0))) H157 := n158.2.2
  replace hO := hq_On hO n158 (by omega)
  replace hB : hq_B D vwCl (b + 1) 27 (fun j => mdC cI cZ b 0 0 (fun _ _ => 0) (j + 1)) H157 := hq_Ba (hq_Bn hB n158 (by omega)) (md_at (a := b + 27) (by omega) k159)
  replace k0 := hq_an k0 n158 (by omega)
  replace hz : H157.size = b + 28 := n158.1
  clear k159 n158
  refine hq_put (lo := lo) C f_M_89 k0 rfl rfl (Nat.le_of_ble_eq_true rfl) hL (by omega) d_M_init_198 (fun H160 locs u161 hL => ?_)
  have k162 : va_at D vwCl (b, .inr (6, [.int (0), .int (0), .ref (b + 1), .ref (b + 2), .ref (b + 3), .ref (b + 4), .ref (b + 5), .ref (b + 6), .ref (b + 7), .ref (b + 8), .ref (b + 9), .ref (b + 10), .ref (b + 11), .ref (b + 12), .ref (b + 13), .ref (b + 14), .ref (b + 15), .ref (b + 16), .ref (b + 17), .ref (b + 18), .ref (b + 19), .ref (b + 20), .ref (b + 21), .ref (b + 22), .ref (b + 23), .ref (b + 24), .ref (b + 25), .ref (b + 26), .ref (b + 27), .null, .null, .null])) H160 := u161.2.2
  replace hO := hq_Ou hO u161 (by omega)
  replace hB : hq_B D vwCl (b + 1) 27 (fun j => mdC cI cZ b 0 0 (fun _ _ => 0) (j + 1)) H160 := hq_Bu hB u161 (by omega)
  replace hz : H160.size = b + 28 := u161.1.trans hz
  replace k0 := k162
  clear k162 u161
  refine lv_aload_n C.1 C.2.1 d_M_init_201 rfl (lv_at hl 0 rfl) ?_
  refine lv_iconst (v := 4) C.1 C.2.1 d_M_init_202 (by decide) ?_
  refine hq_newa C (by decide +kernel) 0 rfl (a0 := (4, .inl (fun _ => 0))) (N' := 4) (h := b + 28) (by first | rfl | exact vp_cell_i _ _ _) (by decide) (by decide) (by decide) (Nat.le_of_ble_eq_true rfl) (Nat.le_of_ble_eq_true rfl) hz d_M_init_203 (fun H163 n164 => ?_)
  have k165 : va_at D vwCl (b + 28, .inl (cI, 4, .inl (fun _ => 0))) H163 := n164.2.2
  replace hO := hq_On hO n164 (by omega)
  replace hB : hq_B D vwCl (b + 1) 28 (fun j => mdC cI cZ b 0 0 (fun _ _ => 0) (j + 1)) H163 := hq_Ba (hq_Bn hB n164 (by omega)) (md_at (a := b + 28) (by omega) k165)
  replace k0 := hq_an k0 n164 (by omega)
  replace hz : H163.size = b + 29 := n164.1
  clear k165 n164
  refine hq_put (lo := lo) C f_M_92 k0 rfl rfl (Nat.le_of_ble_eq_true rfl) hL (by omega) d_M_init_205 (fun H166 locs u167 hL => ?_)
  have k168 : va_at D vwCl (b, .inr (6, [.int (0), .int (0), .ref (b + 1), .ref (b + 2), .ref (b + 3), .ref (b + 4), .ref (b + 5), .ref (b + 6), .ref (b + 7), .ref (b + 8), .ref (b + 9), .ref (b + 10), .ref (b + 11), .ref (b + 12), .ref (b + 13), .ref (b + 14), .ref (b + 15), .ref (b + 16), .ref (b + 17), .ref (b + 18), .ref (b + 19), .ref (b + 20), .ref (b + 21), .ref (b + 22), .ref (b + 23), .ref (b + 24), .ref (b + 25), .ref (b + 26), .ref (b + 27), .ref (b + 28), .null, .null])) H166 := u167.2.2
  replace hO := hq_Ou hO u167 (by omega)
  replace hB : hq_B D vwCl (b + 1) 28 (fun j => mdC cI cZ b 0 0 (fun _ _ => 0) (j + 1)) H166 := hq_Bu hB u167 (by omega)
  replace hz : H166.size = b + 29 := u167.1.trans hz
  replace k0 := k168
  clear k168 u167
  refine lv_aload_n C.1 C.2.1 d_M_init_208 rfl (lv_at hl 0 rfl) ?_
  refine lv_iconst (v := 4) C.1 C.2.1 d_M_init_209 (by decide) ?_
  refine hq_newa C (by decide +kernel) 0 rfl (a0 := (4, .inl (fun _ => 0))) (N' := 4) (h := b + 29) (by first | rfl | exact vp_cell_i _ _ _) (by decide) (by decide) (by decide) (Nat.le_of_ble_eq_true rfl) (Nat.le_of_ble_eq_true rfl) hz d_M_init_210 (fun H169 n170 => ?_)
  have k171 : va_at D vwCl (b + 29, .inl (cI, 4, .inl (fun _ => 0))) H169 := n170.2.2
  replace hO := hq_On hO n170 (by omega)
  replace hB : hq_B D vwCl (b + 1) 29 (fun j => mdC cI cZ b 0 0 (fun _ _ => 0) (j + 1)) H169 := hq_Ba (hq_Bn hB n170 (by omega)) (md_at (a := b + 29) (by omega) k171)
  replace k0 := hq_an k0 n170 (by omega)
  replace hz : H169.size = b + 30 := n170.1
  clear k171 n170
  refine hq_put (lo := lo) C f_M_95 k0 rfl rfl (Nat.le_of_ble_eq_true rfl) hL (by omega) d_M_init_212 (fun H172 locs u173 hL => ?_)
  have k174 : va_at D vwCl (b, .inr (6, [.int (0), .int (0), .ref (b + 1), .ref (b + 2), .ref (b + 3), .ref (b + 4), .ref (b + 5), .ref (b + 6), .ref (b + 7), .ref (b + 8), .ref (b + 9), .ref (b + 10), .ref (b + 11), .ref (b + 12), .ref (b + 13), .ref (b + 14), .ref (b + 15), .ref (b + 16), .ref (b + 17), .ref (b + 18), .ref (b + 19), .ref (b + 20), .ref (b + 21), .ref (b + 22), .ref (b + 23), .ref (b + 24), .ref (b + 25), .ref (b + 26), .ref (b + 27), .ref (b + 28), .ref (b + 29), .null])) H172 := u173.2.2
  replace hO := hq_Ou hO u173 (by omega)
  replace hB : hq_B D vwCl (b + 1) 29 (fun j => mdC cI cZ b 0 0 (fun _ _ => 0) (j + 1)) H172 := hq_Bu hB u173 (by omega)
  replace hz : H172.size = b + 30 := u173.1.trans hz
  replace k0 := k174
  clear k174 u173
  refine lv_aload_n C.1 C.2.1 d_M_init_215 rfl (lv_at hl 0 rfl) ?_
  refine lv_iconst (v := 4) C.1 C.2.1 d_M_init_216 (by decide) ?_
  refine hq_newa C (by decide +kernel) 0 rfl (a0 := (4, .inl (fun _ => 0))) (N' := 4) (h := b + 30) (by first | rfl | exact vp_cell_i _ _ _) (by decide) (by decide) (by decide) (Nat.le_of_ble_eq_true rfl) (Nat.le_of_ble_eq_true rfl) hz d_M_init_217 (fun H175 n176 => ?_)
  have k177 : va_at D vwCl (b + 30, .inl (cI, 4, .inl (fun _ => 0))) H175 := n176.2.2
  replace hO := hq_On hO n176 (by omega)
  replace hB : hq_B D vwCl (b + 1) 30 (fun j => mdC cI cZ b 0 0 (fun _ _ => 0) (j + 1)) H175 := hq_Ba (hq_Bn hB n176 (by omega)) (md_at (a := b + 30) (by omega) k177)
  replace k0 := hq_an k0 n176 (by omega)
  replace hz : H175.size = b + 31 := n176.1
  clear k177 n176
  refine hq_put (lo := lo) C f_M_98 k0 rfl rfl (Nat.le_of_ble_eq_true rfl) hL (by omega) d_M_init_219 (fun H178 locs u179 hL => ?_)
  have k180 : va_at D vwCl (b, .inr (6, [.int (0), .int (0), .ref (b + 1), .ref (b + 2), .ref (b + 3), .ref (b + 4), .ref (b + 5), .ref (b + 6), .ref (b + 7), .ref (b + 8), .ref (b + 9), .ref (b + 10), .ref (b + 11), .ref (b + 12), .ref (b + 13), .ref (b + 14), .ref (b + 15), .ref (b + 16), .ref (b + 17), .ref (b + 18), .ref (b + 19), .ref (b + 20), .ref (b + 21), .ref (b + 22), .ref (b + 23), .ref (b + 24), .ref (b + 25), .ref (b + 26), .ref (b + 27), .ref (b + 28), .ref (b + 29), .ref (b + 30)])) H178 := u179.2.2
  replace hO := hq_Ou hO u179 (by omega)
  replace hB : hq_B D vwCl (b + 1) 30 (fun j => mdC cI cZ b 0 0 (fun _ _ => 0) (j + 1)) H178 := hq_Bu hB u179 (by omega)
  replace hz : H178.size = b + 31 := u179.1.trans hz
  replace k0 := k180
  clear k180 u179
  refine lv_aload_n C.1 C.2.1 d_M_init_222 rfl (lv_at hl 0 rfl) ?_
  refine lv_iload_n C.1 C.2.1 d_M_init_223 rfl (lv_at hl 1 rfl) ?_
  refine lv_iconst (v := 2) C.1 C.2.1 d_M_init_224 (by decide) ?_
  refine lv_icmp_ge (tgt := 232) C.1 C.2.1 d_M_init_225 (by decide) ?_ ?_
  · intro c0
    refine lv_iload_n C.1 C.2.1 d_M_init_232 rfl (lv_at hl 1 rfl) ?_
    refine lv_iconst (v := 4) C.1 C.2.1 d_M_init_233 (by decide) ?_
    refine lv_icmp_le (tgt := 241) C.1 C.2.1 d_M_init_234 (by decide) ?_ ?_
    · intro c1
      refine lv_iload_n C.1 C.2.1 d_M_init_241 rfl (lv_at hl 1 rfl) ?_
      refine hq_put (lo := lo) C f_M_101 k0 rfl rfl (Nat.le_of_ble_eq_true rfl) hL (by omega) d_M_init_242 (fun H181 locs u182 hL => ?_)
      have k183 : va_at D vwCl (b, .inr (6, [.int (0), .int (x), .ref (b + 1), .ref (b + 2), .ref (b + 3), .ref (b + 4), .ref (b + 5), .ref (b + 6), .ref (b + 7), .ref (b + 8), .ref (b + 9), .ref (b + 10), .ref (b + 11), .ref (b + 12), .ref (b + 13), .ref (b + 14), .ref (b + 15), .ref (b + 16), .ref (b + 17), .ref (b + 18), .ref (b + 19), .ref (b + 20), .ref (b + 21), .ref (b + 22), .ref (b + 23), .ref (b + 24), .ref (b + 25), .ref (b + 26), .ref (b + 27), .ref (b + 28), .ref (b + 29), .ref (b + 30)])) H181 := u182.2.2
      replace hO := hq_Ou hO u182 (by omega)
      replace hB : hq_B D vwCl (b + 1) 30 (fun j => mdC cI cZ b 0 0 (fun _ _ => 0) (j + 1)) H181 := hq_Bu hB u182 (by omega)
      replace hz : H181.size = b + 31 := u182.1.trans hz
      replace k0 := k183
      clear k183 u182
      have hv : clip x = x := by unfold clip; rw [if_neg (md_ge c0), if_neg (md_le c1)]
      refine hq_vret C hret hlk (Nat.le_of_ble_eq_true rfl) (Nat.le_of_ble_eq_true rfl) hL ⟨rfl, hz, ?_, hO⟩ d_M_init_245
      rw [hv]
      exact hq_B2 (n := 1) (k := 30) (C2 := (fun j => mdC cI cZ b 0 0 (fun _ _ => 0) (j + 1))) (hq_Ba hq_B0 k0) hB (fun j hj => by rw [Nat.add_comm 1 j]; exact md_tail j hj)
    · intro c1
      refine lv_iconst (v := 4) C.1 C.2.1 d_M_init_237 (by decide) ?_
      refine lv_goto (tgt := 242) C.1 C.2.1 d_M_init_238 (by decide) ?_
      refine hq_put (lo := lo) C f_M_101 k0 rfl rfl (Nat.le_of_ble_eq_true rfl) hL (by omega) d_M_init_242 (fun H184 locs u185 hL => ?_)
      have k186 : va_at D vwCl (b, .inr (6, [.int (0), .int (4), .ref (b + 1), .ref (b + 2), .ref (b + 3), .ref (b + 4), .ref (b + 5), .ref (b + 6), .ref (b + 7), .ref (b + 8), .ref (b + 9), .ref (b + 10), .ref (b + 11), .ref (b + 12), .ref (b + 13), .ref (b + 14), .ref (b + 15), .ref (b + 16), .ref (b + 17), .ref (b + 18), .ref (b + 19), .ref (b + 20), .ref (b + 21), .ref (b + 22), .ref (b + 23), .ref (b + 24), .ref (b + 25), .ref (b + 26), .ref (b + 27), .ref (b + 28), .ref (b + 29), .ref (b + 30)])) H184 := u185.2.2
      replace hO := hq_Ou hO u185 (by omega)
      replace hB : hq_B D vwCl (b + 1) 30 (fun j => mdC cI cZ b 0 0 (fun _ _ => 0) (j + 1)) H184 := hq_Bu hB u185 (by omega)
      replace hz : H184.size = b + 31 := u185.1.trans hz
      replace k0 := k186
      clear k186 u185
      have hv : clip x = 4 := by unfold clip; rw [if_neg (md_ge c0), if_pos (md_nle c1)]
      refine hq_vret C hret hlk (Nat.le_of_ble_eq_true rfl) (Nat.le_of_ble_eq_true rfl) hL ⟨rfl, hz, ?_, hO⟩ d_M_init_245
      rw [hv]
      exact hq_B2 (n := 1) (k := 30) (C2 := (fun j => mdC cI cZ b 0 0 (fun _ _ => 0) (j + 1))) (hq_Ba hq_B0 k0) hB (fun j hj => by rw [Nat.add_comm 1 j]; exact md_tail j hj)
  · intro c0
    refine lv_iconst (v := 2) C.1 C.2.1 d_M_init_228 (by decide) ?_
    refine lv_goto (tgt := 242) C.1 C.2.1 d_M_init_229 (by decide) ?_
    refine hq_put (lo := lo) C f_M_101 k0 rfl rfl (Nat.le_of_ble_eq_true rfl) hL (by omega) d_M_init_242 (fun H187 locs u188 hL => ?_)
    have k189 : va_at D vwCl (b, .inr (6, [.int (0), .int (2), .ref (b + 1), .ref (b + 2), .ref (b + 3), .ref (b + 4), .ref (b + 5), .ref (b + 6), .ref (b + 7), .ref (b + 8), .ref (b + 9), .ref (b + 10), .ref (b + 11), .ref (b + 12), .ref (b + 13), .ref (b + 14), .ref (b + 15), .ref (b + 16), .ref (b + 17), .ref (b + 18), .ref (b + 19), .ref (b + 20), .ref (b + 21), .ref (b + 22), .ref (b + 23), .ref (b + 24), .ref (b + 25), .ref (b + 26), .ref (b + 27), .ref (b + 28), .ref (b + 29), .ref (b + 30)])) H187 := u188.2.2
    replace hO := hq_Ou hO u188 (by omega)
    replace hB : hq_B D vwCl (b + 1) 30 (fun j => mdC cI cZ b 0 0 (fun _ _ => 0) (j + 1)) H187 := hq_Bu hB u188 (by omega)
    replace hz : H187.size = b + 31 := u188.1.trans hz
    replace k0 := k189
    clear k189 u188
    have hv : clip x = 2 := by unfold clip; rw [if_pos (md_nge c0)]
    refine hq_vret C hret hlk (Nat.le_of_ble_eq_true rfl) (Nat.le_of_ble_eq_true rfl) hL ⟨rfl, hz, ?_, hO⟩ d_M_init_245
    rw [hv]
    exact hq_B2 (n := 1) (k := 30) (C2 := (fun j => mdC cI cZ b 0 0 (fun _ _ => 0) (j + 1))) (hq_Ba hq_B0 k0) hB (fun j hj => by rw [Nat.add_comm 1 j]; exact md_tail j hj)
