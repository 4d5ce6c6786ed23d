/-! More of the reference's methods. -/
theorem goesOff01 (A : Nat → Nat → Int32) (j : Nat) : (f_M_goesOff A j).2 = 0 ∨ (f_M_goesOff A j).2 = 1 := by
  unfold f_M_goesOff
  split
  · exact Or.inr rfl
  · exact Or.inl rfl
def f_M_flag (A : Nat → Nat → Int32) (j : Nat) (x y : Int32) : Nat → Nat → Int32 := (setA (setA (setA (setA A 24 (upd (A 24) j x)) 25 (upd (A 25) j (vp_nar .boolean y))) 3 (upd (A 3) j 3)) 26 (upd (A 26) j 0))
set_option maxHeartbeats 4000000 in
set_option maxRecDepth 100000 in
theorem c_M_flag (l : Launch) (D : va_G) (cI cZ cN cJ : ClassId) (lo : Nat) (b : Nat) (hlo : lo ≤ b) (th nn : Int32) (A : Nat → Nat → Int32) (j : Nat) (hj : j < 4) (x y : Int32) : hq_M l y_M_flag b_M_flag 4 none TB { frames := 0, cells := 0, slots := 0, locals := 0 } lo D vwCl (TY cI cZ cN cJ) [.ref (b), .int (nI j), .int (x), .int (y)] (fun U => hq_B D vwCl b 31 (mdC cI cZ b th nn A) U.heap) (fun H v H' => v = none ∧ hq_B D vwCl b 31 (mdC cI cZ b th nn (f_M_flag A j x y)) H' ∧ hq_S b 31 H H') := by
  refine hq_ofW (by decide) (Nat.le_of_ble_eq_true rfl) ?_
  intro p e s m below meth c ls C hml hret hlk hnm hl hP
  have hL : hq_L lo [] := hq_L0
  have hl : lv_has ls 4 [(0, .ref (b)), (1, .int (nI j)), (2, .int (x)), (3, .int (y))] := hl
  have hM : hq_B D vwCl b 31 (mdC cI cZ b th nn A) s.heap := hP
  have k0 : va_at D vwCl (b, .inr (6, [.int (th), .int (nn), .ref (b + 1), .ref (b + 2), .ref (b + 3), .ref (b + 4), .ref (b + 5), .ref (b + 6), .ref (b + 7), .ref (b + 8), .ref (b + 9), .ref (b + 10), .ref (b + 11), .ref (b + 12), .ref (b + 13), .ref (b + 14), .ref (b + 15), .ref (b + 16), .ref (b + 17), .ref (b + 18), .ref (b + 19), .ref (b + 20), .ref (b + 21), .ref (b + 22), .ref (b + 23), .ref (b + 24), .ref (b + 25), .ref (b + 26), .ref (b + 27), .ref (b + 28), .ref (b + 29), .ref (b + 30)])) s.heap := hM 0 (by decide)
  refine lv_aload_n C.1 C.2.1 d_M_flag_0 rfl (lv_at hl 0 rfl) ?_
  refine hq_get (v := .ref (b + 25)) C f_M_83 k0 rfl d_M_flag_1 ?_
  refine lv_iload_n C.1 C.2.1 d_M_flag_4 rfl (lv_at hl 1 rfl) ?_
  refine lv_iload_n C.1 C.2.1 d_M_flag_5 rfl (lv_at hl 2 rfl) ?_
  have e41 : va_at D vwCl (b + 25, .inl (cI, 4, .inl (A 24))) _ := hM 25 (by decide)
  refine hq_iast (lo := lo) C 0 rfl e41 (vp_in_nI hj (by decide)) hL (by omega) d_M_flag_6 (fun H42 locs u43 hL => ?_)
  rw [nI_clamp (show j < 2 ^ 31 by omega)] at u43
  have m44 := md_set (k := 24) (f := upd (A 24) j x) hM u43
  have k0 : va_at D vwCl (b, .inr (6, [.int (th), .int (nn), .ref (b + 1), .ref (b + 2), .ref (b + 3), .ref (b + 4), .ref (b + 5), .ref (b + 6), .ref (b + 7), .ref (b + 8), .ref (b + 9), .ref (b + 10), .ref (b + 11), .ref (b + 12), .ref (b + 13), .ref (b + 14), .ref (b + 15), .ref (b + 16), .ref (b + 17), .ref (b + 18), .ref (b + 19), .ref (b + 20), .ref (b + 21), .ref (b + 22), .ref (b + 23), .ref (b + 24), .ref (b + 25), .ref (b + 26), .ref (b + 27), .ref (b + 28), .ref (b + 29), .ref (b + 30)])) H42 := m44 0 (by decide)
  refine lv_aload_n C.1 C.2.1 d_M_flag_7 rfl (lv_at hl 0 rfl) ?_
  refine hq_get (v := .ref (b + 26)) C f_M_86 k0 rfl d_M_flag_8 ?_
  refine lv_iload_n C.1 C.2.1 d_M_flag_11 rfl (lv_at hl 1 rfl) ?_
  refine lv_iload_n C.1 C.2.1 d_M_flag_12 rfl (lv_at hl 3 rfl) ?_
  have e45 : va_at D vwCl (b + 26, .inl (cZ, 4, .inl (A 25))) _ := m44 26 (by decide)
  refine hq_zast (lo := lo) C 1 rfl e45 (vp_in_nI hj (by decide)) hL (by omega) d_M_flag_13 (fun H46 locs u47 hL => ?_)
  rw [nI_clamp (show j < 2 ^ 31 by omega)] at u47
  have m48 := md_set (k := 25) (f := upd (A 25) j (vp_nar .boolean y)) m44 u47
  have k0 : va_at D vwCl (b, .inr (6, [.int (th), .int (nn), .ref (b + 1), .ref (b + 2), .ref (b + 3), .ref (b + 4), .ref (b + 5), .ref (b + 6), .ref (b + 7), .ref (b + 8), .ref (b + 9), .ref (b + 10), .ref (b + 11), .ref (b + 12), .ref (b + 13), .ref (b + 14), .ref (b + 15), .ref (b + 16), .ref (b + 17), .ref (b + 18), .ref (b + 19), .ref (b + 20), .ref (b + 21), .ref (b + 22), .ref (b + 23), .ref (b + 24), .ref (b + 25), .ref (b + 26), .ref (b + 27), .ref (b + 28), .ref (b + 29), .ref (b + 30)])) H46 := m48 0 (by decide)
  refine lv_aload_n C.1 C.2.1 d_M_flag_14 rfl (lv_at hl 0 rfl) ?_
  refine hq_get (v := .ref (b + 4)) C f_M_20 k0 rfl d_M_flag_15 ?_
  refine lv_iload_n C.1 C.2.1 d_M_flag_18 rfl (lv_at hl 1 rfl) ?_
  refine lv_iconst (v := 3) C.1 C.2.1 d_M_flag_19 (by decide) ?_
  have e49 : va_at D vwCl (b + 4, .inl (cI, 4, .inl (A 3))) _ := m48 4 (by decide)
  refine hq_iast (lo := lo) C 0 rfl e49 (vp_in_nI hj (by decide)) hL (by omega) d_M_flag_20 (fun H50 locs u51 hL => ?_)
  rw [nI_clamp (show j < 2 ^ 31 by omega)] at u51
  have m52 := md_set (k := 3) (f := upd (A 3) j 3) m48 u51
  have k0 : va_at D vwCl (b, .inr (6, [.int (th), .int (nn), .ref (b + 1), .ref (b + 2), .ref (b + 3), .ref (b + 4), .ref (b + 5), .ref (b + 6), .ref (b + 7), .ref (b + 8), .ref (b + 9), .ref (b + 10), .ref (b + 11), .ref (b + 12), .ref (b + 13), .ref (b + 14), .ref (b + 15), .ref (b + 16), .ref (b + 17), .ref (b + 18), .ref (b + 19), .ref (b + 20), .ref (b + 21), .ref (b + 22), .ref (b + 23), .ref (b + 24), .ref (b + 25), .ref (b + 26), .ref (b + 27), .ref (b + 28), .ref (b + 29), .ref (b + 30)])) H50 := m52 0 (by decide)
  refine lv_aload_n C.1 C.2.1 d_M_flag_21 rfl (lv_at hl 0 rfl) ?_
  refine hq_get (v := .ref (b + 27)) C f_M_89 k0 rfl d_M_flag_22 ?_
  refine lv_iload_n C.1 C.2.1 d_M_flag_25 rfl (lv_at hl 1 rfl) ?_
  refine lv_iconst (v := 0) C.1 C.2.1 d_M_flag_26 (by decide) ?_
  have e53 : va_at D vwCl (b + 27, .inl (cI, 4, .inl (A 26))) _ := m52 27 (by decide)
  refine hq_iast (lo := lo) C 0 rfl e53 (vp_in_nI hj (by decide)) hL (by omega) d_M_flag_27 (fun H54 locs u55 hL => ?_)
  rw [nI_clamp (show j < 2 ^ 31 by omega)] at u55
  have m56 := md_set (k := 26) (f := upd (A 26) j 0) m52 u55
  have k0 : va_at D vwCl (b, .inr (6, [.int (th), .int (nn), .ref (b + 1), .ref (b + 2), .ref (b + 3), .ref (b + 4), .ref (b + 5), .ref (b + 6), .ref (b + 7), .ref (b + 8), .ref (b + 9), .ref (b + 10), .ref (b + 11), .ref (b + 12), .ref (b + 13), .ref (b + 14), .ref (b + 15), .ref (b + 16), .ref (b + 17), .ref (b + 18), .ref (b + 19), .ref (b + 20), .ref (b + 21), .ref (b + 22), .ref (b + 23), .ref (b + 24), .ref (b + 25), .ref (b + 26), .ref (b + 27), .ref (b + 28), .ref (b + 29), .ref (b + 30)])) H54 := m56 0 (by decide)
  have hf : f_M_flag A j x y = (setA (setA (setA (setA A 24 (upd (A 24) j x)) 25 (upd (A 25) j (vp_nar .boolean y))) 3 (upd (A 3) j 3)) 26 (upd (A 26) j 0)) := rfl
  exact hq_vret C hret hlk (Nat.le_of_ble_eq_true rfl) (Nat.le_of_ble_eq_true rfl) hL ⟨rfl, by rw [hf]; exact m56, hq_Sput (hq_Sput (hq_Sput (hq_Sput (hq_S0) u43 (by omega) (by omega)) u47 (by omega) (by omega)) u51 (by omega) (by omega)) u55 (by omega) (by omega)⟩ d_M_flag_28
def f_M_overload (A : Nat → Nat → Int32) (j : Nat) : Nat → Nat → Int32 := (f_M_flag (setA (setA A 0 (upd (A 0) 7 ((A 0 7) + 1))) 28 (upd (A 28) j 0)) j 0 0)
set_option maxHeartbeats 4000000 in
set_option maxRecDepth 100000 in
theorem c_M_overload (l : Launch) (D : va_G) (cI cZ cN cJ : ClassId) (lo : Nat) (b : Nat) (hlo : lo ≤ b) (th nn : Int32) (A : Nat → Nat → Int32) (j : Nat) (hj : j < 4) : hq_M l y_M_overload b_M_overload 2 none TB { frames := 1, cells := 0, slots := 0, locals := 23 } lo D vwCl (TY cI cZ cN cJ) [.ref (b), .int (nI j)] (fun U => hq_B D vwCl b 31 (mdC cI cZ b th nn A) U.heap) (fun H v H' => v = none ∧ hq_B D vwCl b 31 (mdC cI cZ b th nn (f_M_overload A j)) H' ∧ hq_S b 31 H H') := by
  refine hq_ofW (by decide) (Nat.le_of_ble_eq_true rfl) ?_
  intro p e s m below meth c ls C hml hret hlk hnm hl hP
  have hL : hq_L lo [] := hq_L0
  have hl : lv_has ls 2 [(0, .ref (b)), (1, .int (nI j))] := hl
  have hM : hq_B D vwCl b 31 (mdC cI cZ b th nn A) s.heap := hP
  have k0 : va_at D vwCl (b, .inr (6, [.int (th), .int (nn), .ref (b + 1), .ref (b + 2), .ref (b + 3), .ref (b + 4), .ref (b + 5), .ref (b + 6), .ref (b + 7), .ref (b + 8), .ref (b + 9), .ref (b + 10), .ref (b + 11), .ref (b + 12), .ref (b + 13), .ref (b + 14), .ref (b + 15), .ref (b + 16), .ref (b + 17), .ref (b + 18), .ref (b + 19), .ref (b + 20), .ref (b + 21), .ref (b + 22), .ref (b + 23), .ref (b + 24), .ref (b + 25), .ref (b + 26), .ref (b + 27), .ref (b + 28), .ref (b + 29), .ref (b + 30)])) s.heap := hM 0 (by decide)
  refine lv_aload_n C.1 C.2.1 d_M_overload_0 rfl (lv_at hl 0 rfl) ?_
  refine hq_get (v := .ref (b + 1)) C f_M_7 k0 rfl d_M_overload_1 ?_
  refine lv_bipush (v := 7) C.1 C.2.1 d_M_overload_4 (by decide) ?_
  refine lv_dup2_11 C.1 C.2.1 d_M_overload_6 rfl rfl ?_
  have e41 : va_at D vwCl (b + 1, .inl (cI, 8, .inl (A 0))) _ := hM 1 (by decide)
  refine hq_iald C 0 rfl e41 (show vp_in (nI 7) 8 from vp_in_nI (by decide) (by decide)) d_M_overload_7 ?_
  refine W.eq (g2 := F0 m 8 ls [.int (A 0 7), .int (7), .ref (b + 1)]) rfl ?_
  refine lv_iconst (v := 1) C.1 C.2.1 d_M_overload_8 (by decide) ?_
  refine lv_iadd C.1 C.2.1 d_M_overload_9 ?_
  have e42 : va_at D vwCl (b + 1, .inl (cI, 8, .inl (A 0))) _ := hM 1 (by decide)
  refine hq_iast (lo := lo) C 0 rfl e42 (show vp_in (nI 7) 8 from vp_in_nI (by decide) (by decide)) hL (by omega) d_M_overload_10 (fun H43 locs u44 hL => ?_)
  have m45 := md_set (k := 0) (f := upd (A 0) 7 ((A 0 7) + 1)) hM u44
  have k0 : va_at D vwCl (b, .inr (6, [.int (th), .int (nn), .ref (b + 1), .ref (b + 2), .ref (b + 3), .ref (b + 4), .ref (b + 5), .ref (b + 6), .ref (b + 7), .ref (b + 8), .ref (b + 9), .ref (b + 10), .ref (b + 11), .ref (b + 12), .ref (b + 13), .ref (b + 14), .ref (b + 15), .ref (b + 16), .ref (b + 17), .ref (b + 18), .ref (b + 19), .ref (b + 20), .ref (b + 21), .ref (b + 22), .ref (b + 23), .ref (b + 24), .ref (b + 25), .ref (b + 26), .ref (b + 27), .ref (b + 28), .ref (b + 29), .ref (b + 30)])) H43 := m45 0 (by decide)
  refine lv_aload_n C.1 C.2.1 d_M_overload_11 rfl (lv_at hl 0 rfl) ?_
  refine hq_get (v := .ref (b + 29)) C f_M_95 k0 rfl d_M_overload_12 ?_
  refine lv_iload_n C.1 C.2.1 d_M_overload_15 rfl (lv_at hl 1 rfl) ?_
  refine lv_iconst (v := 0) C.1 C.2.1 d_M_overload_16 (by decide) ?_
  have e46 : va_at D vwCl (b + 29, .inl (cI, 4, .inl (A 28))) _ := m45 29 (by decide)
  refine hq_iast (lo := lo) C 0 rfl e46 (vp_in_nI hj (by decide)) hL (by omega) d_M_overload_17 (fun H47 locs u48 hL => ?_)
  rw [nI_clamp (show j < 2 ^ 31 by omega)] at u48
  have m49 := md_set (k := 28) (f := upd (A 28) j 0) m45 u48
  have k0 : va_at D vwCl (b, .inr (6, [.int (th), .int (nn), .ref (b + 1), .ref (b + 2), .ref (b + 3), .ref (b + 4), .ref (b + 5), .ref (b + 6), .ref (b + 7), .ref (b + 8), .ref (b + 9), .ref (b + 10), .ref (b + 11), .ref (b + 12), .ref (b + 13), .ref (b + 14), .ref (b + 15), .ref (b + 16), .ref (b + 17), .ref (b + 18), .ref (b + 19), .ref (b + 20), .ref (b + 21), .ref (b + 22), .ref (b + 23), .ref (b + 24), .ref (b + 25), .ref (b + 26), .ref (b + 27), .ref (b + 28), .ref (b + 29), .ref (b + 30)])) H47 := m49 0 (by decide)
  refine lv_aload_n C.1 C.2.1 d_M_overload_18 rfl (lv_at hl 0 rfl) ?_
  refine lv_iload_n C.1 C.2.1 d_M_overload_19 rfl (lv_at hl 1 rfl) ?_
  refine lv_iconst (v := 0) C.1 C.2.1 d_M_overload_20 (by decide) ?_
  refine lv_iconst (v := 0) C.1 C.2.1 d_M_overload_21 (by decide) ?_
  refine hq_callV (lo := lo) (As := [.int (nI j), .int (0), .int (0)]) (rest := []) C tb_good hml Y_M_129 (c_M_flag l D cI cZ cN cJ lo b hlo th nn (setA (setA A 0 (upd (A 0) 7 ((A 0 7) + 1))) 28 (upd (A 28) j 0)) j hj 0 0) k0 rfl (fun _ _ _ _ h => h) (fun U hU hW => by show hq_B D vwCl b 31 (mdC cI cZ b th nn (setA (setA A 0 (upd (A 0) 7 ((A 0 7) + 1))) 28 (upd (A 28) j 0))) U.heap; rw [hU]; exact m49) hL hl.1 rfl rfl ⟨⟨Nat.le_of_ble_eq_true rfl, Nat.le_of_ble_eq_true rfl⟩, Nat.le_of_ble_eq_true rfl, Nat.le_of_ble_eq_true rfl⟩ (Nat.le_of_ble_eq_true rfl) d_M_overload_22 (fun v H52 locs hp hL => ?_)
  obtain ⟨rfl, m50, S51⟩ := hp
  refine W.eq (g2 := F0 m 25 ls []) rfl ?_
  have k0 : va_at D vwCl (b, .inr (6, [.int (th), .int (nn), .ref (b + 1), .ref (b + 2), .ref (b + 3), .ref (b + 4), .ref (b + 5), .ref (b + 6), .ref (b + 7), .ref (b + 8), .ref (b + 9), .ref (b + 10), .ref (b + 11), .ref (b + 12), .ref (b + 13), .ref (b + 14), .ref (b + 15), .ref (b + 16), .ref (b + 17), .ref (b + 18), .ref (b + 19), .ref (b + 20), .ref (b + 21), .ref (b + 22), .ref (b + 23), .ref (b + 24), .ref (b + 25), .ref (b + 26), .ref (b + 27), .ref (b + 28), .ref (b + 29), .ref (b + 30)])) H52 := m50 0 (by decide)
  have hf : f_M_overload A j = (f_M_flag (setA (setA A 0 (upd (A 0) 7 ((A 0 7) + 1))) 28 (upd (A 28) j 0)) j 0 0) := rfl
  exact hq_vret C hret hlk (Nat.le_of_ble_eq_true rfl) (Nat.le_of_ble_eq_true rfl) hL ⟨rfl, by rw [hf]; exact m50, hq_Scall (hq_Sput (hq_Sput (hq_S0) u44 (by omega) (by omega)) u48 (by omega) (by omega)) S51 (by omega) (by omega)⟩ d_M_overload_25
def f_M_eightMore (A : Nat → Nat → Int32) (j : Nat) : (Nat → Nat → Int32) × Int32 := if (A 24 j) = 1 then (if (A 24 j) = 2 then (((f_M_goesOff (setA (setA A 4 (upd (A 4) j ((A 4 j) + 8))) 5 (upd (A 5) j ((A 5 j) + 8))) j).1, (f_M_goesOff (setA (setA A 4 (upd (A 4) j ((A 4 j) + 8))) 5 (upd (A 5) j ((A 5 j) + 8))) j).2)) else (((f_M_goesOff (setA (setA A 4 (upd (A 4) j ((A 4 j) + 8))) 5 (upd (A 5) j ((A 5 j) + 0))) j).1, (f_M_goesOff (setA (setA A 4 (upd (A 4) j ((A 4 j) + 8))) 5 (upd (A 5) j ((A 5 j) + 0))) j).2))) else (if (A 24 j) = 2 then (((f_M_goesOff (setA (setA A 4 (upd (A 4) j ((A 4 j) + 0))) 5 (upd (A 5) j ((A 5 j) + 8))) j).1, (f_M_goesOff (setA (setA A 4 (upd (A 4) j ((A 4 j) + 0))) 5 (upd (A 5) j ((A 5 j) + 8))) j).2)) else (((f_M_goesOff (setA (setA A 4 (upd (A 4) j ((A 4 j) + 0))) 5 (upd (A 5) j ((A 5 j) + 0))) j).1, (f_M_goesOff (setA (setA A 4 (upd (A 4) j ((A 4 j) + 0))) 5 (upd (A 5) j ((A 5 j) + 0))) j).2)))
set_option maxHeartbeats 4000000 in
set_option maxRecDepth 100000 in
theorem c_M_eightMore (l : Launch) (D : va_G) (cI cZ cN cJ : ClassId) (lo : Nat) (b : Nat) (hlo : lo ≤ b) (th nn : Int32) (A : Nat → Nat → Int32) (j : Nat) (hj : j < 4) : hq_M l y_M_eightMore b_M_eightMore 2 (some .boolean) TB { frames := 1, cells := 0, slots := 0, locals := 21 } lo D vwCl (TY cI cZ cN cJ) [.ref (b), .int (nI j)] (fun U => hq_B D vwCl b 31 (mdC cI cZ b th nn A) U.heap) (fun H v H' => v = some (.int (f_M_eightMore A j).2) ∧ hq_B D vwCl b 31 (mdC cI cZ b th nn (f_M_eightMore A j).1) H' ∧ hq_S b 31 H H') := by
  refine hq_ofW (by decide) (Nat.le_of_ble_eq_true rfl) ?_
  intro p e s m below meth c ls C hml hret hlk hnm hl hP
  have hL : hq_L lo [] := hq_L0
  have hl : lv_has ls 2 [(0, .ref (b)), (1, .int (nI j))] := hl
  have hM : hq_B D vwCl b 31 (mdC cI cZ b th nn A) s.heap := hP
  have k0 : va_at D vwCl (b, .inr (6, [.int (th), .int (nn), .ref (b + 1), .ref (b + 2), .ref (b + 3), .ref (b + 4), .ref (b + 5), .ref (b + 6), .ref (b + 7), .ref (b + 8), .ref (b + 9), .ref (b + 10), .ref (b + 11), .ref (b + 12), .ref (b + 13), .ref (b + 14), .ref (b + 15), .ref (b + 16), .ref (b + 17), .ref (b + 18), .ref (b + 19), .ref (b + 20), .ref (b + 21), .ref (b + 22), .ref (b + 23), .ref (b + 24), .ref (b + 25), .ref (b + 26), .ref (b + 27), .ref (b + 28), .ref (b + 29), .ref (b + 30)])) s.heap := hM 0 (by decide)
  refine lv_aload_n C.1 C.2.1 d_M_eightMore_0 rfl (lv_at hl 0 rfl) ?_
  refine hq_get (v := .ref (b + 5)) C f_M_23 k0 rfl d_M_eightMore_1 ?_
  refine lv_iload_n C.1 C.2.1 d_M_eightMore_4 rfl (lv_at hl 1 rfl) ?_
  refine lv_dup2_11 C.1 C.2.1 d_M_eightMore_5 rfl rfl ?_
  have e41 : va_at D vwCl (b + 5, .inl (cI, 4, .inl (A 4))) _ := hM 5 (by decide)
  refine hq_iald C 0 rfl e41 (vp_in_nI hj (by decide)) d_M_eightMore_6 ?_
  rw [nI_clamp (show j < 2 ^ 31 by omega)]
  refine W.eq (g2 := F0 m 7 ls [.int (A 4 j), .int (nI j), .ref (b + 5)]) rfl ?_
  refine lv_aload_n C.1 C.2.1 d_M_eightMore_7 rfl (lv_at hl 0 rfl) ?_
  refine hq_get (v := .ref (b + 25)) C f_M_83 k0 rfl d_M_eightMore_8 ?_
  refine lv_iload_n C.1 C.2.1 d_M_eightMore_11 rfl (lv_at hl 1 rfl) ?_
  have e42 : va_at D vwCl (b + 25, .inl (cI, 4, .inl (A 24))) _ := hM 25 (by decide)
  refine hq_iald C 0 rfl e42 (vp_in_nI hj (by decide)) d_M_eightMore_12 ?_
  rw [nI_clamp (show j < 2 ^ 31 by omega)]
  refine W.eq (g2 := F0 m 13 ls [.int (A 24 j), .int (A 4 j), .int (nI j), .ref (b + 5)]) rfl ?_
  refine lv_iconst (v := 1) C.1 C.2.1 d_M_eightMore_13 (by decide) ?_
  refine lv_icmp_ne (tgt := 22) C.1 C.2.1 d_M_eightMore_14 (by decide) ?_ ?_
  · intro c43
    refine lv_iconst (v := 0) C.1 C.2.1 d_M_eightMore_22 (by decide) ?_
    refine lv_iadd C.1 C.2.1 d_M_eightMore_23 ?_
    have e44 : va_at D vwCl (b + 5, .inl (cI, 4, .inl (A 4))) _ := hM 5 (by decide)
    refine hq_iast (lo := lo) C 0 rfl e44 (vp_in_nI hj (by decide)) hL (by omega) d_M_eightMore_24 (fun H45 locs u46 hL => ?_)
    rw [nI_clamp (show j < 2 ^ 31 by omega)] at u46
    have m47 := md_set (k := 4) (f := upd (A 4) j ((A 4 j) + 0)) hM u46
    have k0 : va_at D vwCl (b, .inr (6, [.int (th), .int (nn), .ref (b + 1), .ref (b + 2), .ref (b + 3), .ref (b + 4), .ref (b + 5), .ref (b + 6), .ref (b + 7), .ref (b + 8), .ref (b + 9), .ref (b + 10), .ref (b + 11), .ref (b + 12), .ref (b + 13), .ref (b + 14), .ref (b + 15), .ref (b + 16), .ref (b + 17), .ref (b + 18), .ref (b + 19), .ref (b + 20), .ref (b + 21), .ref (b + 22), .ref (b + 23), .ref (b + 24), .ref (b + 25), .ref (b + 26), .ref (b + 27), .ref (b + 28), .ref (b + 29), .ref (b + 30)])) H45 := m47 0 (by decide)
    refine lv_aload_n C.1 C.2.1 d_M_eightMore_25 rfl (lv_at hl 0 rfl) ?_
    refine hq_get (v := .ref (b + 6)) C f_M_26 k0 rfl d_M_eightMore_26 ?_
    refine lv_iload_n C.1 C.2.1 d_M_eightMore_29 rfl (lv_at hl 1 rfl) ?_
    refine lv_dup2_11 C.1 C.2.1 d_M_eightMore_30 rfl rfl ?_
    have e48 : va_at D vwCl (b + 6, .inl (cI, 4, .inl (A 5))) _ := m47 6 (by decide)
    refine hq_iald C 0 rfl e48 (vp_in_nI hj (by decide)) d_M_eightMore_31 ?_
    rw [nI_clamp (show j < 2 ^ 31 by omega)]
    refine W.eq (g2 := F0 m 32 ls [.int (A 5 j), .int (nI j), .ref (b + 6)]) rfl ?_
    refine lv_aload_n C.1 C.2.1 d_M_eightMore_32 rfl (lv_at hl 0 rfl) ?_
    refine hq_get (v := .ref (b + 25)) C f_M_83 k0 rfl d_M_eightMore_33 ?_
    refine lv_iload_n C.1 C.2.1 d_M_eightMore_36 rfl (lv_at hl 1 rfl) ?_
    have e49 : va_at D vwCl (b + 25, .inl (cI, 4, .inl (A 24))) _ := m47 25 (by decide)
    refine hq_iald C 0 rfl e49 (vp_in_nI hj (by decide)) d_M_eightMore_37 ?_
    rw [nI_clamp (show j < 2 ^ 31 by omega)]
    refine W.eq (g2 := F0 m 38 ls [.int (A 24 j), .int (A 5 j), .int (nI j), .ref (b + 6)]) rfl ?_
    refine lv_iconst (v := 2) C.1 C.2.1 d_M_eightMore_38 (by decide) ?_
    refine lv_icmp_ne (tgt := 47) C.1 C.2.1 d_M_eightMore_39 (by decide) ?_ ?_
    · intro c50
      refine lv_iconst (v := 0) C.1 C.2.1 d_M_eightMore_47 (by decide) ?_
      refine lv_iadd C.1 C.2.1 d_M_eightMore_48 ?_
      have e51 : va_at D vwCl (b + 6, .inl (cI, 4, .inl (A 5))) _ := m47 6 (by decide)
      refine hq_iast (lo := lo) C 0 rfl e51 (vp_in_nI hj (by decide)) hL (by omega) d_M_eightMore_49 (fun H52 locs u53 hL => ?_)
      rw [nI_clamp (show j < 2 ^ 31 by omega)] at u53
      have m54 := md_set (k := 5) (f := upd (A 5) j ((A 5 j) + 0)) m47 u53
      have k0 : va_at D vwCl (b, .inr (6, [.int (th), .int (nn), .ref (b + 1), .ref (b + 2), .ref (b + 3), .ref (b + 4), .ref (b + 5), .ref (b + 6), .ref (b + 7), .ref (b + 8), .ref (b + 9), .ref (b + 10), .ref (b + 11), .ref (b + 12), .ref (b + 13), .ref (b + 14), .ref (b + 15), .ref (b + 16), .ref (b + 17), .ref (b + 18), .ref (b + 19), .ref (b + 20), .ref (b + 21), .ref (b + 22), .ref (b + 23), .ref (b + 24), .ref (b + 25), .ref (b + 26), .ref (b + 27), .ref (b + 28), .ref (b + 29), .ref (b + 30)])) H52 := m54 0 (by decide)
      refine lv_aload_n C.1 C.2.1 d_M_eightMore_50 rfl (lv_at hl 0 rfl) ?_
      refine lv_iload_n C.1 C.2.1 d_M_eightMore_51 rfl (lv_at hl 1 rfl) ?_
      refine hq_callV (lo := lo) (As := [.int (nI j)]) (rest := []) C tb_good hml Y_M_126 (c_M_goesOff l D cI cZ cN cJ lo b hlo th nn (setA (setA A 4 (upd (A 4) j ((A 4 j) + 0))) 5 (upd (A 5) j ((A 5 j) + 0))) j hj) k0 rfl (fun _ _ _ _ h => h) (fun U hU hW => by show hq_B D vwCl b 31 (mdC cI cZ b th nn (setA (setA A 4 (upd (A 4) j ((A 4 j) + 0))) 5 (upd (A 5) j ((A 5 j) + 0)))) U.heap; rw [hU]; exact m54) hL hl.1 rfl rfl ⟨⟨Nat.le_of_ble_eq_true rfl, Nat.le_of_ble_eq_true rfl⟩, Nat.le_of_ble_eq_true rfl, Nat.le_of_ble_eq_true rfl⟩ (Nat.le_of_ble_eq_true rfl) d_M_eightMore_52 (fun v H57 locs hp hL => ?_)
      obtain ⟨rfl, m55, S56⟩ := hp
      refine W.eq (g2 := F0 m 55 ls [.int ((f_M_goesOff (setA (setA A 4 (upd (A 4) j ((A 4 j) + 0))) 5 (upd (A 5) j ((A 5 j) + 0))) j).2)]) rfl ?_
      have k0 : va_at D vwCl (b, .inr (6, [.int (th), .int (nn), .ref (b + 1), .ref (b + 2), .ref (b + 3), .ref (b + 4), .ref (b + 5), .ref (b + 6), .ref (b + 7), .ref (b + 8), .ref (b + 9), .ref (b + 10), .ref (b + 11), .ref (b + 12), .ref (b + 13), .ref (b + 14), .ref (b + 15), .ref (b + 16), .ref (b + 17), .ref (b + 18), .ref (b + 19), .ref (b + 20), .ref (b + 21), .ref (b + 22), .ref (b + 23), .ref (b + 24), .ref (b + 25), .ref (b + 26), .ref (b + 27), .ref (b + 28), .ref (b + 29), .ref (b + 30)])) H57 := m55 0 (by decide)
      have hf : f_M_eightMore A j = ((f_M_goesOff (setA (setA A 4 (upd (A 4) j ((A 4 j) + 0))) 5 (upd (A 5) j ((A 5 j) + 0))) j).1, (f_M_goesOff (setA (setA A 4 (upd (A 4) j ((A 4 j) + 0))) 5 (upd (A 5) j ((A 5 j) + 0))) j).2) := by unfold f_M_eightMore; rw [if_neg c43, if_neg c50]
      exact hq_zret C hret hlk (nar01 (goesOff01 _ _)) (Nat.le_of_ble_eq_true rfl) (Nat.le_of_ble_eq_true rfl) hL ⟨by rw [hf], by rw [hf]; exact m55, hq_Scall (hq_Sput (hq_Sput (hq_S0) u46 (by omega) (by omega)) u53 (by omega) (by omega)) S56 (by omega) (by omega)⟩ d_M_eightMore_55
    · intro c50
      refine lv_bipush (v := 8) C.1 C.2.1 d_M_eightMore_42 (by decide) ?_
      refine lv_goto (tgt := 48) C.1 C.2.1 d_M_eightMore_44 (by decide) ?_
      refine lv_iadd C.1 C.2.1 d_M_eightMore_48 ?_
      have e58 : va_at D vwCl (b + 6, .inl (cI, 4, .inl (A 5))) _ := m47 6 (by decide)
      refine hq_iast (lo := lo) C 0 rfl e58 (vp_in_nI hj (by decide)) hL (by omega) d_M_eightMore_49 (fun H59 locs u60 hL => ?_)
      rw [nI_clamp (show j < 2 ^ 31 by omega)] at u60
      have m61 := md_set (k := 5) (f := upd (A 5) j ((A 5 j) + 8)) m47 u60
      have k0 : va_at D vwCl (b, .inr (6, [.int (th), .int (nn), .ref (b + 1), .ref (b + 2), .ref (b + 3), .ref (b + 4), .ref (b + 5), .ref (b + 6), .ref (b + 7), .ref (b + 8), .ref (b + 9), .ref (b + 10), .ref (b + 11), .ref (b + 12), .ref (b + 13), .ref (b + 14), .ref (b + 15), .ref (b + 16), .ref (b + 17), .ref (b + 18), .ref (b + 19), .ref (b + 20), .ref (b + 21), .ref (b + 22), .ref (b + 23), .ref (b + 24), .ref (b + 25), .ref (b + 26), .ref (b + 27), .ref (b + 28), .ref (b + 29), .ref (b + 30)])) H59 := m61 0 (by decide)
      refine lv_aload_n C.1 C.2.1 d_M_eightMore_50 rfl (lv_at hl 0 rfl) ?_
      refine lv_iload_n C.1 C.2.1 d_M_eightMore_51 rfl (lv_at hl 1 rfl) ?_
      refine hq_callV (lo := lo) (As := [.int (nI j)]) (rest := []) C tb_good hml Y_M_126 (c_M_goesOff l D cI cZ cN cJ lo b hlo th nn (setA (setA A 4 (upd (A 4) j ((A 4 j) + 0))) 5 (upd (A 5) j ((A 5 j) + 8))) j hj) k0 rfl (fun _ _ _ _ h => h) (fun U hU hW => by show hq_B D vwCl b 31 (mdC cI cZ b th nn (setA (setA A 4 (upd (A 4) j ((A 4 j) + 0))) 5 (upd (A 5) j ((A 5 j) + 8)))) U.heap; rw [hU]; exact m61) hL hl.1 rfl rfl ⟨⟨Nat.le_of_ble_eq_true rfl, Nat.le_of_ble_eq_true rfl⟩, Nat.le_of_ble_eq_true rfl, Nat.le_of_ble_eq_true rfl⟩ (Nat.le_of_ble_eq_true rfl) d_M_eightMore_52 (fun v H64 locs hp hL => ?_)
      obtain ⟨rfl, m62, S63⟩ := hp
      refine W.eq (g2 := F0 m 55 ls [.int ((f_M_goesOff (setA (setA A 4 (upd (A 4) j ((A 4 j) + 0))) 5 (upd (A 5) j ((A 5 j) + 8))) j).2)]) rfl ?_
      have k0 : va_at D vwCl (b, .inr (6, [.int (th), .int (nn), .ref (b + 1), .ref (b + 2), .ref (b + 3), .ref (b + 4), .ref (b + 5), .ref (b + 6), .ref (b + 7), .ref (b + 8), .ref (b + 9), .ref (b + 10), .ref (b + 11), .ref (b + 12), .ref (b + 13), .ref (b + 14), .ref (b + 15), .ref (b + 16), .ref (b + 17), .ref (b + 18), .ref (b + 19), .ref (b + 20), .ref (b + 21), .ref (b + 22), .ref (b + 23), .ref (b + 24), .ref (b + 25), .ref (b + 26), .ref (b + 27), .ref (b + 28), .ref (b + 29), .ref (b + 30)])) H64 := m62 0 (by decide)
      have hf : f_M_eightMore A j = ((f_M_goesOff (setA (setA A 4 (upd (A 4) j ((A 4 j) + 0))) 5 (upd (A 5) j ((A 5 j) + 8))) j).1, (f_M_goesOff (setA (setA A 4 (upd (A 4) j ((A 4 j) + 0))) 5 (upd (A 5) j ((A 5 j) + 8))) j).2) := by unfold f_M_eightMore; rw [if_neg c43, if_pos c50]
      exact hq_zret C hret hlk (nar01 (goesOff01 _ _)) (Nat.le_of_ble_eq_true rfl) (Nat.le_of_ble_eq_true rfl) hL ⟨by rw [hf], by rw [hf]; exact m62, hq_Scall (hq_Sput (hq_Sput (hq_S0) u46 (by omega) (by omega)) u60 (by omega) (by omega)) S63 (by omega) (by omega)⟩ d_M_eightMore_55
  · intro c43
    refine lv_bipush (v := 8) C.1 C.2.1 d_M_eightMore_17 (by decide) ?_
    refine lv_goto (tgt := 23) C.1 C.2.1 d_M_eightMore_19 (by decide) ?_
    refine lv_iadd C.1 C.2.1 d_M_eightMore_23 ?_
    have e65 : va_at D vwCl (b + 5, .inl (cI, 4, .inl (A 4))) _ := hM 5 (by decide)
    refine hq_iast (lo := lo) C 0 rfl e65 (vp_in_nI hj (by decide)) hL (by omega) d_M_eightMore_24 (fun H66 locs u67 hL => ?_)
    rw [nI_clamp (show j < 2 ^ 31 by omega)] at u67
    have m68 := md_set (k := 4) (f := upd (A 4) j ((A 4 j) + 8)) hM u67
    have k0 : va_at D vwCl (b, .inr (6, [.int (th), .int (nn), .ref (b + 1), .ref (b + 2), .ref (b + 3), .ref (b + 4), .ref (b + 5), .ref (b + 6), .ref (b + 7), .ref (b + 8), .ref (b + 9), .ref (b + 10), .ref (b + 11), .ref (b + 12), .ref (b + 13), .ref (b + 14), .ref (b + 15), .ref (b + 16), .ref (b + 17), .ref (b + 18), .ref (b + 19), .ref (b + 20), .ref (b + 21), .ref (b + 22), .ref (b + 23), .ref (b + 24), .ref (b + 25), .ref (b + 26), .ref (b + 27), .ref (b + 28), .ref (b + 29), .ref (b + 30)])) H66 := m68 0 (by decide)
    refine lv_aload_n C.1 C.2.1 d_M_eightMore_25 rfl (lv_at hl 0 rfl) ?_
    refine hq_get (v := .ref (b + 6)) C f_M_26 k0 rfl d_M_eightMore_26 ?_
    refine lv_iload_n C.1 C.2.1 d_M_eightMore_29 rfl (lv_at hl 1 rfl) ?_
    refine lv_dup2_11 C.1 C.2.1 d_M_eightMore_30 rfl rfl ?_
    have e69 : va_at D vwCl (b + 6, .inl (cI, 4, .inl (A 5))) _ := m68 6 (by decide)
    refine hq_iald C 0 rfl e69 (vp_in_nI hj (by decide)) d_M_eightMore_31 ?_
    rw [nI_clamp (show j < 2 ^ 31 by omega)]
    refine W.eq (g2 := F0 m 32 ls [.int (A 5 j), .int (nI j), .ref (b + 6)]) rfl ?_
    refine lv_aload_n C.1 C.2.1 d_M_eightMore_32 rfl (lv_at hl 0 rfl) ?_
    refine hq_get (v := .ref (b + 25)) C f_M_83 k0 rfl d_M_eightMore_33 ?_
    refine lv_iload_n C.1 C.2.1 d_M_eightMore_36 rfl (lv_at hl 1 rfl) ?_
    have e70 : va_at D vwCl (b + 25, .inl (cI, 4, .inl (A 24))) _ := m68 25 (by decide)
    refine hq_iald C 0 rfl e70 (vp_in_nI hj (by decide)) d_M_eightMore_37 ?_
    rw [nI_clamp (show j < 2 ^ 31 by omega)]
    refine W.eq (g2 := F0 m 38 ls [.int (A 24 j), .int (A 5 j), .int (nI j), .ref (b + 6)]) rfl ?_
    refine lv_iconst (v := 2) C.1 C.2.1 d_M_eightMore_38 (by decide) ?_
    refine lv_icmp_ne (tgt := 47) C.1 C.2.1 d_M_eightMore_39 (by decide) ?_ ?_
    · intro c71
      refine lv_iconst (v := 0) C.1 C.2.1 d_M_eightMore_47 (by decide) ?_
      refine lv_iadd C.1 C.2.1 d_M_eightMore_48 ?_
      have e72 : va_at D vwCl (b + 6, .inl (cI, 4, .inl (A 5))) _ := m68 6 (by decide)
      refine hq_iast (lo := lo) C 0 rfl e72 (vp_in_nI hj (by decide)) hL (by omega) d_M_eightMore_49 (fun H73 locs u74 hL => ?_)
      rw [nI_clamp (show j < 2 ^ 31 by omega)] at u74
      have m75 := md_set (k := 5) (f := upd (A 5) j ((A 5 j) + 0)) m68 u74
      have k0 : va_at D vwCl (b, .inr (6, [.int (th), .int (nn), .ref (b + 1), .ref (b + 2), .ref (b + 3), .ref (b + 4), .ref (b + 5), .ref (b + 6), .ref (b + 7), .ref (b + 8), .ref (b + 9), .ref (b + 10), .ref (b + 11), .ref (b + 12), .ref (b + 13), .ref (b + 14), .ref (b + 15), .ref (b + 16), .ref (b + 17), .ref (b + 18), .ref (b + 19), .ref (b + 20), .ref (b + 21), .ref (b + 22), .ref (b + 23), .ref (b + 24), .ref (b + 25), .ref (b + 26), .ref (b + 27), .ref (b + 28), .ref (b + 29), .ref (b + 30)])) H73 := m75 0 (by decide)
      refine lv_aload_n C.1 C.2.1 d_M_eightMore_50 rfl (lv_at hl 0 rfl) ?_
      refine lv_iload_n C.1 C.2.1 d_M_eightMore_51 rfl (lv_at hl 1 rfl) ?_
      refine hq_callV (lo := lo) (As := [.int (nI j)]) (rest := []) C tb_good hml Y_M_126 (c_M_goesOff l D cI cZ cN cJ lo b hlo th nn (setA (setA A 4 (upd (A 4) j ((A 4 j) + 8))) 5 (upd (A 5) j ((A 5 j) + 0))) j hj) k0 rfl (fun _ _ _ _ h => h) (fun U hU hW => by show hq_B D vwCl b 31 (mdC cI cZ b th nn (setA (setA A 4 (upd (A 4) j ((A 4 j) + 8))) 5 (upd (A 5) j ((A 5 j) + 0)))) U.heap; rw [hU]; exact m75) hL hl.1 rfl rfl ⟨⟨Nat.le_of_ble_eq_true rfl, Nat.le_of_ble_eq_true rfl⟩, Nat.le_of_ble_eq_true rfl, Nat.le_of_ble_eq_true rfl⟩ (Nat.le_of_ble_eq_true rfl) d_M_eightMore_52 (fun v H78 locs hp hL => ?_)
      obtain ⟨rfl, m76, S77⟩ := hp
      refine W.eq (g2 := F0 m 55 ls [.int ((f_M_goesOff (setA (setA A 4 (upd (A 4) j ((A 4 j) + 8))) 5 (upd (A 5) j ((A 5 j) + 0))) j).2)]) rfl ?_
      have k0 : va_at D vwCl (b, .inr (6, [.int (th), .int (nn), .ref (b + 1), .ref (b + 2), .ref (b + 3), .ref (b + 4), .ref (b + 5), .ref (b + 6), .ref (b + 7), .ref (b + 8), .ref (b + 9), .ref (b + 10), .ref (b + 11), .ref (b + 12), .ref (b + 13), .ref (b + 14), .ref (b + 15), .ref (b + 16), .ref (b + 17), .ref (b + 18), .ref (b + 19), .ref (b + 20), .ref (b + 21), .ref (b + 22), .ref (b + 23), .ref (b + 24), .ref (b + 25), .ref (b + 26), .ref (b + 27), .ref (b + 28), .ref (b + 29), .ref (b + 30)])) H78 := m76 0 (by decide)
      have hf : f_M_eightMore A j = ((f_M_goesOff (setA (setA A 4 (upd (A 4) j ((A 4 j) + 8))) 5 (upd (A 5) j ((A 5 j) + 0))) j).1, (f_M_goesOff (setA (setA A 4 (upd (A 4) j ((A 4 j) + 8))) 5 (upd (A 5) j ((A 5 j) + 0))) j).2) := by unfold f_M_eightMore; rw [if_pos c43, if_neg c71]
      exact hq_zret C hret hlk (nar01 (goesOff01 _ _)) (Nat.le_of_ble_eq_true rfl) (Nat.le_of_ble_eq_true rfl) hL ⟨by rw [hf], by rw [hf]; exact m76, hq_Scall (hq_Sput (hq_Sput (hq_S0) u67 (by omega) (by omega)) u74 (by omega) (by omega)) S77 (by omega) (by omega)⟩ d_M_eightMore_55
    · intro c71
      refine lv_bipush (v := 8) C.1 C.2.1 d_M_eightMore_42 (by decide) ?_
      refine lv_goto (tgt := 48) C.1 C.2.1 d_M_eightMore_44 (by decide) ?_
      refine lv_iadd C.1 C.2.1 d_M_eightMore_48 ?_
      have e79 : va_at D vwCl (b + 6, .inl (cI, 4, .inl (A 5))) _ := m68 6 (by decide)
      refine hq_iast (lo := lo) C 0 rfl e79 (vp_in_nI hj (by decide)) hL (by omega) d_M_eightMore_49 (fun H80 locs u81 hL => ?_)
      rw [nI_clamp (show j < 2 ^ 31 by omega)] at u81
      have m82 := md_set (k := 5) (f := upd (A 5) j ((A 5 j) + 8)) m68 u81
      have k0 : va_at D vwCl (b, .inr (6, [.int (th), .int (nn), .ref (b + 1), .ref (b + 2), .ref (b + 3), .ref (b + 4), .ref (b + 5), .ref (b + 6), .ref (b + 7), .ref (b + 8), .ref (b + 9), .ref (b + 10), .ref (b + 11), .ref (b + 12), .ref (b + 13), .ref (b + 14), .ref (b + 15), .ref (b + 16), .ref (b + 17), .ref (b + 18), .ref (b + 19), .ref (b + 20), .ref (b + 21), .ref (b + 22), .ref (b + 23), .ref (b + 24), .ref (b + 25), .ref (b + 26), .ref (b + 27), .ref (b + 28), .ref (b + 29), .ref (b + 30)])) H80 := m82 0 (by decide)
      refine lv_aload_n C.1 C.2.1 d_M_eightMore_50 rfl (lv_at hl 0 rfl) ?_
      refine lv_iload_n C.1 C.2.1 d_M_eightMore_51 rfl (lv_at hl 1 rfl) ?_
      refine hq_callV (lo := lo) (As := [.int (nI j)]) (rest := []) C tb_good hml Y_M_126 (c_M_goesOff l D cI cZ cN cJ lo b hlo th nn (setA (setA A 4 (upd (A 4) j ((A 4 j) + 8))) 5 (upd (A 5) j ((A 5 j) + 8))) j hj) k0 rfl (fun _ _ _ _ h => h) (fun U hU hW => by show hq_B D vwCl b 31 (mdC cI cZ b th nn (setA (setA A 4 (upd (A 4) j ((A 4 j) + 8))) 5 (upd (A 5) j ((A 5 j) + 8)))) U.heap; rw [hU]; exact m82) hL hl.1 rfl rfl ⟨⟨Nat.le_of_ble_eq_true rfl, Nat.le_of_ble_eq_true rfl⟩, Nat.le_of_ble_eq_true rfl, Nat.le_of_ble_eq_true rfl⟩ (Nat.le_of_ble_eq_true rfl) d_M_eightMore_52 (fun v H85 locs hp hL => ?_)
      obtain ⟨rfl, m83, S84⟩ := hp
      refine W.eq (g2 := F0 m 55 ls [.int ((f_M_goesOff (setA (setA A 4 (upd (A 4) j ((A 4 j) + 8))) 5 (upd (A 5) j ((A 5 j) + 8))) j).2)]) rfl ?_
      have k0 : va_at D vwCl (b, .inr (6, [.int (th), .int (nn), .ref (b + 1), .ref (b + 2), .ref (b + 3), .ref (b + 4), .ref (b + 5), .ref (b + 6), .ref (b + 7), .ref (b + 8), .ref (b + 9), .ref (b + 10), .ref (b + 11), .ref (b + 12), .ref (b + 13), .ref (b + 14), .ref (b + 15), .ref (b + 16), .ref (b + 17), .ref (b + 18), .ref (b + 19), .ref (b + 20), .ref (b + 21), .ref (b + 22), .ref (b + 23), .ref (b + 24), .ref (b + 25), .ref (b + 26), .ref (b + 27), .ref (b + 28), .ref (b + 29), .ref (b + 30)])) H85 := m83 0 (by decide)
      have hf : f_M_eightMore A j = ((f_M_goesOff (setA (setA A 4 (upd (A 4) j ((A 4 j) + 8))) 5 (upd (A 5) j ((A 5 j) + 8))) j).1, (f_M_goesOff (setA (setA A 4 (upd (A 4) j ((A 4 j) + 8))) 5 (upd (A 5) j ((A 5 j) + 8))) j).2) := by unfold f_M_eightMore; rw [if_pos c43, if_pos c71]
      exact hq_zret C hret hlk (nar01 (goesOff01 _ _)) (Nat.le_of_ble_eq_true rfl) (Nat.le_of_ble_eq_true rfl) hL ⟨by rw [hf], by rw [hf]; exact m83, hq_Scall (hq_Sput (hq_Sput (hq_S0) u67 (by omega) (by omega)) u81 (by omega) (by omega)) S84 (by omega) (by omega)⟩ d_M_eightMore_55
def f_M_flagging (A : Nat → Nat → Int32) (j : Nat) (x : Int32) : Nat → Nat → Int32 := if (A 29 j) = 0 then (if x = 1 then (if ((f_M_eightMore A j).2) = 0 then (if ((((f_M_eightMore A j).1 26) j) + 1) = 6 then ((setA (setA (setA (setA (f_M_eightMore A j).1 26 (upd ((f_M_eightMore A j).1 26) j ((((f_M_eightMore A j).1 26) j) + 1))) 3 (upd ((f_M_eightMore A j).1 3) j 4)) 26 (upd (upd ((f_M_eightMore A j).1 26) j ((((f_M_eightMore A j).1 26) j) + 1)) j 0)) 27 (upd ((f_M_eightMore A j).1 27) j 0))) else ((setA (f_M_eightMore A j).1 26 (upd ((f_M_eightMore A j).1 26) j ((((f_M_eightMore A j).1 26) j) + 1))))) else ((f_M_eightMore A j).1)) else (if ((A 26 j) + 1) = 6 then ((setA (setA (setA (setA A 26 (upd (A 26) j ((A 26 j) + 1))) 3 (upd (A 3) j 4)) 26 (upd (upd (A 26) j ((A 26 j) + 1)) j 0)) 27 (upd (A 27) j 0))) else ((setA A 26 (upd (A 26) j ((A 26 j) + 1)))))) else (if ((A 26 j) + 1) = 6 then ((setA (setA (setA (setA A 26 (upd (A 26) j ((A 26 j) + 1))) 3 (upd (A 3) j 4)) 26 (upd (upd (A 26) j ((A 26 j) + 1)) j 0)) 27 (upd (A 27) j 0))) else ((setA A 26 (upd (A 26) j ((A 26 j) + 1)))))
set_option maxHeartbeats 4000000 in
set_option maxRecDepth 100000 in
theorem c_M_flagging (l : Launch) (D : va_G) (cI cZ cN cJ : ClassId) (lo : Nat) (b : Nat) (hlo : lo ≤ b) (th nn : Int32) (A : Nat → Nat → Int32) (j : Nat) (hj : j < 4) (x : Int32) : hq_M l y_M_flagging b_M_flagging 3 none TB { frames := 2, cells := 0, slots := 0, locals := 42 } lo D vwCl (TY cI cZ cN cJ) [.ref (b), .int (nI j), .int (x)] (fun U => hq_B D vwCl b 31 (mdC cI cZ b th nn A) U.heap) (fun H v H' => v = none ∧ hq_B D vwCl b 31 (mdC cI cZ b th nn (f_M_flagging A j x)) H' ∧ hq_S b 31 H H') := by
  refine hq_ofW (by decide) (Nat.le_of_ble_eq_true rfl) ?_
  intro p e s m below meth c ls C hml hret hlk hnm hl hP
  have hL : hq_L lo [] := hq_L0
  have hl : lv_has ls 3 [(0, .ref (b)), (1, .int (nI j)), (2, .int (x))] := hl
  have hM : hq_B D vwCl b 31 (mdC cI cZ b th nn A) s.heap := hP
  have k0 : va_at D vwCl (b, .inr (6, [.int (th), .int (nn), .ref (b + 1), .ref (b + 2), .ref (b + 3), .ref (b + 4), .ref (b + 5), .ref (b + 6), .ref (b + 7), .ref (b + 8), .ref (b + 9), .ref (b + 10), .ref (b + 11), .ref (b + 12), .ref (b + 13), .ref (b + 14), .ref (b + 15), .ref (b + 16), .ref (b + 17), .ref (b + 18), .ref (b + 19), .ref (b + 20), .ref (b + 21), .ref (b + 22), .ref (b + 23), .ref (b + 24), .ref (b + 25), .ref (b + 26), .ref (b + 27), .ref (b + 28), .ref (b + 29), .ref (b + 30)])) s.heap := hM 0 (by decide)
  refine lv_aload_n C.1 C.2.1 d_M_flagging_0 rfl (lv_at hl 0 rfl) ?_
  refine hq_get (v := .ref (b + 30)) C f_M_98 k0 rfl d_M_flagging_1 ?_
  refine lv_iload_n C.1 C.2.1 d_M_flagging_4 rfl (lv_at hl 1 rfl) ?_
  have e41 : va_at D vwCl (b + 30, .inl (cI, 4, .inl (A 29))) _ := hM 30 (by decide)
  refine hq_iald C 0 rfl e41 (vp_in_nI hj (by decide)) d_M_flagging_5 ?_
  rw [nI_clamp (show j < 2 ^ 31 by omega)]
  refine W.eq (g2 := F0 m 6 ls [.int (A 29 j)]) rfl ?_
  refine lv_if_ne (tgt := 23) C.1 C.2.1 d_M_flagging_6 (by decide) ?_ ?_
  · intro c42
    refine lv_aload_n C.1 C.2.1 d_M_flagging_23 rfl (lv_at hl 0 rfl) ?_
    refine hq_get (v := .ref (b + 27)) C f_M_89 k0 rfl d_M_flagging_24 ?_
    refine lv_iload_n C.1 C.2.1 d_M_flagging_27 rfl (lv_at hl 1 rfl) ?_
    refine lv_dup2_11 C.1 C.2.1 d_M_flagging_28 rfl rfl ?_
    have e43 : va_at D vwCl (b + 27, .inl (cI, 4, .inl (A 26))) _ := hM 27 (by decide)
    refine hq_iald C 0 rfl e43 (vp_in_nI hj (by decide)) d_M_flagging_29 ?_
    rw [nI_clamp (show j < 2 ^ 31 by omega)]
    refine W.eq (g2 := F0 m 30 ls [.int (A 26 j), .int (nI j), .ref (b + 27)]) rfl ?_
    refine lv_iconst (v := 1) C.1 C.2.1 d_M_flagging_30 (by decide) ?_
    refine lv_iadd C.1 C.2.1 d_M_flagging_31 ?_
    have e44 : va_at D vwCl (b + 27, .inl (cI, 4, .inl (A 26))) _ := hM 27 (by decide)
    refine hq_iast (lo := lo) C 0 rfl e44 (vp_in_nI hj (by decide)) hL (by omega) d_M_flagging_32 (fun H45 locs u46 hL => ?_)
    rw [nI_clamp (show j < 2 ^ 31 by omega)] at u46
    have m47 := md_set (k := 26) (f := upd (A 26) j ((A 26 j) + 1)) hM u46
    have k0 : va_at D vwCl (b, .inr (6, [.int (th), .int (nn), .ref (b + 1), .ref (b + 2), .ref (b + 3), .ref (b + 4), .ref (b + 5), .ref (b + 6), .ref (b + 7), .ref (b + 8), .ref (b + 9), .ref (b + 10), .ref (b + 11), .ref (b + 12), .ref (b + 13), .ref (b + 14), .ref (b + 15), .ref (b + 16), .ref (b + 17), .ref (b + 18), .ref (b + 19), .ref (b + 20), .ref (b + 21), .ref (b + 22), .ref (b + 23), .ref (b + 24), .ref (b + 25), .ref (b + 26), .ref (b + 27), .ref (b + 28), .ref (b + 29), .ref (b + 30)])) H45 := m47 0 (by decide)
    refine lv_aload_n C.1 C.2.1 d_M_flagging_33 rfl (lv_at hl 0 rfl) ?_
    refine hq_get (v := .ref (b + 27)) C f_M_89 k0 rfl d_M_flagging_34 ?_
    refine lv_iload_n C.1 C.2.1 d_M_flagging_37 rfl (lv_at hl 1 rfl) ?_
    have e48 : va_at D vwCl (b + 27, .inl (cI, 4, .inl (upd (A 26) j ((A 26 j) + 1)))) _ := m47 27 (by decide)
    refine hq_iald C 0 rfl e48 (vp_in_nI hj (by decide)) d_M_flagging_38 ?_
    rw [nI_clamp (show j < 2 ^ 31 by omega)]
    rw [show (upd (A 26) j ((A 26 j) + 1)) j = (A 26 j) + 1 from pk_us]
    refine W.eq (g2 := F0 m 39 ls [.int ((A 26 j) + 1)]) rfl ?_
    refine lv_bipush (v := 6) C.1 C.2.1 d_M_flagging_39 (by decide) ?_
    refine lv_icmp_ne (tgt := 65) C.1 C.2.1 d_M_flagging_41 (by decide) ?_ ?_
    · intro c49
      have hf : f_M_flagging A j x = (setA A 26 (upd (A 26) j ((A 26 j) + 1))) := by unfold f_M_flagging; rw [if_neg c42, if_neg c49]
      exact hq_vret C hret hlk (Nat.le_of_ble_eq_true rfl) (Nat.le_of_ble_eq_true rfl) hL ⟨rfl, by rw [hf]; exact m47, hq_Sput (hq_S0) u46 (by omega) (by omega)⟩ d_M_flagging_65
    · intro c49
      refine lv_aload_n C.1 C.2.1 d_M_flagging_44 rfl (lv_at hl 0 rfl) ?_
      refine hq_get (v := .ref (b + 4)) C f_M_20 k0 rfl d_M_flagging_45 ?_
      refine lv_iload_n C.1 C.2.1 d_M_flagging_48 rfl (lv_at hl 1 rfl) ?_
      refine lv_iconst (v := 4) C.1 C.2.1 d_M_flagging_49 (by decide) ?_
      have e50 : va_at D vwCl (b + 4, .inl (cI, 4, .inl (A 3))) _ := m47 4 (by decide)
      refine hq_iast (lo := lo) C 0 rfl e50 (vp_in_nI hj (by decide)) hL (by omega) d_M_flagging_50 (fun H51 locs u52 hL => ?_)
      rw [nI_clamp (show j < 2 ^ 31 by omega)] at u52
      have m53 := md_set (k := 3) (f := upd (A 3) j 4) m47 u52
      have k0 : va_at D vwCl (b, .inr (6, [.int (th), .int (nn), .ref (b + 1), .ref (b + 2), .ref (b + 3), .ref (b + 4), .ref (b + 5), .ref (b + 6), .ref (b + 7), .ref (b + 8), .ref (b + 9), .ref (b + 10), .ref (b + 11), .ref (b + 12), .ref (b + 13), .ref (b + 14), .ref (b + 15), .ref (b + 16), .ref (b + 17), .ref (b + 18), .ref (b + 19), .ref (b + 20), .ref (b + 21), .ref (b + 22), .ref (b + 23), .ref (b + 24), .ref (b + 25), .ref (b + 26), .ref (b + 27), .ref (b + 28), .ref (b + 29), .ref (b + 30)])) H51 := m53 0 (by decide)
      refine lv_aload_n C.1 C.2.1 d_M_flagging_51 rfl (lv_at hl 0 rfl) ?_
      refine hq_get (v := .ref (b + 27)) C f_M_89 k0 rfl d_M_flagging_52 ?_
      refine lv_iload_n C.1 C.2.1 d_M_flagging_55 rfl (lv_at hl 1 rfl) ?_
      refine lv_iconst (v := 0) C.1 C.2.1 d_M_flagging_56 (by decide) ?_
      have e54 : va_at D vwCl (b + 27, .inl (cI, 4, .inl (upd (A 26) j ((A 26 j) + 1)))) _ := m53 27 (by decide)
      refine hq_iast (lo := lo) C 0 rfl e54 (vp_in_nI hj (by decide)) hL (by omega) d_M_flagging_57 (fun H55 locs u56 hL => ?_)
      rw [nI_clamp (show j < 2 ^ 31 by omega)] at u56
      have m57 := md_set (k := 26) (f := upd (upd (A 26) j ((A 26 j) + 1)) j 0) m53 u56
      have k0 : va_at D vwCl (b, .inr (6, [.int (th), .int (nn), .ref (b + 1), .ref (b + 2), .ref (b + 3), .ref (b + 4), .ref (b + 5), .ref (b + 6), .ref (b + 7), .ref (b + 8), .ref (b + 9), .ref (b + 10), .ref (b + 11), .ref (b + 12), .ref (b + 13), .ref (b + 14), .ref (b + 15), .ref (b + 16), .ref (b + 17), .ref (b + 18), .ref (b + 19), .ref (b + 20), .ref (b + 21), .ref (b + 22), .ref (b + 23), .ref (b + 24), .ref (b + 25), .ref (b + 26), .ref (b + 27), .ref (b + 28), .ref (b + 29), .ref (b + 30)])) H55 := m57 0 (by decide)
      refine lv_aload_n C.1 C.2.1 d_M_flagging_58 rfl (lv_at hl 0 rfl) ?_
      refine hq_get (v := .ref (b + 28)) C f_M_92 k0 rfl d_M_flagging_59 ?_
      refine lv_iload_n C.1 C.2.1 d_M_flagging_62 rfl (lv_at hl 1 rfl) ?_
      refine lv_iconst (v := 0) C.1 C.2.1 d_M_flagging_63 (by decide) ?_
      have e58 : va_at D vwCl (b + 28, .inl (cI, 4, .inl (A 27))) _ := m57 28 (by decide)
      refine hq_iast (lo := lo) C 0 rfl e58 (vp_in_nI hj (by decide)) hL (by omega) d_M_flagging_64 (fun H59 locs u60 hL => ?_)
      rw [nI_clamp (show j < 2 ^ 31 by omega)] at u60
      have m61 := md_set (k := 27) (f := upd (A 27) j 0) m57 u60
      have k0 : va_at D vwCl (b, .inr (6, [.int (th), .int (nn), .ref (b + 1), .ref (b + 2), .ref (b + 3), .ref (b + 4), .ref (b + 5), .ref (b + 6), .ref (b + 7), .ref (b + 8), .ref (b + 9), .ref (b + 10), .ref (b + 11), .ref (b + 12), .ref (b + 13), .ref (b + 14), .ref (b + 15), .ref (b + 16), .ref (b + 17), .ref (b + 18), .ref (b + 19), .ref (b + 20), .ref (b + 21), .ref (b + 22), .ref (b + 23), .ref (b + 24), .ref (b + 25), .ref (b + 26), .ref (b + 27), .ref (b + 28), .ref (b + 29), .ref (b + 30)])) H59 := m61 0 (by decide)
      have hf : f_M_flagging A j x = (setA (setA (setA (setA A 26 (upd (A 26) j ((A 26 j) + 1))) 3 (upd (A 3) j 4)) 26 (upd (upd (A 26) j ((A 26 j) + 1)) j 0)) 27 (upd (A 27) j 0)) := by unfold f_M_flagging; rw [if_neg c42, if_pos c49]
      exact hq_vret C hret hlk (Nat.le_of_ble_eq_true rfl) (Nat.le_of_ble_eq_true rfl) hL ⟨rfl, by rw [hf]; exact m61, hq_Sput (hq_Sput (hq_Sput (hq_Sput (hq_S0) u46 (by omega) (by omega)) u52 (by omega) (by omega)) u56 (by omega) (by omega)) u60 (by omega) (by omega)⟩ d_M_flagging_65
  · intro c42
    refine lv_iload_n C.1 C.2.1 d_M_flagging_9 rfl (lv_at hl 2 rfl) ?_
    refine lv_iconst (v := 1) C.1 C.2.1 d_M_flagging_10 (by decide) ?_
    refine lv_icmp_ne (tgt := 23) C.1 C.2.1 d_M_flagging_11 (by decide) ?_ ?_
    · intro c62
      refine lv_aload_n C.1 C.2.1 d_M_flagging_23 rfl (lv_at hl 0 rfl) ?_
      refine hq_get (v := .ref (b + 27)) C f_M_89 k0 rfl d_M_flagging_24 ?_
      refine lv_iload_n C.1 C.2.1 d_M_flagging_27 rfl (lv_at hl 1 rfl) ?_
      refine lv_dup2_11 C.1 C.2.1 d_M_flagging_28 rfl rfl ?_
      have e63 : va_at D vwCl (b + 27, .inl (cI, 4, .inl (A 26))) _ := hM 27 (by decide)
      refine hq_iald C 0 rfl e63 (vp_in_nI hj (by decide)) d_M_flagging_29 ?_
      rw [nI_clamp (show j < 2 ^ 31 by omega)]
      refine W.eq (g2 := F0 m 30 ls [.int (A 26 j), .int (nI j), .ref (b + 27)]) rfl ?_
      refine lv_iconst (v := 1) C.1 C.2.1 d_M_flagging_30 (by decide) ?_
      refine lv_iadd C.1 C.2.1 d_M_flagging_31 ?_
      have e64 : va_at D vwCl (b + 27, .inl (cI, 4, .inl (A 26))) _ := hM 27 (by decide)
      refine hq_iast (lo := lo) C 0 rfl e64 (vp_in_nI hj (by decide)) hL (by omega) d_M_flagging_32 (fun H65 locs u66 hL => ?_)
      rw [nI_clamp (show j < 2 ^ 31 by omega)] at u66
      have m67 := md_set (k := 26) (f := upd (A 26) j ((A 26 j) + 1)) hM u66
      have k0 : va_at D vwCl (b, .inr (6, [.int (th), .int (nn), .ref (b + 1), .ref (b + 2), .ref (b + 3), .ref (b + 4), .ref (b + 5), .ref (b + 6), .ref (b + 7), .ref (b + 8), .ref (b + 9), .ref (b + 10), .ref (b + 11), .ref (b + 12), .ref (b + 13), .ref (b + 14), .ref (b + 15), .ref (b + 16), .ref (b + 17), .ref (b + 18), .ref (b + 19), .ref (b + 20), .ref (b + 21), .ref (b + 22), .ref (b + 23), .ref (b + 24), .ref (b + 25), .ref (b + 26), .ref (b + 27), .ref (b + 28), .ref (b + 29), .ref (b + 30)])) H65 := m67 0 (by decide)
      refine lv_aload_n C.1 C.2.1 d_M_flagging_33 rfl (lv_at hl 0 rfl) ?_
      refine hq_get (v := .ref (b + 27)) C f_M_89 k0 rfl d_M_flagging_34 ?_
      refine lv_iload_n C.1 C.2.1 d_M_flagging_37 rfl (lv_at hl 1 rfl) ?_
      have e68 : va_at D vwCl (b + 27, .inl (cI, 4, .inl (upd (A 26) j ((A 26 j) + 1)))) _ := m67 27 (by decide)
      refine hq_iald C 0 rfl e68 (vp_in_nI hj (by decide)) d_M_flagging_38 ?_
      rw [nI_clamp (show j < 2 ^ 31 by omega)]
      rw [show (upd (A 26) j ((A 26 j) + 1)) j = (A 26 j) + 1 from pk_us]
      refine W.eq (g2 := F0 m 39 ls [.int ((A 26 j) + 1)]) rfl ?_
      refine lv_bipush (v := 6) C.1 C.2.1 d_M_flagging_39 (by decide) ?_
      refine lv_icmp_ne (tgt := 65) C.1 C.2.1 d_M_flagging_41 (by decide) ?_ ?_
      · intro c69
        have hf : f_M_flagging A j x = (setA A 26 (upd (A 26) j ((A 26 j) + 1))) := by unfold f_M_flagging; rw [if_pos c42, if_neg c62, if_neg c69]
        exact hq_vret C hret hlk (Nat.le_of_ble_eq_true rfl) (Nat.le_of_ble_eq_true rfl) hL ⟨rfl, by rw [hf]; exact m67, hq_Sput (hq_S0) u66 (by omega) (by omega)⟩ d_M_flagging_65
      · intro c69
        refine lv_aload_n C.1 C.2.1 d_M_flagging_44 rfl (lv_at hl 0 rfl) ?_
        refine hq_get (v := .ref (b + 4)) C f_M_20 k0 rfl d_M_flagging_45 ?_
        refine lv_iload_n C.1 C.2.1 d_M_flagging_48 rfl (lv_at hl 1 rfl) ?_
        refine lv_iconst (v := 4) C.1 C.2.1 d_M_flagging_49 (by decide) ?_
        have e70 : va_at D vwCl (b + 4, .inl (cI, 4, .inl (A 3))) _ := m67 4 (by decide)
        refine hq_iast (lo := lo) C 0 rfl e70 (vp_in_nI hj (by decide)) hL (by omega) d_M_flagging_50 (fun H71 locs u72 hL => ?_)
        rw [nI_clamp (show j < 2 ^ 31 by omega)] at u72
        have m73 := md_set (k := 3) (f := upd (A 3) j 4) m67 u72
        have k0 : va_at D vwCl (b, .inr (6, [.int (th), .int (nn), .ref (b + 1), .ref (b + 2), .ref (b + 3), .ref (b + 4), .ref (b + 5), .ref (b + 6), .ref (b + 7), .ref (b + 8), .ref (b + 9), .ref (b + 10), .ref (b + 11), .ref (b + 12), .ref (b + 13), .ref (b + 14), .ref (b + 15), .ref (b + 16), .ref (b + 17), .ref (b + 18), .ref (b + 19), .ref (b + 20), .ref (b + 21), .ref (b + 22), .ref (b + 23), .ref (b + 24), .ref (b + 25), .ref (b + 26), .ref (b + 27), .ref (b + 28), .ref (b + 29), .ref (b + 30)])) H71 := m73 0 (by decide)
        refine lv_aload_n C.1 C.2.1 d_M_flagging_51 rfl (lv_at hl 0 rfl) ?_
        refine hq_get (v := .ref (b + 27)) C f_M_89 k0 rfl d_M_flagging_52 ?_
        refine lv_iload_n C.1 C.2.1 d_M_flagging_55 rfl (lv_at hl 1 rfl) ?_
        refine lv_iconst (v := 0) C.1 C.2.1 d_M_flagging_56 (by decide) ?_
        have e74 : va_at D vwCl (b + 27, .inl (cI, 4, .inl (upd (A 26) j ((A 26 j) + 1)))) _ := m73 27 (by decide)
        refine hq_iast (lo := lo) C 0 rfl e74 (vp_in_nI hj (by decide)) hL (by omega) d_M_flagging_57 (fun H75 locs u76 hL => ?_)
        rw [nI_clamp (show j < 2 ^ 31 by omega)] at u76
        have m77 := md_set (k := 26) (f := upd (upd (A 26) j ((A 26 j) + 1)) j 0) m73 u76
        have k0 : va_at D vwCl (b, .inr (6, [.int (th), .int (nn), .ref (b + 1), .ref (b + 2), .ref (b + 3), .ref (b + 4), .ref (b + 5), .ref (b + 6), .ref (b + 7), .ref (b + 8), .ref (b + 9), .ref (b + 10), .ref (b + 11), .ref (b + 12), .ref (b + 13), .ref (b + 14), .ref (b + 15), .ref (b + 16), .ref (b + 17), .ref (b + 18), .ref (b + 19), .ref (b + 20), .ref (b + 21), .ref (b + 22), .ref (b + 23), .ref (b + 24), .ref (b + 25), .ref (b + 26), .ref (b + 27), .ref (b + 28), .ref (b + 29), .ref (b + 30)])) H75 := m77 0 (by decide)
        refine lv_aload_n C.1 C.2.1 d_M_flagging_58 rfl (lv_at hl 0 rfl) ?_
        refine hq_get (v := .ref (b + 28)) C f_M_92 k0 rfl d_M_flagging_59 ?_
        refine lv_iload_n C.1 C.2.1 d_M_flagging_62 rfl (lv_at hl 1 rfl) ?_
        refine lv_iconst (v := 0) C.1 C.2.1 d_M_flagging_63 (by decide) ?_
        have e78 : va_at D vwCl (b + 28, .inl (cI, 4, .inl (A 27))) _ := m77 28 (by decide)
        refine hq_iast (lo := lo) C 0 rfl e78 (vp_in_nI hj (by decide)) hL (by omega) d_M_flagging_64 (fun H79 locs u80 hL => ?_)
        rw [nI_clamp (show j < 2 ^ 31 by omega)] at u80
        have m81 := md_set (k := 27) (f := upd (A 27) j 0) m77 u80
        have k0 : va_at D vwCl (b, .inr (6, [.int (th), .int (nn), .ref (b + 1), .ref (b + 2), .ref (b + 3), .ref (b + 4), .ref (b + 5), .ref (b + 6), .ref (b + 7), .ref (b + 8), .ref (b + 9), .ref (b + 10), .ref (b + 11), .ref (b + 12), .ref (b + 13), .ref (b + 14), .ref (b + 15), .ref (b + 16), .ref (b + 17), .ref (b + 18), .ref (b + 19), .ref (b + 20), .ref (b + 21), .ref (b + 22), .ref (b + 23), .ref (b + 24), .ref (b + 25), .ref (b + 26), .ref (b + 27), .ref (b + 28), .ref (b + 29), .ref (b + 30)])) H79 := m81 0 (by decide)
        have hf : f_M_flagging A j x = (setA (setA (setA (setA A 26 (upd (A 26) j ((A 26 j) + 1))) 3 (upd (A 3) j 4)) 26 (upd (upd (A 26) j ((A 26 j) + 1)) j 0)) 27 (upd (A 27) j 0)) := by unfold f_M_flagging; rw [if_pos c42, if_neg c62, if_pos c69]
        exact hq_vret C hret hlk (Nat.le_of_ble_eq_true rfl) (Nat.le_of_ble_eq_true rfl) hL ⟨rfl, by rw [hf]; exact m81, hq_Sput (hq_Sput (hq_Sput (hq_Sput (hq_S0) u66 (by omega) (by omega)) u72 (by omega) (by omega)) u76 (by omega) (by omega)) u80 (by omega) (by omega)⟩ d_M_flagging_65
    · intro c62
      refine lv_aload_n C.1 C.2.1 d_M_flagging_14 rfl (lv_at hl 0 rfl) ?_
      refine lv_iload_n C.1 C.2.1 d_M_flagging_15 rfl (lv_at hl 1 rfl) ?_
      refine hq_callV (lo := lo) (As := [.int (nI j)]) (rest := []) C tb_good hml Y_M_157 (c_M_eightMore l D cI cZ cN cJ lo b hlo th nn A j hj) k0 rfl (fun _ _ _ _ h => h) (fun U hU hW => by show hq_B D vwCl b 31 (mdC cI cZ b th nn A) U.heap; rw [hU]; exact hM) hL hl.1 rfl rfl ⟨⟨Nat.le_of_ble_eq_true rfl, Nat.le_of_ble_eq_true rfl⟩, Nat.le_of_ble_eq_true rfl, Nat.le_of_ble_eq_true rfl⟩ (Nat.le_of_ble_eq_true rfl) d_M_flagging_16 (fun v H84 locs hp hL => ?_)
      obtain ⟨rfl, m82, S83⟩ := hp
      refine W.eq (g2 := F0 m 19 ls [.int ((f_M_eightMore A j).2)]) rfl ?_
      have k0 : va_at D vwCl (b, .inr (6, [.int (th), .int (nn), .ref (b + 1), .ref (b + 2), .ref (b + 3), .ref (b + 4), .ref (b + 5), .ref (b + 6), .ref (b + 7), .ref (b + 8), .ref (b + 9), .ref (b + 10), .ref (b + 11), .ref (b + 12), .ref (b + 13), .ref (b + 14), .ref (b + 15), .ref (b + 16), .ref (b + 17), .ref (b + 18), .ref (b + 19), .ref (b + 20), .ref (b + 21), .ref (b + 22), .ref (b + 23), .ref (b + 24), .ref (b + 25), .ref (b + 26), .ref (b + 27), .ref (b + 28), .ref (b + 29), .ref (b + 30)])) H84 := m82 0 (by decide)
      refine lv_if_eq (tgt := 23) C.1 C.2.1 d_M_flagging_19 (by decide) ?_ ?_
      · intro c85
        refine lv_aload_n C.1 C.2.1 d_M_flagging_23 rfl (lv_at hl 0 rfl) ?_
        refine hq_get (v := .ref (b + 27)) C f_M_89 k0 rfl d_M_flagging_24 ?_
        refine lv_iload_n C.1 C.2.1 d_M_flagging_27 rfl (lv_at hl 1 rfl) ?_
        refine lv_dup2_11 C.1 C.2.1 d_M_flagging_28 rfl rfl ?_
        have e86 : va_at D vwCl (b + 27, .inl (cI, 4, .inl ((f_M_eightMore A j).1 26))) _ := m82 27 (by decide)
        refine hq_iald C 0 rfl e86 (vp_in_nI hj (by decide)) d_M_flagging_29 ?_
        rw [nI_clamp (show j < 2 ^ 31 by omega)]
        refine W.eq (g2 := F0 m 30 ls [.int (((f_M_eightMore A j).1 26) j), .int (nI j), .ref (b + 27)]) rfl ?_
        refine lv_iconst (v := 1) C.1 C.2.1 d_M_flagging_30 (by decide) ?_
        refine lv_iadd C.1 C.2.1 d_M_flagging_31 ?_
        have e87 : va_at D vwCl (b + 27, .inl (cI, 4, .inl ((f_M_eightMore A j).1 26))) _ := m82 27 (by decide)
        refine hq_iast (lo := lo) C 0 rfl e87 (vp_in_nI hj (by decide)) hL (by omega) d_M_flagging_32 (fun H88 locs u89 hL => ?_)
        rw [nI_clamp (show j < 2 ^ 31 by omega)] at u89
        have m90 := md_set (k := 26) (f := upd ((f_M_eightMore A j).1 26) j ((((f_M_eightMore A j).1 26) j) + 1)) m82 u89
        have k0 : va_at D vwCl (b, .inr (6, [.int (th), .int (nn), .ref (b + 1), .ref (b + 2), .ref (b + 3), .ref (b + 4), .ref (b + 5), .ref (b + 6), .ref (b + 7), .ref (b + 8), .ref (b + 9), .ref (b + 10), .ref (b + 11), .ref (b + 12), .ref (b + 13), .ref (b + 14), .ref (b + 15), .ref (b + 16), .ref (b + 17), .ref (b + 18), .ref (b + 19), .ref (b + 20), .ref (b + 21), .ref (b + 22), .ref (b + 23), .ref (b + 24), .ref (b + 25), .ref (b + 26), .ref (b + 27), .ref (b + 28), .ref (b + 29), .ref (b + 30)])) H88 := m90 0 (by decide)
        refine lv_aload_n C.1 C.2.1 d_M_flagging_33 rfl (lv_at hl 0 rfl) ?_
        refine hq_get (v := .ref (b + 27)) C f_M_89 k0 rfl d_M_flagging_34 ?_
        refine lv_iload_n C.1 C.2.1 d_M_flagging_37 rfl (lv_at hl 1 rfl) ?_
        have e91 : va_at D vwCl (b + 27, .inl (cI, 4, .inl (upd ((f_M_eightMore A j).1 26) j ((((f_M_eightMore A j).1 26) j) + 1)))) _ := m90 27 (by decide)
        refine hq_iald C 0 rfl e91 (vp_in_nI hj (by decide)) d_M_flagging_38 ?_
        rw [nI_clamp (show j < 2 ^ 31 by omega)]
        rw [show (upd ((f_M_eightMore A j).1 26) j ((((f_M_eightMore A j).1 26) j) + 1)) j = (((f_M_eightMore A j).1 26) j) + 1 from pk_us]
        refine W.eq (g2 := F0 m 39 ls [.int ((((f_M_eightMore A j).1 26) j) + 1)]) rfl ?_
        refine lv_bipush (v := 6) C.1 C.2.1 d_M_flagging_39 (by decide) ?_
        refine lv_icmp_ne (tgt := 65) C.1 C.2.1 d_M_flagging_41 (by decide) ?_ ?_
        · intro c92
          have hf : f_M_flagging A j x = (setA (f_M_eightMore A j).1 26 (upd ((f_M_eightMore A j).1 26) j ((((f_M_eightMore A j).1 26) j) + 1))) := by unfold f_M_flagging; rw [if_pos c42, if_pos c62, if_pos c85, if_neg c92]
          exact hq_vret C hret hlk (Nat.le_of_ble_eq_true rfl) (Nat.le_of_ble_eq_true rfl) hL ⟨rfl, by rw [hf]; exact m90, hq_Sput (hq_Scall (hq_S0) S83 (by omega) (by omega)) u89 (by omega) (by omega)⟩ d_M_flagging_65
        · intro c92
          refine lv_aload_n C.1 C.2.1 d_M_flagging_44 rfl (lv_at hl 0 rfl) ?_
          refine hq_get (v := .ref (b + 4)) C f_M_20 k0 rfl d_M_flagging_45 ?_
          refine lv_iload_n C.1 C.2.1 d_M_flagging_48 rfl (lv_at hl 1 rfl) ?_
          refine lv_iconst (v := 4) C.1 C.2.1 d_M_flagging_49 (by decide) ?_
          have e93 : va_at D vwCl (b + 4, .inl (cI, 4, .inl ((f_M_eightMore A j).1 3))) _ := m90 4 (by decide)
          refine hq_iast (lo := lo) C 0 rfl e93 (vp_in_nI hj (by decide)) hL (by omega) d_M_flagging_50 (fun H94 locs u95 hL => ?_)
          rw [nI_clamp (show j < 2 ^ 31 by omega)] at u95
          have m96 := md_set (k := 3) (f := upd ((f_M_eightMore A j).1 3) j 4) m90 u95
          have k0 : va_at D vwCl (b, .inr (6, [.int (th), .int (nn), .ref (b + 1), .ref (b + 2), .ref (b + 3), .ref (b + 4), .ref (b + 5), .ref (b + 6), .ref (b + 7), .ref (b + 8), .ref (b + 9), .ref (b + 10), .ref (b + 11), .ref (b + 12), .ref (b + 13), .ref (b + 14), .ref (b + 15), .ref (b + 16), .ref (b + 17), .ref (b + 18), .ref (b + 19), .ref (b + 20), .ref (b + 21), .ref (b + 22), .ref (b + 23), .ref (b + 24), .ref (b + 25), .ref (b + 26), .ref (b + 27), .ref (b + 28), .ref (b + 29), .ref (b + 30)])) H94 := m96 0 (by decide)
          refine lv_aload_n C.1 C.2.1 d_M_flagging_51 rfl (lv_at hl 0 rfl) ?_
          refine hq_get (v := .ref (b + 27)) C f_M_89 k0 rfl d_M_flagging_52 ?_
          refine lv_iload_n C.1 C.2.1 d_M_flagging_55 rfl (lv_at hl 1 rfl) ?_
          refine lv_iconst (v := 0) C.1 C.2.1 d_M_flagging_56 (by decide) ?_
          have e97 : va_at D vwCl (b + 27, .inl (cI, 4, .inl (upd ((f_M_eightMore A j).1 26) j ((((f_M_eightMore A j).1 26) j) + 1)))) _ := m96 27 (by decide)
          refine hq_iast (lo := lo) C 0 rfl e97 (vp_in_nI hj (by decide)) hL (by omega) d_M_flagging_57 (fun H98 locs u99 hL => ?_)
          rw [nI_clamp (show j < 2 ^ 31 by omega)] at u99
          have m100 := md_set (k := 26) (f := upd (upd ((f_M_eightMore A j).1 26) j ((((f_M_eightMore A j).1 26) j) + 1)) j 0) m96 u99
          have k0 : va_at D vwCl (b, .inr (6, [.int (th), .int (nn), .ref (b + 1), .ref (b + 2), .ref (b + 3), .ref (b + 4), .ref (b + 5), .ref (b + 6), .ref (b + 7), .ref (b + 8), .ref (b + 9), .ref (b + 10), .ref (b + 11), .ref (b + 12), .ref (b + 13), .ref (b + 14), .ref (b + 15), .ref (b + 16), .ref (b + 17), .ref (b + 18), .ref (b + 19), .ref (b + 20), .ref (b + 21), .ref (b + 22), .ref (b + 23), .ref (b + 24), .ref (b + 25), .ref (b + 26), .ref (b + 27), .ref (b + 28), .ref (b + 29), .ref (b + 30)])) H98 := m100 0 (by decide)
          refine lv_aload_n C.1 C.2.1 d_M_flagging_58 rfl (lv_at hl 0 rfl) ?_
          refine hq_get (v := .ref (b + 28)) C f_M_92 k0 rfl d_M_flagging_59 ?_
          refine lv_iload_n C.1 C.2.1 d_M_flagging_62 rfl (lv_at hl 1 rfl) ?_
          refine lv_iconst (v := 0) C.1 C.2.1 d_M_flagging_63 (by decide) ?_
          have e101 : va_at D vwCl (b + 28, .inl (cI, 4, .inl ((f_M_eightMore A j).1 27))) _ := m100 28 (by decide)
          refine hq_iast (lo := lo) C 0 rfl e101 (vp_in_nI hj (by decide)) hL (by omega) d_M_flagging_64 (fun H102 locs u103 hL => ?_)
          rw [nI_clamp (show j < 2 ^ 31 by omega)] at u103
          have m104 := md_set (k := 27) (f := upd ((f_M_eightMore A j).1 27) j 0) m100 u103
          have k0 : va_at D vwCl (b, .inr (6, [.int (th), .int (nn), .ref (b + 1), .ref (b + 2), .ref (b + 3), .ref (b + 4), .ref (b + 5), .ref (b + 6), .ref (b + 7), .ref (b + 8), .ref (b + 9), .ref (b + 10), .ref (b + 11), .ref (b + 12), .ref (b + 13), .ref (b + 14), .ref (b + 15), .ref (b + 16), .ref (b + 17), .ref (b + 18), .ref (b + 19), .ref (b + 20), .ref (b + 21), .ref (b + 22), .ref (b + 23), .ref (b + 24), .ref (b + 25), .ref (b + 26), .ref (b + 27), .ref (b + 28), .ref (b + 29), .ref (b + 30)])) H102 := m104 0 (by decide)
          have hf : f_M_flagging A j x = (setA (setA (setA (setA (f_M_eightMore A j).1 26 (upd ((f_M_eightMore A j).1 26) j ((((f_M_eightMore A j).1 26) j) + 1))) 3 (upd ((f_M_eightMore A j).1 3) j 4)) 26 (upd (upd ((f_M_eightMore A j).1 26) j ((((f_M_eightMore A j).1 26) j) + 1)) j 0)) 27 (upd ((f_M_eightMore A j).1 27) j 0)) := by unfold f_M_flagging; rw [if_pos c42, if_pos c62, if_pos c85, if_pos c92]
          exact hq_vret C hret hlk (Nat.le_of_ble_eq_true rfl) (Nat.le_of_ble_eq_true rfl) hL ⟨rfl, by rw [hf]; exact m104, hq_Sput (hq_Sput (hq_Sput (hq_Sput (hq_Scall (hq_S0) S83 (by omega) (by omega)) u89 (by omega) (by omega)) u95 (by omega) (by omega)) u99 (by omega) (by omega)) u103 (by omega) (by omega)⟩ d_M_flagging_65
      · intro c85
        have hf : f_M_flagging A j x = (f_M_eightMore A j).1 := by unfold f_M_flagging; rw [if_pos c42, if_pos c62, if_neg c85]
        exact hq_vret C hret hlk (Nat.le_of_ble_eq_true rfl) (Nat.le_of_ble_eq_true rfl) hL ⟨rfl, by rw [hf]; exact m82, hq_Scall (hq_S0) S83 (by omega) (by omega)⟩ d_M_flagging_22
def f_M_offTime (A : Nat → Nat → Int32) (j : Nat) (x : Int32) : Nat → Nat → Int32 := if x = 1 then (if ((A 27 j) + 1) = 11 then (if ((A 26 j) + 1) = 8 then ((setA (setA (setA (setA (setA (setA (setA A 27 (upd (A 27) j ((A 27 j) + 1))) 27 (upd (upd (A 27) j ((A 27 j) + 1)) j 0)) 26 (upd (A 26) j ((A 26 j) + 1))) 4 (upd (A 4) j 0)) 5 (upd (A 5) j 0)) 3 (upd (A 3) j 0)) 26 (upd (upd (A 26) j ((A 26 j) + 1)) j 0))) else ((setA (setA (setA A 27 (upd (A 27) j ((A 27 j) + 1))) 27 (upd (upd (A 27) j ((A 27 j) + 1)) j 0)) 26 (upd (A 26) j ((A 26 j) + 1))))) else (if (A 26 j) = 8 then ((setA (setA (setA (setA (setA A 27 (upd (A 27) j ((A 27 j) + 1))) 4 (upd (A 4) j 0)) 5 (upd (A 5) j 0)) 3 (upd (A 3) j 0)) 26 (upd (A 26) j 0))) else ((setA A 27 (upd (A 27) j ((A 27 j) + 1)))))) else (if (A 26 j) = 8 then ((setA (setA (setA (setA (setA A 27 (upd (A 27) j 0)) 4 (upd (A 4) j 0)) 5 (upd (A 5) j 0)) 3 (upd (A 3) j 0)) 26 (upd (A 26) j 0))) else ((setA A 27 (upd (A 27) j 0))))
set_option maxHeartbeats 4000000 in
set_option maxRecDepth 100000 in
theorem c_M_offTime (l : Launch) (D : va_G) (cI cZ cN cJ : ClassId) (lo : Nat) (b : Nat) (hlo : lo ≤ b) (th nn : Int32) (A : Nat → Nat → Int32) (j : Nat) (hj : j < 4) (x : Int32) : hq_M l y_M_offTime b_M_offTime 3 none TB { frames := 0, cells := 0, slots := 0, locals := 0 } lo D vwCl (TY cI cZ cN cJ) [.ref (b), .int (nI j), .int (x)] (fun U => hq_B D vwCl b 31 (mdC cI cZ b th nn A) U.heap) (fun H v H' => v = none ∧ hq_B D vwCl b 31 (mdC cI cZ b th nn (f_M_offTime A j x)) H' ∧ hq_S b 31 H H') := by
  refine hq_ofW (by decide) (Nat.le_of_ble_eq_true rfl) ?_
  intro p e s m below meth c ls C hml hret hlk hnm hl hP
  have hL : hq_L lo [] := hq_L0
  have hl : lv_has ls 3 [(0, .ref (b)), (1, .int (nI j)), (2, .int (x))] := hl
  have hM : hq_B D vwCl b 31 (mdC cI cZ b th nn A) s.heap := hP
  have k0 : va_at D vwCl (b, .inr (6, [.int (th), .int (nn), .ref (b + 1), .ref (b + 2), .ref (b + 3), .ref (b + 4), .ref (b + 5), .ref (b + 6), .ref (b + 7), .ref (b + 8), .ref (b + 9), .ref (b + 10), .ref (b + 11), .ref (b + 12), .ref (b + 13), .ref (b + 14), .ref (b + 15), .ref (b + 16), .ref (b + 17), .ref (b + 18), .ref (b + 19), .ref (b + 20), .ref (b + 21), .ref (b + 22), .ref (b + 23), .ref (b + 24), .ref (b + 25), .ref (b + 26), .ref (b + 27), .ref (b + 28), .ref (b + 29), .ref (b + 30)])) s.heap := hM 0 (by decide)
  refine lv_aload_n C.1 C.2.1 d_M_offTime_0 rfl (lv_at hl 0 rfl) ?_
  refine hq_get (v := .ref (b + 28)) C f_M_92 k0 rfl d_M_offTime_1 ?_
  refine lv_iload_n C.1 C.2.1 d_M_offTime_4 rfl (lv_at hl 1 rfl) ?_
  refine lv_iload_n C.1 C.2.1 d_M_offTime_5 rfl (lv_at hl 2 rfl) ?_
  refine lv_iconst (v := 1) C.1 C.2.1 d_M_offTime_6 (by decide) ?_
  refine lv_icmp_ne (tgt := 21) C.1 C.2.1 d_M_offTime_7 (by decide) ?_ ?_
  · intro c41
    refine lv_iconst (v := 0) C.1 C.2.1 d_M_offTime_21 (by decide) ?_
    have e42 : va_at D vwCl (b + 28, .inl (cI, 4, .inl (A 27))) _ := hM 28 (by decide)
    refine hq_iast (lo := lo) C 0 rfl e42 (vp_in_nI hj (by decide)) hL (by omega) d_M_offTime_22 (fun H43 locs u44 hL => ?_)
    rw [nI_clamp (show j < 2 ^ 31 by omega)] at u44
    have m45 := md_set (k := 27) (f := upd (A 27) j 0) hM u44
    have k0 : va_at D vwCl (b, .inr (6, [.int (th), .int (nn), .ref (b + 1), .ref (b + 2), .ref (b + 3), .ref (b + 4), .ref (b + 5), .ref (b + 6), .ref (b + 7), .ref (b + 8), .ref (b + 9), .ref (b + 10), .ref (b + 11), .ref (b + 12), .ref (b + 13), .ref (b + 14), .ref (b + 15), .ref (b + 16), .ref (b + 17), .ref (b + 18), .ref (b + 19), .ref (b + 20), .ref (b + 21), .ref (b + 22), .ref (b + 23), .ref (b + 24), .ref (b + 25), .ref (b + 26), .ref (b + 27), .ref (b + 28), .ref (b + 29), .ref (b + 30)])) H43 := m45 0 (by decide)
    refine lv_aload_n C.1 C.2.1 d_M_offTime_23 rfl (lv_at hl 0 rfl) ?_
    refine hq_get (v := .ref (b + 28)) C f_M_92 k0 rfl d_M_offTime_24 ?_
    refine lv_iload_n C.1 C.2.1 d_M_offTime_27 rfl (lv_at hl 1 rfl) ?_
    have e46 : va_at D vwCl (b + 28, .inl (cI, 4, .inl (upd (A 27) j 0))) _ := m45 28 (by decide)
    refine hq_iald C 0 rfl e46 (vp_in_nI hj (by decide)) d_M_offTime_28 ?_
    rw [nI_clamp (show j < 2 ^ 31 by omega)]
    rw [show (upd (A 27) j 0) j = 0 from pk_us]
    refine W.eq (g2 := F0 m 29 ls [.int (0)]) rfl ?_
    refine lv_bipush (v := 11) C.1 C.2.1 d_M_offTime_29 (by decide) ?_
    refine lv_icmp_ne (tgt := 51) C.1 C.2.1 d_M_offTime_31 (by decide) (fun _ => ?_) (fun hn => absurd hn (by decide))
    refine lv_aload_n C.1 C.2.1 d_M_offTime_51 rfl (lv_at hl 0 rfl) ?_
    refine hq_get (v := .ref (b + 27)) C f_M_89 k0 rfl d_M_offTime_52 ?_
    refine lv_iload_n C.1 C.2.1 d_M_offTime_55 rfl (lv_at hl 1 rfl) ?_
    have e47 : va_at D vwCl (b + 27, .inl (cI, 4, .inl (A 26))) _ := m45 27 (by decide)
    refine hq_iald C 0 rfl e47 (vp_in_nI hj (by decide)) d_M_offTime_56 ?_
    rw [nI_clamp (show j < 2 ^ 31 by omega)]
    refine W.eq (g2 := F0 m 57 ls [.int (A 26 j)]) rfl ?_
    refine lv_bipush (v := 8) C.1 C.2.1 d_M_offTime_57 (by decide) ?_
    refine lv_icmp_ne (tgt := 90) C.1 C.2.1 d_M_offTime_59 (by decide) ?_ ?_
    · intro c48
      have hf : f_M_offTime A j x = (setA A 27 (upd (A 27) j 0)) := by unfold f_M_offTime; rw [if_neg c41, if_neg c48]
      exact hq_vret C hret hlk (Nat.le_of_ble_eq_true rfl) (Nat.le_of_ble_eq_true rfl) hL ⟨rfl, by rw [hf]; exact m45, hq_Sput (hq_S0) u44 (by omega) (by omega)⟩ d_M_offTime_90
    · intro c48
      refine lv_aload_n C.1 C.2.1 d_M_offTime_62 rfl (lv_at hl 0 rfl) ?_
      refine hq_get (v := .ref (b + 5)) C f_M_23 k0 rfl d_M_offTime_63 ?_
      refine lv_iload_n C.1 C.2.1 d_M_offTime_66 rfl (lv_at hl 1 rfl) ?_
      refine lv_iconst (v := 0) C.1 C.2.1 d_M_offTime_67 (by decide) ?_
      have e49 : va_at D vwCl (b + 5, .inl (cI, 4, .inl (A 4))) _ := m45 5 (by decide)
      refine hq_iast (lo := lo) C 0 rfl e49 (vp_in_nI hj (by decide)) hL (by omega) d_M_offTime_68 (fun H50 locs u51 hL => ?_)
      rw [nI_clamp (show j < 2 ^ 31 by omega)] at u51
      have m52 := md_set (k := 4) (f := upd (A 4) j 0) m45 u51
      have k0 : va_at D vwCl (b, .inr (6, [.int (th), .int (nn), .ref (b + 1), .ref (b + 2), .ref (b + 3), .ref (b + 4), .ref (b + 5), .ref (b + 6), .ref (b + 7), .ref (b + 8), .ref (b + 9), .ref (b + 10), .ref (b + 11), .ref (b + 12), .ref (b + 13), .ref (b + 14), .ref (b + 15), .ref (b + 16), .ref (b + 17), .ref (b + 18), .ref (b + 19), .ref (b + 20), .ref (b + 21), .ref (b + 22), .ref (b + 23), .ref (b + 24), .ref (b + 25), .ref (b + 26), .ref (b + 27), .ref (b + 28), .ref (b + 29), .ref (b + 30)])) H50 := m52 0 (by decide)
      refine lv_aload_n C.1 C.2.1 d_M_offTime_69 rfl (lv_at hl 0 rfl) ?_
      refine hq_get (v := .ref (b + 6)) C f_M_26 k0 rfl d_M_offTime_70 ?_
      refine lv_iload_n C.1 C.2.1 d_M_offTime_73 rfl (lv_at hl 1 rfl) ?_
      refine lv_iconst (v := 0) C.1 C.2.1 d_M_offTime_74 (by decide) ?_
      have e53 : va_at D vwCl (b + 6, .inl (cI, 4, .inl (A 5))) _ := m52 6 (by decide)
      refine hq_iast (lo := lo) C 0 rfl e53 (vp_in_nI hj (by decide)) hL (by omega) d_M_offTime_75 (fun H54 locs u55 hL => ?_)
      rw [nI_clamp (show j < 2 ^ 31 by omega)] at u55
      have m56 := md_set (k := 5) (f := upd (A 5) j 0) m52 u55
      have k0 : va_at D vwCl (b, .inr (6, [.int (th), .int (nn), .ref (b + 1), .ref (b + 2), .ref (b + 3), .ref (b + 4), .ref (b + 5), .ref (b + 6), .ref (b + 7), .ref (b + 8), .ref (b + 9), .ref (b + 10), .ref (b + 11), .ref (b + 12), .ref (b + 13), .ref (b + 14), .ref (b + 15), .ref (b + 16), .ref (b + 17), .ref (b + 18), .ref (b + 19), .ref (b + 20), .ref (b + 21), .ref (b + 22), .ref (b + 23), .ref (b + 24), .ref (b + 25), .ref (b + 26), .ref (b + 27), .ref (b + 28), .ref (b + 29), .ref (b + 30)])) H54 := m56 0 (by decide)
      refine lv_aload_n C.1 C.2.1 d_M_offTime_76 rfl (lv_at hl 0 rfl) ?_
      refine hq_get (v := .ref (b + 4)) C f_M_20 k0 rfl d_M_offTime_77 ?_
      refine lv_iload_n C.1 C.2.1 d_M_offTime_80 rfl (lv_at hl 1 rfl) ?_
      refine lv_iconst (v := 0) C.1 C.2.1 d_M_offTime_81 (by decide) ?_
      have e57 : va_at D vwCl (b + 4, .inl (cI, 4, .inl (A 3))) _ := m56 4 (by decide)
      refine hq_iast (lo := lo) C 0 rfl e57 (vp_in_nI hj (by decide)) hL (by omega) d_M_offTime_82 (fun H58 locs u59 hL => ?_)
      rw [nI_clamp (show j < 2 ^ 31 by omega)] at u59
      have m60 := md_set (k := 3) (f := upd (A 3) j 0) m56 u59
      have k0 : va_at D vwCl (b, .inr (6, [.int (th), .int (nn), .ref (b + 1), .ref (b + 2), .ref (b + 3), .ref (b + 4), .ref (b + 5), .ref (b + 6), .ref (b + 7), .ref (b + 8), .ref (b + 9), .ref (b + 10), .ref (b + 11), .ref (b + 12), .ref (b + 13), .ref (b + 14), .ref (b + 15), .ref (b + 16), .ref (b + 17), .ref (b + 18), .ref (b + 19), .ref (b + 20), .ref (b + 21), .ref (b + 22), .ref (b + 23), .ref (b + 24), .ref (b + 25), .ref (b + 26), .ref (b + 27), .ref (b + 28), .ref (b + 29), .ref (b + 30)])) H58 := m60 0 (by decide)
      refine lv_aload_n C.1 C.2.1 d_M_offTime_83 rfl (lv_at hl 0 rfl) ?_
      refine hq_get (v := .ref (b + 27)) C f_M_89 k0 rfl d_M_offTime_84 ?_
      refine lv_iload_n C.1 C.2.1 d_M_offTime_87 rfl (lv_at hl 1 rfl) ?_
      refine lv_iconst (v := 0) C.1 C.2.1 d_M_offTime_88 (by decide) ?_
      have e61 : va_at D vwCl (b + 27, .inl (cI, 4, .inl (A 26))) _ := m60 27 (by decide)
      refine hq_iast (lo := lo) C 0 rfl e61 (vp_in_nI hj (by decide)) hL (by omega) d_M_offTime_89 (fun H62 locs u63 hL => ?_)
      rw [nI_clamp (show j < 2 ^ 31 by omega)] at u63
      have m64 := md_set (k := 26) (f := upd (A 26) j 0) m60 u63
      have k0 : va_at D vwCl (b, .inr (6, [.int (th), .int (nn), .ref (b + 1), .ref (b + 2), .ref (b + 3), .ref (b + 4), .ref (b + 5), .ref (b + 6), .ref (b + 7), .ref (b + 8), .ref (b + 9), .ref (b + 10), .ref (b + 11), .ref (b + 12), .ref (b + 13), .ref (b + 14), .ref (b + 15), .ref (b + 16), .ref (b + 17), .ref (b + 18), .ref (b + 19), .ref (b + 20), .ref (b + 21), .ref (b + 22), .ref (b + 23), .ref (b + 24), .ref (b + 25), .ref (b + 26), .ref (b + 27), .ref (b + 28), .ref (b + 29), .ref (b + 30)])) H62 := m64 0 (by decide)
      have hf : f_M_offTime A j x = (setA (setA (setA (setA (setA A 27 (upd (A 27) j 0)) 4 (upd (A 4) j 0)) 5 (upd (A 5) j 0)) 3 (upd (A 3) j 0)) 26 (upd (A 26) j 0)) := by unfold f_M_offTime; rw [if_neg c41, if_pos c48]
      exact hq_vret C hret hlk (Nat.le_of_ble_eq_true rfl) (Nat.le_of_ble_eq_true rfl) hL ⟨rfl, by rw [hf]; exact m64, hq_Sput (hq_Sput (hq_Sput (hq_Sput (hq_Sput (hq_S0) u44 (by omega) (by omega)) u51 (by omega) (by omega)) u55 (by omega) (by omega)) u59 (by omega) (by omega)) u63 (by omega) (by omega)⟩ d_M_offTime_90
  · intro c41
    refine lv_aload_n C.1 C.2.1 d_M_offTime_10 rfl (lv_at hl 0 rfl) ?_
    refine hq_get (v := .ref (b + 28)) C f_M_92 k0 rfl d_M_offTime_11 ?_
    refine lv_iload_n C.1 C.2.1 d_M_offTime_14 rfl (lv_at hl 1 rfl) ?_
    have e65 : va_at D vwCl (b + 28, .inl (cI, 4, .inl (A 27))) _ := hM 28 (by decide)
    refine hq_iald C 0 rfl e65 (vp_in_nI hj (by decide)) d_M_offTime_15 ?_
    rw [nI_clamp (show j < 2 ^ 31 by omega)]
    refine W.eq (g2 := F0 m 16 ls [.int (A 27 j), .int (nI j), .ref (b + 28)]) rfl ?_
    refine lv_iconst (v := 1) C.1 C.2.1 d_M_offTime_16 (by decide) ?_
    refine lv_iadd C.1 C.2.1 d_M_offTime_17 ?_
    refine lv_goto (tgt := 22) C.1 C.2.1 d_M_offTime_18 (by decide) ?_
    have e66 : va_at D vwCl (b + 28, .inl (cI, 4, .inl (A 27))) _ := hM 28 (by decide)
    refine hq_iast (lo := lo) C 0 rfl e66 (vp_in_nI hj (by decide)) hL (by omega) d_M_offTime_22 (fun H67 locs u68 hL => ?_)
    rw [nI_clamp (show j < 2 ^ 31 by omega)] at u68
    have m69 := md_set (k := 27) (f := upd (A 27) j ((A 27 j) + 1)) hM u68
    have k0 : va_at D vwCl (b, .inr (6, [.int (th), .int (nn), .ref (b + 1), .ref (b + 2), .ref (b + 3), .ref (b + 4), .ref (b + 5), .ref (b + 6), .ref (b + 7), .ref (b + 8), .ref (b + 9), .ref (b + 10), .ref (b + 11), .ref (b + 12), .ref (b + 13), .ref (b + 14), .ref (b + 15), .ref (b + 16), .ref (b + 17), .ref (b + 18), .ref (b + 19), .ref (b + 20), .ref (b + 21), .ref (b + 22), .ref (b + 23), .ref (b + 24), .ref (b + 25), .ref (b + 26), .ref (b + 27), .ref (b + 28), .ref (b + 29), .ref (b + 30)])) H67 := m69 0 (by decide)
    refine lv_aload_n C.1 C.2.1 d_M_offTime_23 rfl (lv_at hl 0 rfl) ?_
    refine hq_get (v := .ref (b + 28)) C f_M_92 k0 rfl d_M_offTime_24 ?_
    refine lv_iload_n C.1 C.2.1 d_M_offTime_27 rfl (lv_at hl 1 rfl) ?_
    have e70 : va_at D vwCl (b + 28, .inl (cI, 4, .inl (upd (A 27) j ((A 27 j) + 1)))) _ := m69 28 (by decide)
    refine hq_iald C 0 rfl e70 (vp_in_nI hj (by decide)) d_M_offTime_28 ?_
    rw [nI_clamp (show j < 2 ^ 31 by omega)]
    rw [show (upd (A 27) j ((A 27 j) + 1)) j = (A 27 j) + 1 from pk_us]
    refine W.eq (g2 := F0 m 29 ls [.int ((A 27 j) + 1)]) rfl ?_
    refine lv_bipush (v := 11) C.1 C.2.1 d_M_offTime_29 (by decide) ?_
    refine lv_icmp_ne (tgt := 51) C.1 C.2.1 d_M_offTime_31 (by decide) ?_ ?_
    · intro c71
      refine lv_aload_n C.1 C.2.1 d_M_offTime_51 rfl (lv_at hl 0 rfl) ?_
      refine hq_get (v := .ref (b + 27)) C f_M_89 k0 rfl d_M_offTime_52 ?_
      refine lv_iload_n C.1 C.2.1 d_M_offTime_55 rfl (lv_at hl 1 rfl) ?_
      have e72 : va_at D vwCl (b + 27, .inl (cI, 4, .inl (A 26))) _ := m69 27 (by decide)
      refine hq_iald C 0 rfl e72 (vp_in_nI hj (by decide)) d_M_offTime_56 ?_
      rw [nI_clamp (show j < 2 ^ 31 by omega)]
      refine W.eq (g2 := F0 m 57 ls [.int (A 26 j)]) rfl ?_
      refine lv_bipush (v := 8) C.1 C.2.1 d_M_offTime_57 (by decide) ?_
      refine lv_icmp_ne (tgt := 90) C.1 C.2.1 d_M_offTime_59 (by decide) ?_ ?_
      · intro c73
        have hf : f_M_offTime A j x = (setA A 27 (upd (A 27) j ((A 27 j) + 1))) := by unfold f_M_offTime; rw [if_pos c41, if_neg c71, if_neg c73]
        exact hq_vret C hret hlk (Nat.le_of_ble_eq_true rfl) (Nat.le_of_ble_eq_true rfl) hL ⟨rfl, by rw [hf]; exact m69, hq_Sput (hq_S0) u68 (by omega) (by omega)⟩ d_M_offTime_90
      · intro c73
        refine lv_aload_n C.1 C.2.1 d_M_offTime_62 rfl (lv_at hl 0 rfl) ?_
        refine hq_get (v := .ref (b + 5)) C f_M_23 k0 rfl d_M_offTime_63 ?_
        refine lv_iload_n C.1 C.2.1 d_M_offTime_66 rfl (lv_at hl 1 rfl) ?_
        refine lv_iconst (v := 0) C.1 C.2.1 d_M_offTime_67 (by decide) ?_
        have e74 : va_at D vwCl (b + 5, .inl (cI, 4, .inl (A 4))) _ := m69 5 (by decide)
        refine hq_iast (lo := lo) C 0 rfl e74 (vp_in_nI hj (by decide)) hL (by omega) d_M_offTime_68 (fun H75 locs u76 hL => ?_)
        rw [nI_clamp (show j < 2 ^ 31 by omega)] at u76
        have m77 := md_set (k := 4) (f := upd (A 4) j 0) m69 u76
        have k0 : va_at D vwCl (b, .inr (6, [.int (th), .int (nn), .ref (b + 1), .ref (b + 2), .ref (b + 3), .ref (b + 4), .ref (b + 5), .ref (b + 6), .ref (b + 7), .ref (b + 8), .ref (b + 9), .ref (b + 10), .ref (b + 11), .ref (b + 12), .ref (b + 13), .ref (b + 14), .ref (b + 15), .ref (b + 16), .ref (b + 17), .ref (b + 18), .ref (b + 19), .ref (b + 20), .ref (b + 21), .ref (b + 22), .ref (b + 23), .ref (b + 24), .ref (b + 25), .ref (b + 26), .ref (b + 27), .ref (b + 28), .ref (b + 29), .ref (b + 30)])) H75 := m77 0 (by decide)
        refine lv_aload_n C.1 C.2.1 d_M_offTime_69 rfl (lv_at hl 0 rfl) ?_
        refine hq_get (v := .ref (b + 6)) C f_M_26 k0 rfl d_M_offTime_70 ?_
        refine lv_iload_n C.1 C.2.1 d_M_offTime_73 rfl (lv_at hl 1 rfl) ?_
        refine lv_iconst (v := 0) C.1 C.2.1 d_M_offTime_74 (by decide) ?_
        have e78 : va_at D vwCl (b + 6, .inl (cI, 4, .inl (A 5))) _ := m77 6 (by decide)
        refine hq_iast (lo := lo) C 0 rfl e78 (vp_in_nI hj (by decide)) hL (by omega) d_M_offTime_75 (fun H79 locs u80 hL => ?_)
        rw [nI_clamp (show j < 2 ^ 31 by omega)] at u80
        have m81 := md_set (k := 5) (f := upd (A 5) j 0) m77 u80
        have k0 : va_at D vwCl (b, .inr (6, [.int (th), .int (nn), .ref (b + 1), .ref (b + 2), .ref (b + 3), .ref (b + 4), .ref (b + 5), .ref (b + 6), .ref (b + 7), .ref (b + 8), .ref (b + 9), .ref (b + 10), .ref (b + 11), .ref (b + 12), .ref (b + 13), .ref (b + 14), .ref (b + 15), .ref (b + 16), .ref (b + 17), .ref (b + 18), .ref (b + 19), .ref (b + 20), .ref (b + 21), .ref (b + 22), .ref (b + 23), .ref (b + 24), .ref (b + 25), .ref (b + 26), .ref (b + 27), .ref (b + 28), .ref (b + 29), .ref (b + 30)])) H79 := m81 0 (by decide)
        refine lv_aload_n C.1 C.2.1 d_M_offTime_76 rfl (lv_at hl 0 rfl) ?_
        refine hq_get (v := .ref (b + 4)) C f_M_20 k0 rfl d_M_offTime_77 ?_
        refine lv_iload_n C.1 C.2.1 d_M_offTime_80 rfl (lv_at hl 1 rfl) ?_
        refine lv_iconst (v := 0) C.1 C.2.1 d_M_offTime_81 (by decide) ?_
        have e82 : va_at D vwCl (b + 4, .inl (cI, 4, .inl (A 3))) _ := m81 4 (by decide)
        refine hq_iast (lo := lo) C 0 rfl e82 (vp_in_nI hj (by decide)) hL (by omega) d_M_offTime_82 (fun H83 locs u84 hL => ?_)
        rw [nI_clamp (show j < 2 ^ 31 by omega)] at u84
        have m85 := md_set (k := 3) (f := upd (A 3) j 0) m81 u84
        have k0 : va_at D vwCl (b, .inr (6, [.int (th), .int (nn), .ref (b + 1), .ref (b + 2), .ref (b + 3), .ref (b + 4), .ref (b + 5), .ref (b + 6), .ref (b + 7), .ref (b + 8), .ref (b + 9), .ref (b + 10), .ref (b + 11), .ref (b + 12), .ref (b + 13), .ref (b + 14), .ref (b + 15), .ref (b + 16), .ref (b + 17), .ref (b + 18), .ref (b + 19), .ref (b + 20), .ref (b + 21), .ref (b + 22), .ref (b + 23), .ref (b + 24), .ref (b + 25), .ref (b + 26), .ref (b + 27), .ref (b + 28), .ref (b + 29), .ref (b + 30)])) H83 := m85 0 (by decide)
        refine lv_aload_n C.1 C.2.1 d_M_offTime_83 rfl (lv_at hl 0 rfl) ?_
        refine hq_get (v := .ref (b + 27)) C f_M_89 k0 rfl d_M_offTime_84 ?_
        refine lv_iload_n C.1 C.2.1 d_M_offTime_87 rfl (lv_at hl 1 rfl) ?_
        refine lv_iconst (v := 0) C.1 C.2.1 d_M_offTime_88 (by decide) ?_
        have e86 : va_at D vwCl (b + 27, .inl (cI, 4, .inl (A 26))) _ := m85 27 (by decide)
        refine hq_iast (lo := lo) C 0 rfl e86 (vp_in_nI hj (by decide)) hL (by omega) d_M_offTime_89 (fun H87 locs u88 hL => ?_)
        rw [nI_clamp (show j < 2 ^ 31 by omega)] at u88
        have m89 := md_set (k := 26) (f := upd (A 26) j 0) m85 u88
        have k0 : va_at D vwCl (b, .inr (6, [.int (th), .int (nn), .ref (b + 1), .ref (b + 2), .ref (b + 3), .ref (b + 4), .ref (b + 5), .ref (b + 6), .ref (b + 7), .ref (b + 8), .ref (b + 9), .ref (b + 10), .ref (b + 11), .ref (b + 12), .ref (b + 13), .ref (b + 14), .ref (b + 15), .ref (b + 16), .ref (b + 17), .ref (b + 18), .ref (b + 19), .ref (b + 20), .ref (b + 21), .ref (b + 22), .ref (b + 23), .ref (b + 24), .ref (b + 25), .ref (b + 26), .ref (b + 27), .ref (b + 28), .ref (b + 29), .ref (b + 30)])) H87 := m89 0 (by decide)
        have hf : f_M_offTime A j x = (setA (setA (setA (setA (setA A 27 (upd (A 27) j ((A 27 j) + 1))) 4 (upd (A 4) j 0)) 5 (upd (A 5) j 0)) 3 (upd (A 3) j 0)) 26 (upd (A 26) j 0)) := by unfold f_M_offTime; rw [if_pos c41, if_neg c71, if_pos c73]
        exact hq_vret C hret hlk (Nat.le_of_ble_eq_true rfl) (Nat.le_of_ble_eq_true rfl) hL ⟨rfl, by rw [hf]; exact m89, hq_Sput (hq_Sput (hq_Sput (hq_Sput (hq_Sput (hq_S0) u68 (by omega) (by omega)) u76 (by omega) (by omega)) u80 (by omega) (by omega)) u84 (by omega) (by omega)) u88 (by omega) (by omega)⟩ d_M_offTime_90
    · intro c71
      refine lv_aload_n C.1 C.2.1 d_M_offTime_34 rfl (lv_at hl 0 rfl) ?_
      refine hq_get (v := .ref (b + 28)) C f_M_92 k0 rfl d_M_offTime_35 ?_
      refine lv_iload_n C.1 C.2.1 d_M_offTime_38 rfl (lv_at hl 1 rfl) ?_
      refine lv_iconst (v := 0) C.1 C.2.1 d_M_offTime_39 (by decide) ?_
      have e90 : va_at D vwCl (b + 28, .inl (cI, 4, .inl (upd (A 27) j ((A 27 j) + 1)))) _ := m69 28 (by decide)
      refine hq_iast (lo := lo) C 0 rfl e90 (vp_in_nI hj (by decide)) hL (by omega) d_M_offTime_40 (fun H91 locs u92 hL => ?_)
      rw [nI_clamp (show j < 2 ^ 31 by omega)] at u92
      have m93 := md_set (k := 27) (f := upd (upd (A 27) j ((A 27 j) + 1)) j 0) m69 u92
      have k0 : va_at D vwCl (b, .inr (6, [.int (th), .int (nn), .ref (b + 1), .ref (b + 2), .ref (b + 3), .ref (b + 4), .ref (b + 5), .ref (b + 6), .ref (b + 7), .ref (b + 8), .ref (b + 9), .ref (b + 10), .ref (b + 11), .ref (b + 12), .ref (b + 13), .ref (b + 14), .ref (b + 15), .ref (b + 16), .ref (b + 17), .ref (b + 18), .ref (b + 19), .ref (b + 20), .ref (b + 21), .ref (b + 22), .ref (b + 23), .ref (b + 24), .ref (b + 25), .ref (b + 26), .ref (b + 27), .ref (b + 28), .ref (b + 29), .ref (b + 30)])) H91 := m93 0 (by decide)
      refine lv_aload_n C.1 C.2.1 d_M_offTime_41 rfl (lv_at hl 0 rfl) ?_
      refine hq_get (v := .ref (b + 27)) C f_M_89 k0 rfl d_M_offTime_42 ?_
      refine lv_iload_n C.1 C.2.1 d_M_offTime_45 rfl (lv_at hl 1 rfl) ?_
      refine lv_dup2_11 C.1 C.2.1 d_M_offTime_46 rfl rfl ?_
      have e94 : va_at D vwCl (b + 27, .inl (cI, 4, .inl (A 26))) _ := m93 27 (by decide)
      refine hq_iald C 0 rfl e94 (vp_in_nI hj (by decide)) d_M_offTime_47 ?_
      rw [nI_clamp (show j < 2 ^ 31 by omega)]
      refine W.eq (g2 := F0 m 48 ls [.int (A 26 j), .int (nI j), .ref (b + 27)]) rfl ?_
      refine lv_iconst (v := 1) C.1 C.2.1 d_M_offTime_48 (by decide) ?_
      refine lv_iadd C.1 C.2.1 d_M_offTime_49 ?_
      have e95 : va_at D vwCl (b + 27, .inl (cI, 4, .inl (A 26))) _ := m93 27 (by decide)
      refine hq_iast (lo := lo) C 0 rfl e95 (vp_in_nI hj (by decide)) hL (by omega) d_M_offTime_50 (fun H96 locs u97 hL => ?_)
      rw [nI_clamp (show j < 2 ^ 31 by omega)] at u97
      have m98 := md_set (k := 26) (f := upd (A 26) j ((A 26 j) + 1)) m93 u97
      have k0 : va_at D vwCl (b, .inr (6, [.int (th), .int (nn), .ref (b + 1), .ref (b + 2), .ref (b + 3), .ref (b + 4), .ref (b + 5), .ref (b + 6), .ref (b + 7), .ref (b + 8), .ref (b + 9), .ref (b + 10), .ref (b + 11), .ref (b + 12), .ref (b + 13), .ref (b + 14), .ref (b + 15), .ref (b + 16), .ref (b + 17), .ref (b + 18), .ref (b + 19), .ref (b + 20), .ref (b + 21), .ref (b + 22), .ref (b + 23), .ref (b + 24), .ref (b + 25), .ref (b + 26), .ref (b + 27), .ref (b + 28), .ref (b + 29), .ref (b + 30)])) H96 := m98 0 (by decide)
      refine lv_aload_n C.1 C.2.1 d_M_offTime_51 rfl (lv_at hl 0 rfl) ?_
      refine hq_get (v := .ref (b + 27)) C f_M_89 k0 rfl d_M_offTime_52 ?_
      refine lv_iload_n C.1 C.2.1 d_M_offTime_55 rfl (lv_at hl 1 rfl) ?_
      have e99 : va_at D vwCl (b + 27, .inl (cI, 4, .inl (upd (A 26) j ((A 26 j) + 1)))) _ := m98 27 (by decide)
      refine hq_iald C 0 rfl e99 (vp_in_nI hj (by decide)) d_M_offTime_56 ?_
      rw [nI_clamp (show j < 2 ^ 31 by omega)]
      rw [show (upd (A 26) j ((A 26 j) + 1)) j = (A 26 j) + 1 from pk_us]
      refine W.eq (g2 := F0 m 57 ls [.int ((A 26 j) + 1)]) rfl ?_
      refine lv_bipush (v := 8) C.1 C.2.1 d_M_offTime_57 (by decide) ?_
      refine lv_icmp_ne (tgt := 90) C.1 C.2.1 d_M_offTime_59 (by decide) ?_ ?_
      · intro c100
        have hf : f_M_offTime A j x = (setA (setA (setA A 27 (upd (A 27) j ((A 27 j) + 1))) 27 (upd (upd (A 27) j ((A 27 j) + 1)) j 0)) 26 (upd (A 26) j ((A 26 j) + 1))) := by unfold f_M_offTime; rw [if_pos c41, if_pos c71, if_neg c100]
        exact hq_vret C hret hlk (Nat.le_of_ble_eq_true rfl) (Nat.le_of_ble_eq_true rfl) hL ⟨rfl, by rw [hf]; exact m98, hq_Sput (hq_Sput (hq_Sput (hq_S0) u68 (by omega) (by omega)) u92 (by omega) (by omega)) u97 (by omega) (by omega)⟩ d_M_offTime_90
      · intro c100
        refine lv_aload_n C.1 C.2.1 d_M_offTime_62 rfl (lv_at hl 0 rfl) ?_
        refine hq_get (v := .ref (b + 5)) C f_M_23 k0 rfl d_M_offTime_63 ?_
        refine lv_iload_n C.1 C.2.1 d_M_offTime_66 rfl (lv_at hl 1 rfl) ?_
        refine lv_iconst (v := 0) C.1 C.2.1 d_M_offTime_67 (by decide) ?_
        have e101 : va_at D vwCl (b + 5, .inl (cI, 4, .inl (A 4))) _ := m98 5 (by decide)
        refine hq_iast (lo := lo) C 0 rfl e101 (vp_in_nI hj (by decide)) hL (by omega) d_M_offTime_68 (fun H102 locs u103 hL => ?_)
        rw [nI_clamp (show j < 2 ^ 31 by omega)] at u103
        have m104 := md_set (k := 4) (f := upd (A 4) j 0) m98 u103
        have k0 : va_at D vwCl (b, .inr (6, [.int (th), .int (nn), .ref (b + 1), .ref (b + 2), .ref (b + 3), .ref (b + 4), .ref (b + 5), .ref (b + 6), .ref (b + 7), .ref (b + 8), .ref (b + 9), .ref (b + 10), .ref (b + 11), .ref (b + 12), .ref (b + 13), .ref (b + 14), .ref (b + 15), .ref (b + 16), .ref (b + 17), .ref (b + 18), .ref (b + 19), .ref (b + 20), .ref (b + 21), .ref (b + 22), .ref (b + 23), .ref (b + 24), .ref (b + 25), .ref (b + 26), .ref (b + 27), .ref (b + 28), .ref (b + 29), .ref (b + 30)])) H102 := m104 0 (by decide)
        refine lv_aload_n C.1 C.2.1 d_M_offTime_69 rfl (lv_at hl 0 rfl) ?_
        refine hq_get (v := .ref (b + 6)) C f_M_26 k0 rfl d_M_offTime_70 ?_
        refine lv_iload_n C.1 C.2.1 d_M_offTime_73 rfl (lv_at hl 1 rfl) ?_
        refine lv_iconst (v := 0) C.1 C.2.1 d_M_offTime_74 (by decide) ?_
        have e105 : va_at D vwCl (b + 6, .inl (cI, 4, .inl (A 5))) _ := m104 6 (by decide)
        refine hq_iast (lo := lo) C 0 rfl e105 (vp_in_nI hj (by decide)) hL (by omega) d_M_offTime_75 (fun H106 locs u107 hL => ?_)
        rw [nI_clamp (show j < 2 ^ 31 by omega)] at u107
        have m108 := md_set (k := 5) (f := upd (A 5) j 0) m104 u107
        have k0 : va_at D vwCl (b, .inr (6, [.int (th), .int (nn), .ref (b + 1), .ref (b + 2), .ref (b + 3), .ref (b + 4), .ref (b + 5), .ref (b + 6), .ref (b + 7), .ref (b + 8), .ref (b + 9), .ref (b + 10), .ref (b + 11), .ref (b + 12), .ref (b + 13), .ref (b + 14), .ref (b + 15), .ref (b + 16), .ref (b + 17), .ref (b + 18), .ref (b + 19), .ref (b + 20), .ref (b + 21), .ref (b + 22), .ref (b + 23), .ref (b + 24), .ref (b + 25), .ref (b + 26), .ref (b + 27), .ref (b + 28), .ref (b + 29), .ref (b + 30)])) H106 := m108 0 (by decide)
        refine lv_aload_n C.1 C.2.1 d_M_offTime_76 rfl (lv_at hl 0 rfl) ?_
        refine hq_get (v := .ref (b + 4)) C f_M_20 k0 rfl d_M_offTime_77 ?_
        refine lv_iload_n C.1 C.2.1 d_M_offTime_80 rfl (lv_at hl 1 rfl) ?_
        refine lv_iconst (v := 0) C.1 C.2.1 d_M_offTime_81 (by decide) ?_
        have e109 : va_at D vwCl (b + 4, .inl (cI, 4, .inl (A 3))) _ := m108 4 (by decide)
        refine hq_iast (lo := lo) C 0 rfl e109 (vp_in_nI hj (by decide)) hL (by omega) d_M_offTime_82 (fun H110 locs u111 hL => ?_)
        rw [nI_clamp (show j < 2 ^ 31 by omega)] at u111
        have m112 := md_set (k := 3) (f := upd (A 3) j 0) m108 u111
        have k0 : va_at D vwCl (b, .inr (6, [.int (th), .int (nn), .ref (b + 1), .ref (b + 2), .ref (b + 3), .ref (b + 4), .ref (b + 5), .ref (b + 6), .ref (b + 7), .ref (b + 8), .ref (b + 9), .ref (b + 10), .ref (b + 11), .ref (b + 12), .ref (b + 13), .ref (b + 14), .ref (b + 15), .ref (b + 16), .ref (b + 17), .ref (b + 18), .ref (b + 19), .ref (b + 20), .ref (b + 21), .ref (b + 22), .ref (b + 23), .ref (b + 24), .ref (b + 25), .ref (b + 26), .ref (b + 27), .ref (b + 28), .ref (b + 29), .ref (b + 30)])) H110 := m112 0 (by decide)
        refine lv_aload_n C.1 C.2.1 d_M_offTime_83 rfl (lv_at hl 0 rfl) ?_
        refine hq_get (v := .ref (b + 27)) C f_M_89 k0 rfl d_M_offTime_84 ?_
        refine lv_iload_n C.1 C.2.1 d_M_offTime_87 rfl (lv_at hl 1 rfl) ?_
        refine lv_iconst (v := 0) C.1 C.2.1 d_M_offTime_88 (by decide) ?_
        have e113 : va_at D vwCl (b + 27, .inl (cI, 4, .inl (upd (A 26) j ((A 26 j) + 1)))) _ := m112 27 (by decide)
        refine hq_iast (lo := lo) C 0 rfl e113 (vp_in_nI hj (by decide)) hL (by omega) d_M_offTime_89 (fun H114 locs u115 hL => ?_)
        rw [nI_clamp (show j < 2 ^ 31 by omega)] at u115
        have m116 := md_set (k := 26) (f := upd (upd (A 26) j ((A 26 j) + 1)) j 0) m112 u115
        have k0 : va_at D vwCl (b, .inr (6, [.int (th), .int (nn), .ref (b + 1), .ref (b + 2), .ref (b + 3), .ref (b + 4), .ref (b + 5), .ref (b + 6), .ref (b + 7), .ref (b + 8), .ref (b + 9), .ref (b + 10), .ref (b + 11), .ref (b + 12), .ref (b + 13), .ref (b + 14), .ref (b + 15), .ref (b + 16), .ref (b + 17), .ref (b + 18), .ref (b + 19), .ref (b + 20), .ref (b + 21), .ref (b + 22), .ref (b + 23), .ref (b + 24), .ref (b + 25), .ref (b + 26), .ref (b + 27), .ref (b + 28), .ref (b + 29), .ref (b + 30)])) H114 := m116 0 (by decide)
        have hf : f_M_offTime A j x = (setA (setA (setA (setA (setA (setA (setA A 27 (upd (A 27) j ((A 27 j) + 1))) 27 (upd (upd (A 27) j ((A 27 j) + 1)) j 0)) 26 (upd (A 26) j ((A 26 j) + 1))) 4 (upd (A 4) j 0)) 5 (upd (A 5) j 0)) 3 (upd (A 3) j 0)) 26 (upd (upd (A 26) j ((A 26 j) + 1)) j 0)) := by unfold f_M_offTime; rw [if_pos c41, if_pos c71, if_pos c100]
        exact hq_vret C hret hlk (Nat.le_of_ble_eq_true rfl) (Nat.le_of_ble_eq_true rfl) hL ⟨rfl, by rw [hf]; exact m116, hq_Sput (hq_Sput (hq_Sput (hq_Sput (hq_Sput (hq_Sput (hq_Sput (hq_S0) u68 (by omega) (by omega)) u92 (by omega) (by omega)) u97 (by omega) (by omega)) u103 (by omega) (by omega)) u107 (by omega) (by omega)) u111 (by omega) (by omega)) u115 (by omega) (by omega)⟩ d_M_offTime_90
