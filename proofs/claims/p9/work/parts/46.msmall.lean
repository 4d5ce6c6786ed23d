/-! The reference's smaller methods, as functions of its rows. -/
def f_M_coreLength (A : Nat → Nat → Int32) (j : Nat) : Int32 := if 19 ≤ (A 17 j) then (34 + (8 * (A 22 j))) else ((999 : Int32))
set_option maxHeartbeats 4000000 in
set_option maxRecDepth 100000 in
theorem c_M_coreLength (l : Launch) (D : va_G) (cI cZ cN cJ : ClassId) (lo : Nat) (b : Nat) (th nn : Int32) (A : Nat → Nat → Int32) (j : Nat) (hj : j < 4) : hq_M l y_M_coreLength b_M_coreLength 2 (some .int) TB { frames := 0, cells := 0, slots := 0, locals := 0 } lo D vwCl (TY cI cZ cN cJ) [.ref (b), .int (nI j)] (fun U => hq_B D vwCl b 31 (mdC cI cZ b th nn A) U.heap) (fun H v H' => v = some (.int (f_M_coreLength A j)) ∧ H' = H) := by
  refine hq_ofW (by decide) (Nat.le_of_ble_eq_true rfl) ?_
  intro p e s m below meth c ls C hml hret hlk hnm hl hP
  have hL : hq_L lo [] := hq_L0
  have hl : lv_has ls 2 [(0, .ref (b)), (1, .int (nI j))] := hl
  have hM : hq_B D vwCl b 31 (mdC cI cZ b th nn A) s.heap := hP
  have k0 : va_at D vwCl (b, .inr (6, [.int (th), .int (nn), .ref (b + 1), .ref (b + 2), .ref (b + 3), .ref (b + 4), .ref (b + 5), .ref (b + 6), .ref (b + 7), .ref (b + 8), .ref (b + 9), .ref (b + 10), .ref (b + 11), .ref (b + 12), .ref (b + 13), .ref (b + 14), .ref (b + 15), .ref (b + 16), .ref (b + 17), .ref (b + 18), .ref (b + 19), .ref (b + 20), .ref (b + 21), .ref (b + 22), .ref (b + 23), .ref (b + 24), .ref (b + 25), .ref (b + 26), .ref (b + 27), .ref (b + 28), .ref (b + 29), .ref (b + 30)])) s.heap := hM 0 (by decide)
  refine lv_aload_n C.1 C.2.1 d_M_coreLength_0 rfl (lv_at hl 0 rfl) ?_
  refine hq_get (v := .ref (b + 18)) C f_M_62 k0 rfl d_M_coreLength_1 ?_
  refine lv_iload_n C.1 C.2.1 d_M_coreLength_4 rfl (lv_at hl 1 rfl) ?_
  have e41 : va_at D vwCl (b + 18, .inl (cI, 4, .inl (A 17))) _ := hM 18 (by decide)
  refine hq_iald C 0 rfl e41 (vp_in_nI hj (by decide)) d_M_coreLength_5 ?_
  rw [nI_clamp (show j < 2 ^ 31 by omega)]
  refine W.eq (g2 := F0 m 6 ls [.int (A 17 j)]) rfl ?_
  refine lv_bipush (v := 19) C.1 C.2.1 d_M_coreLength_6 (by decide) ?_
  refine lv_icmp_ge (tgt := 17) C.1 C.2.1 d_M_coreLength_8 (by decide) ?_ ?_
  · intro c42
    refine lv_bipush (v := 34) C.1 C.2.1 d_M_coreLength_17 (by decide) ?_
    refine lv_bipush (v := 8) C.1 C.2.1 d_M_coreLength_19 (by decide) ?_
    refine lv_aload_n C.1 C.2.1 d_M_coreLength_21 rfl (lv_at hl 0 rfl) ?_
    refine hq_get (v := .ref (b + 23)) C f_M_77 k0 rfl d_M_coreLength_22 ?_
    refine lv_iload_n C.1 C.2.1 d_M_coreLength_25 rfl (lv_at hl 1 rfl) ?_
    have e43 : va_at D vwCl (b + 23, .inl (cI, 4, .inl (A 22))) _ := hM 23 (by decide)
    refine hq_iald C 0 rfl e43 (vp_in_nI hj (by decide)) d_M_coreLength_26 ?_
    rw [nI_clamp (show j < 2 ^ 31 by omega)]
    refine W.eq (g2 := F0 m 27 ls [.int (A 22 j), .int (8), .int (34)]) rfl ?_
    refine lv_imul C.1 C.2.1 d_M_coreLength_27 ?_
    refine lv_iadd C.1 C.2.1 d_M_coreLength_28 ?_
    have hf : f_M_coreLength A j = 34 + (8 * (A 22 j)) := by unfold f_M_coreLength; rw [if_pos c42]
    exact hq_iret C hret hlk (Nat.le_of_ble_eq_true rfl) (Nat.le_of_ble_eq_true rfl) hL ⟨by rw [hf], rfl⟩ d_M_coreLength_29
  · intro c42
    refine lv_sipush (v := 999) C.1 C.2.1 d_M_coreLength_11 (by decide) ?_
    refine lv_goto (tgt := 29) C.1 C.2.1 d_M_coreLength_14 (by decide) ?_
    have hf : f_M_coreLength A j = (999 : Int32) := by unfold f_M_coreLength; rw [if_neg c42]
    exact hq_iret C hret hlk (Nat.le_of_ble_eq_true rfl) (Nat.le_of_ble_eq_true rfl) hL ⟨by rw [hf], rfl⟩ d_M_coreLength_29
def f_M_isPassive (A : Nat → Nat → Int32) (j : Nat) : Int32 := if 127 < (A 4 j) then ((1 : Int32)) else (if (A 5 j) ≤ 127 then ((0 : Int32)) else ((1 : Int32)))
set_option maxHeartbeats 4000000 in
set_option maxRecDepth 100000 in
theorem c_M_isPassive (l : Launch) (D : va_G) (cI cZ cN cJ : ClassId) (lo : Nat) (b : Nat) (th nn : Int32) (A : Nat → Nat → Int32) (j : Nat) (hj : j < 4) : hq_M l y_M_isPassive b_M_isPassive 2 (some .boolean) TB { frames := 0, cells := 0, slots := 0, locals := 0 } lo D vwCl (TY cI cZ cN cJ) [.ref (b), .int (nI j)] (fun U => hq_B D vwCl b 31 (mdC cI cZ b th nn A) U.heap) (fun H v H' => v = some (.int (f_M_isPassive A j)) ∧ H' = H) := by
  refine hq_ofW (by decide) (Nat.le_of_ble_eq_true rfl) ?_
  intro p e s m below meth c ls C hml hret hlk hnm hl hP
  have hL : hq_L lo [] := hq_L0
  have hl : lv_has ls 2 [(0, .ref (b)), (1, .int (nI j))] := hl
  have hM : hq_B D vwCl b 31 (mdC cI cZ b th nn A) s.heap := hP
  have k0 : va_at D vwCl (b, .inr (6, [.int (th), .int (nn), .ref (b + 1), .ref (b + 2), .ref (b + 3), .ref (b + 4), .ref (b + 5), .ref (b + 6), .ref (b + 7), .ref (b + 8), .ref (b + 9), .ref (b + 10), .ref (b + 11), .ref (b + 12), .ref (b + 13), .ref (b + 14), .ref (b + 15), .ref (b + 16), .ref (b + 17), .ref (b + 18), .ref (b + 19), .ref (b + 20), .ref (b + 21), .ref (b + 22), .ref (b + 23), .ref (b + 24), .ref (b + 25), .ref (b + 26), .ref (b + 27), .ref (b + 28), .ref (b + 29), .ref (b + 30)])) s.heap := hM 0 (by decide)
  refine lv_aload_n C.1 C.2.1 d_M_isPassive_0 rfl (lv_at hl 0 rfl) ?_
  refine hq_get (v := .ref (b + 5)) C f_M_23 k0 rfl d_M_isPassive_1 ?_
  refine lv_iload_n C.1 C.2.1 d_M_isPassive_4 rfl (lv_at hl 1 rfl) ?_
  have e41 : va_at D vwCl (b + 5, .inl (cI, 4, .inl (A 4))) _ := hM 5 (by decide)
  refine hq_iald C 0 rfl e41 (vp_in_nI hj (by decide)) d_M_isPassive_5 ?_
  rw [nI_clamp (show j < 2 ^ 31 by omega)]
  refine W.eq (g2 := F0 m 6 ls [.int (A 4 j)]) rfl ?_
  refine lv_bipush (v := 127) C.1 C.2.1 d_M_isPassive_6 (by decide) ?_
  refine lv_icmp_gt (tgt := 22) C.1 C.2.1 d_M_isPassive_8 (by decide) ?_ ?_
  · intro c42
    refine lv_iconst (v := 1) C.1 C.2.1 d_M_isPassive_22 (by decide) ?_
    refine lv_goto (tgt := 27) C.1 C.2.1 d_M_isPassive_23 (by decide) ?_
    have hf : f_M_isPassive A j = (1 : Int32) := by unfold f_M_isPassive; rw [if_pos c42]
    exact hq_zret C hret hlk (by decide) (Nat.le_of_ble_eq_true rfl) (Nat.le_of_ble_eq_true rfl) hL ⟨by rw [hf], rfl⟩ d_M_isPassive_27
  · intro c42
    refine lv_aload_n C.1 C.2.1 d_M_isPassive_11 rfl (lv_at hl 0 rfl) ?_
    refine hq_get (v := .ref (b + 6)) C f_M_26 k0 rfl d_M_isPassive_12 ?_
    refine lv_iload_n C.1 C.2.1 d_M_isPassive_15 rfl (lv_at hl 1 rfl) ?_
    have e43 : va_at D vwCl (b + 6, .inl (cI, 4, .inl (A 5))) _ := hM 6 (by decide)
    refine hq_iald C 0 rfl e43 (vp_in_nI hj (by decide)) d_M_isPassive_16 ?_
    rw [nI_clamp (show j < 2 ^ 31 by omega)]
    refine W.eq (g2 := F0 m 17 ls [.int (A 5 j)]) rfl ?_
    refine lv_bipush (v := 127) C.1 C.2.1 d_M_isPassive_17 (by decide) ?_
    refine lv_icmp_le (tgt := 26) C.1 C.2.1 d_M_isPassive_19 (by decide) ?_ ?_
    · intro c44
      refine lv_iconst (v := 0) C.1 C.2.1 d_M_isPassive_26 (by decide) ?_
      have hf : f_M_isPassive A j = (0 : Int32) := by unfold f_M_isPassive; rw [if_neg c42, if_pos c44]
      exact hq_zret C hret hlk (by decide) (Nat.le_of_ble_eq_true rfl) (Nat.le_of_ble_eq_true rfl) hL ⟨by rw [hf], rfl⟩ d_M_isPassive_27
    · intro c44
      refine lv_iconst (v := 1) C.1 C.2.1 d_M_isPassive_22 (by decide) ?_
      refine lv_goto (tgt := 27) C.1 C.2.1 d_M_isPassive_23 (by decide) ?_
      have hf : f_M_isPassive A j = (1 : Int32) := by unfold f_M_isPassive; rw [if_neg c42, if_neg c44]
      exact hq_zret C hret hlk (by decide) (Nat.le_of_ble_eq_true rfl) (Nat.le_of_ble_eq_true rfl) hL ⟨by rw [hf], rfl⟩ d_M_isPassive_27
def f_M_rest (A : Nat → Nat → Int32) (j : Nat) : Nat → Nat → Int32 := (setA (setA A 3 (upd (A 3) j 5)) 26 (upd (A 26) j 0))
set_option maxHeartbeats 4000000 in
set_option maxRecDepth 100000 in
theorem c_M_rest (l : Launch) (D : va_G) (cI cZ cN cJ : ClassId) (lo : Nat) (b : Nat) (hlo : lo ≤ b) (th nn : Int32) (A : Nat → Nat → Int32) (j : Nat) (hj : j < 4) : hq_M l y_M_rest b_M_rest 2 none TB { frames := 0, cells := 0, slots := 0, locals := 0 } lo D vwCl (TY cI cZ cN cJ) [.ref (b), .int (nI j)] (fun U => hq_B D vwCl b 31 (mdC cI cZ b th nn A) U.heap) (fun H v H' => v = none ∧ hq_B D vwCl b 31 (mdC cI cZ b th nn (f_M_rest A j)) H' ∧ hq_S b 31 H H') := by
  refine hq_ofW (by decide) (Nat.le_of_ble_eq_true rfl) ?_
  intro p e s m below meth c ls C hml hret hlk hnm hl hP
  have hL : hq_L lo [] := hq_L0
  have hl : lv_has ls 2 [(0, .ref (b)), (1, .int (nI j))] := hl
  have hM : hq_B D vwCl b 31 (mdC cI cZ b th nn A) s.heap := hP
  have k0 : va_at D vwCl (b, .inr (6, [.int (th), .int (nn), .ref (b + 1), .ref (b + 2), .ref (b + 3), .ref (b + 4), .ref (b + 5), .ref (b + 6), .ref (b + 7), .ref (b + 8), .ref (b + 9), .ref (b + 10), .ref (b + 11), .ref (b + 12), .ref (b + 13), .ref (b + 14), .ref (b + 15), .ref (b + 16), .ref (b + 17), .ref (b + 18), .ref (b + 19), .ref (b + 20), .ref (b + 21), .ref (b + 22), .ref (b + 23), .ref (b + 24), .ref (b + 25), .ref (b + 26), .ref (b + 27), .ref (b + 28), .ref (b + 29), .ref (b + 30)])) s.heap := hM 0 (by decide)
  refine lv_aload_n C.1 C.2.1 d_M_rest_0 rfl (lv_at hl 0 rfl) ?_
  refine hq_get (v := .ref (b + 4)) C f_M_20 k0 rfl d_M_rest_1 ?_
  refine lv_iload_n C.1 C.2.1 d_M_rest_4 rfl (lv_at hl 1 rfl) ?_
  refine lv_iconst (v := 5) C.1 C.2.1 d_M_rest_5 (by decide) ?_
  have e41 : va_at D vwCl (b + 4, .inl (cI, 4, .inl (A 3))) _ := hM 4 (by decide)
  refine hq_iast (lo := lo) C 0 rfl e41 (vp_in_nI hj (by decide)) hL (by omega) d_M_rest_6 (fun H42 locs u43 hL => ?_)
  rw [nI_clamp (show j < 2 ^ 31 by omega)] at u43
  have m44 := md_set (k := 3) (f := upd (A 3) j 5) hM u43
  have k0 : va_at D vwCl (b, .inr (6, [.int (th), .int (nn), .ref (b + 1), .ref (b + 2), .ref (b + 3), .ref (b + 4), .ref (b + 5), .ref (b + 6), .ref (b + 7), .ref (b + 8), .ref (b + 9), .ref (b + 10), .ref (b + 11), .ref (b + 12), .ref (b + 13), .ref (b + 14), .ref (b + 15), .ref (b + 16), .ref (b + 17), .ref (b + 18), .ref (b + 19), .ref (b + 20), .ref (b + 21), .ref (b + 22), .ref (b + 23), .ref (b + 24), .ref (b + 25), .ref (b + 26), .ref (b + 27), .ref (b + 28), .ref (b + 29), .ref (b + 30)])) H42 := m44 0 (by decide)
  refine lv_aload_n C.1 C.2.1 d_M_rest_7 rfl (lv_at hl 0 rfl) ?_
  refine hq_get (v := .ref (b + 27)) C f_M_89 k0 rfl d_M_rest_8 ?_
  refine lv_iload_n C.1 C.2.1 d_M_rest_11 rfl (lv_at hl 1 rfl) ?_
  refine lv_iconst (v := 0) C.1 C.2.1 d_M_rest_12 (by decide) ?_
  have e45 : va_at D vwCl (b + 27, .inl (cI, 4, .inl (A 26))) _ := m44 27 (by decide)
  refine hq_iast (lo := lo) C 0 rfl e45 (vp_in_nI hj (by decide)) hL (by omega) d_M_rest_13 (fun H46 locs u47 hL => ?_)
  rw [nI_clamp (show j < 2 ^ 31 by omega)] at u47
  have m48 := md_set (k := 26) (f := upd (A 26) j 0) m44 u47
  have k0 : va_at D vwCl (b, .inr (6, [.int (th), .int (nn), .ref (b + 1), .ref (b + 2), .ref (b + 3), .ref (b + 4), .ref (b + 5), .ref (b + 6), .ref (b + 7), .ref (b + 8), .ref (b + 9), .ref (b + 10), .ref (b + 11), .ref (b + 12), .ref (b + 13), .ref (b + 14), .ref (b + 15), .ref (b + 16), .ref (b + 17), .ref (b + 18), .ref (b + 19), .ref (b + 20), .ref (b + 21), .ref (b + 22), .ref (b + 23), .ref (b + 24), .ref (b + 25), .ref (b + 26), .ref (b + 27), .ref (b + 28), .ref (b + 29), .ref (b + 30)])) H46 := m48 0 (by decide)
  have hf : f_M_rest A j = (setA (setA A 3 (upd (A 3) j 5)) 26 (upd (A 26) j 0)) := rfl
  exact hq_vret C hret hlk (Nat.le_of_ble_eq_true rfl) (Nat.le_of_ble_eq_true rfl) hL ⟨rfl, by rw [hf]; exact m48, hq_Sput (hq_Sput (hq_S0) u43 (by omega) (by omega)) u47 (by omega) (by omega)⟩ d_M_rest_14
def f_M_open (A : Nat → Nat → Int32) (j : Nat) (x : Int32) : Nat → Nat → Int32 := (setA (setA (setA (setA (setA (setA (setA (setA (setA (setA A 3 (upd (A 3) j x)) 28 (upd (A 28) j x)) 16 (upd (A 16) j 0)) 17 (upd (A 17) j 0)) 18 (upd (A 18) j 0)) 19 (upd (A 19) j 0)) 20 (upd (A 20) j 0)) 21 (upd (A 21) j 0)) 22 (upd (A 22) j 0)) 23 (upd (A 23) j 0))
set_option maxHeartbeats 4000000 in
set_option maxRecDepth 100000 in
theorem c_M_open (l : Launch) (D : va_G) (cI cZ cN cJ : ClassId) (lo : Nat) (b : Nat) (hlo : lo ≤ b) (th nn : Int32) (A : Nat → Nat → Int32) (j : Nat) (hj : j < 4) (x : Int32) : hq_M l y_M_open b_M_open 3 none TB { frames := 0, cells := 0, slots := 0, locals := 0 } lo D vwCl (TY cI cZ cN cJ) [.ref (b), .int (nI j), .int (x)] (fun U => hq_B D vwCl b 31 (mdC cI cZ b th nn A) U.heap) (fun H v H' => v = none ∧ hq_B D vwCl b 31 (mdC cI cZ b th nn (f_M_open A j x)) H' ∧ hq_S b 31 H H') := by
  refine hq_ofW (by decide) (Nat.le_of_ble_eq_true rfl) ?_
  intro p e s m below meth c ls C hml hret hlk hnm hl hP
  have hL : hq_L lo [] := hq_L0
  have hl : lv_has ls 3 [(0, .ref (b)), (1, .int (nI j)), (2, .int (x))] := hl
  have hM : hq_B D vwCl b 31 (mdC cI cZ b th nn A) s.heap := hP
  have k0 : va_at D vwCl (b, .inr (6, [.int (th), .int (nn), .ref (b + 1), .ref (b + 2), .ref (b + 3), .ref (b + 4), .ref (b + 5), .ref (b + 6), .ref (b + 7), .ref (b + 8), .ref (b + 9), .ref (b + 10), .ref (b + 11), .ref (b + 12), .ref (b + 13), .ref (b + 14), .ref (b + 15), .ref (b + 16), .ref (b + 17), .ref (b + 18), .ref (b + 19), .ref (b + 20), .ref (b + 21), .ref (b + 22), .ref (b + 23), .ref (b + 24), .ref (b + 25), .ref (b + 26), .ref (b + 27), .ref (b + 28), .ref (b + 29), .ref (b + 30)])) s.heap := hM 0 (by decide)
  refine lv_aload_n C.1 C.2.1 d_M_open_0 rfl (lv_at hl 0 rfl) ?_
  refine hq_get (v := .ref (b + 4)) C f_M_20 k0 rfl d_M_open_1 ?_
  refine lv_iload_n C.1 C.2.1 d_M_open_4 rfl (lv_at hl 1 rfl) ?_
  refine lv_iload_n C.1 C.2.1 d_M_open_5 rfl (lv_at hl 2 rfl) ?_
  have e41 : va_at D vwCl (b + 4, .inl (cI, 4, .inl (A 3))) _ := hM 4 (by decide)
  refine hq_iast (lo := lo) C 0 rfl e41 (vp_in_nI hj (by decide)) hL (by omega) d_M_open_6 (fun H42 locs u43 hL => ?_)
  rw [nI_clamp (show j < 2 ^ 31 by omega)] at u43
  have m44 := md_set (k := 3) (f := upd (A 3) j x) hM u43
  have k0 : va_at D vwCl (b, .inr (6, [.int (th), .int (nn), .ref (b + 1), .ref (b + 2), .ref (b + 3), .ref (b + 4), .ref (b + 5), .ref (b + 6), .ref (b + 7), .ref (b + 8), .ref (b + 9), .ref (b + 10), .ref (b + 11), .ref (b + 12), .ref (b + 13), .ref (b + 14), .ref (b + 15), .ref (b + 16), .ref (b + 17), .ref (b + 18), .ref (b + 19), .ref (b + 20), .ref (b + 21), .ref (b + 22), .ref (b + 23), .ref (b + 24), .ref (b + 25), .ref (b + 26), .ref (b + 27), .ref (b + 28), .ref (b + 29), .ref (b + 30)])) H42 := m44 0 (by decide)
  refine lv_aload_n C.1 C.2.1 d_M_open_7 rfl (lv_at hl 0 rfl) ?_
  refine hq_get (v := .ref (b + 29)) C f_M_95 k0 rfl d_M_open_8 ?_
  refine lv_iload_n C.1 C.2.1 d_M_open_11 rfl (lv_at hl 1 rfl) ?_
  refine lv_iload_n C.1 C.2.1 d_M_open_12 rfl (lv_at hl 2 rfl) ?_
  have e45 : va_at D vwCl (b + 29, .inl (cI, 4, .inl (A 28))) _ := m44 29 (by decide)
  refine hq_iast (lo := lo) C 0 rfl e45 (vp_in_nI hj (by decide)) hL (by omega) d_M_open_13 (fun H46 locs u47 hL => ?_)
  rw [nI_clamp (show j < 2 ^ 31 by omega)] at u47
  have m48 := md_set (k := 28) (f := upd (A 28) j x) m44 u47
  have k0 : va_at D vwCl (b, .inr (6, [.int (th), .int (nn), .ref (b + 1), .ref (b + 2), .ref (b + 3), .ref (b + 4), .ref (b + 5), .ref (b + 6), .ref (b + 7), .ref (b + 8), .ref (b + 9), .ref (b + 10), .ref (b + 11), .ref (b + 12), .ref (b + 13), .ref (b + 14), .ref (b + 15), .ref (b + 16), .ref (b + 17), .ref (b + 18), .ref (b + 19), .ref (b + 20), .ref (b + 21), .ref (b + 22), .ref (b + 23), .ref (b + 24), .ref (b + 25), .ref (b + 26), .ref (b + 27), .ref (b + 28), .ref (b + 29), .ref (b + 30)])) H46 := m48 0 (by decide)
  refine lv_aload_n C.1 C.2.1 d_M_open_14 rfl (lv_at hl 0 rfl) ?_
  refine hq_get (v := .ref (b + 17)) C f_M_59 k0 rfl d_M_open_15 ?_
  refine lv_iload_n C.1 C.2.1 d_M_open_18 rfl (lv_at hl 1 rfl) ?_
  refine lv_iconst (v := 0) C.1 C.2.1 d_M_open_19 (by decide) ?_
  have e49 : va_at D vwCl (b + 17, .inl (cI, 4, .inl (A 16))) _ := m48 17 (by decide)
  refine hq_iast (lo := lo) C 0 rfl e49 (vp_in_nI hj (by decide)) hL (by omega) d_M_open_20 (fun H50 locs u51 hL => ?_)
  rw [nI_clamp (show j < 2 ^ 31 by omega)] at u51
  have m52 := md_set (k := 16) (f := upd (A 16) j 0) m48 u51
  have k0 : va_at D vwCl (b, .inr (6, [.int (th), .int (nn), .ref (b + 1), .ref (b + 2), .ref (b + 3), .ref (b + 4), .ref (b + 5), .ref (b + 6), .ref (b + 7), .ref (b + 8), .ref (b + 9), .ref (b + 10), .ref (b + 11), .ref (b + 12), .ref (b + 13), .ref (b + 14), .ref (b + 15), .ref (b + 16), .ref (b + 17), .ref (b + 18), .ref (b + 19), .ref (b + 20), .ref (b + 21), .ref (b + 22), .ref (b + 23), .ref (b + 24), .ref (b + 25), .ref (b + 26), .ref (b + 27), .ref (b + 28), .ref (b + 29), .ref (b + 30)])) H50 := m52 0 (by decide)
  refine lv_aload_n C.1 C.2.1 d_M_open_21 rfl (lv_at hl 0 rfl) ?_
  refine hq_get (v := .ref (b + 18)) C f_M_62 k0 rfl d_M_open_22 ?_
  refine lv_iload_n C.1 C.2.1 d_M_open_25 rfl (lv_at hl 1 rfl) ?_
  refine lv_iconst (v := 0) C.1 C.2.1 d_M_open_26 (by decide) ?_
  have e53 : va_at D vwCl (b + 18, .inl (cI, 4, .inl (A 17))) _ := m52 18 (by decide)
  refine hq_iast (lo := lo) C 0 rfl e53 (vp_in_nI hj (by decide)) hL (by omega) d_M_open_27 (fun H54 locs u55 hL => ?_)
  rw [nI_clamp (show j < 2 ^ 31 by omega)] at u55
  have m56 := md_set (k := 17) (f := upd (A 17) j 0) m52 u55
  have k0 : va_at D vwCl (b, .inr (6, [.int (th), .int (nn), .ref (b + 1), .ref (b + 2), .ref (b + 3), .ref (b + 4), .ref (b + 5), .ref (b + 6), .ref (b + 7), .ref (b + 8), .ref (b + 9), .ref (b + 10), .ref (b + 11), .ref (b + 12), .ref (b + 13), .ref (b + 14), .ref (b + 15), .ref (b + 16), .ref (b + 17), .ref (b + 18), .ref (b + 19), .ref (b + 20), .ref (b + 21), .ref (b + 22), .ref (b + 23), .ref (b + 24), .ref (b + 25), .ref (b + 26), .ref (b + 27), .ref (b + 28), .ref (b + 29), .ref (b + 30)])) H54 := m56 0 (by decide)
  refine lv_aload_n C.1 C.2.1 d_M_open_28 rfl (lv_at hl 0 rfl) ?_
  refine hq_get (v := .ref (b + 19)) C f_M_65 k0 rfl d_M_open_29 ?_
  refine lv_iload_n C.1 C.2.1 d_M_open_32 rfl (lv_at hl 1 rfl) ?_
  refine lv_iconst (v := 0) C.1 C.2.1 d_M_open_33 (by decide) ?_
  have e57 : va_at D vwCl (b + 19, .inl (cI, 4, .inl (A 18))) _ := m56 19 (by decide)
  refine hq_iast (lo := lo) C 0 rfl e57 (vp_in_nI hj (by decide)) hL (by omega) d_M_open_34 (fun H58 locs u59 hL => ?_)
  rw [nI_clamp (show j < 2 ^ 31 by omega)] at u59
  have m60 := md_set (k := 18) (f := upd (A 18) j 0) m56 u59
  have k0 : va_at D vwCl (b, .inr (6, [.int (th), .int (nn), .ref (b + 1), .ref (b + 2), .ref (b + 3), .ref (b + 4), .ref (b + 5), .ref (b + 6), .ref (b + 7), .ref (b + 8), .ref (b + 9), .ref (b + 10), .ref (b + 11), .ref (b + 12), .ref (b + 13), .ref (b + 14), .ref (b + 15), .ref (b + 16), .ref (b + 17), .ref (b + 18), .ref (b + 19), .ref (b + 20), .ref (b + 21), .ref (b + 22), .ref (b + 23), .ref (b + 24), .ref (b + 25), .ref (b + 26), .ref (b + 27), .ref (b + 28), .ref (b + 29), .ref (b + 30)])) H58 := m60 0 (by decide)
  refine lv_aload_n C.1 C.2.1 d_M_open_35 rfl (lv_at hl 0 rfl) ?_
  refine hq_get (v := .ref (b + 20)) C f_M_68 k0 rfl d_M_open_36 ?_
  refine lv_iload_n C.1 C.2.1 d_M_open_39 rfl (lv_at hl 1 rfl) ?_
  refine lv_iconst (v := 0) C.1 C.2.1 d_M_open_40 (by decide) ?_
  have e61 : va_at D vwCl (b + 20, .inl (cI, 4, .inl (A 19))) _ := m60 20 (by decide)
  refine hq_iast (lo := lo) C 0 rfl e61 (vp_in_nI hj (by decide)) hL (by omega) d_M_open_41 (fun H62 locs u63 hL => ?_)
  rw [nI_clamp (show j < 2 ^ 31 by omega)] at u63
  have m64 := md_set (k := 19) (f := upd (A 19) j 0) m60 u63
  have k0 : va_at D vwCl (b, .inr (6, [.int (th), .int (nn), .ref (b + 1), .ref (b + 2), .ref (b + 3), .ref (b + 4), .ref (b + 5), .ref (b + 6), .ref (b + 7), .ref (b + 8), .ref (b + 9), .ref (b + 10), .ref (b + 11), .ref (b + 12), .ref (b + 13), .ref (b + 14), .ref (b + 15), .ref (b + 16), .ref (b + 17), .ref (b + 18), .ref (b + 19), .ref (b + 20), .ref (b + 21), .ref (b + 22), .ref (b + 23), .ref (b + 24), .ref (b + 25), .ref (b + 26), .ref (b + 27), .ref (b + 28), .ref (b + 29), .ref (b + 30)])) H62 := m64 0 (by decide)
  refine lv_aload_n C.1 C.2.1 d_M_open_42 rfl (lv_at hl 0 rfl) ?_
  refine hq_get (v := .ref (b + 21)) C f_M_71 k0 rfl d_M_open_43 ?_
  refine lv_iload_n C.1 C.2.1 d_M_open_46 rfl (lv_at hl 1 rfl) ?_
  refine lv_iconst (v := 0) C.1 C.2.1 d_M_open_47 (by decide) ?_
  have e65 : va_at D vwCl (b + 21, .inl (cI, 4, .inl (A 20))) _ := m64 21 (by decide)
  refine hq_iast (lo := lo) C 0 rfl e65 (vp_in_nI hj (by decide)) hL (by omega) d_M_open_48 (fun H66 locs u67 hL => ?_)
  rw [nI_clamp (show j < 2 ^ 31 by omega)] at u67
  have m68 := md_set (k := 20) (f := upd (A 20) j 0) m64 u67
  have k0 : va_at D vwCl (b, .inr (6, [.int (th), .int (nn), .ref (b + 1), .ref (b + 2), .ref (b + 3), .ref (b + 4), .ref (b + 5), .ref (b + 6), .ref (b + 7), .ref (b + 8), .ref (b + 9), .ref (b + 10), .ref (b + 11), .ref (b + 12), .ref (b + 13), .ref (b + 14), .ref (b + 15), .ref (b + 16), .ref (b + 17), .ref (b + 18), .ref (b + 19), .ref (b + 20), .ref (b + 21), .ref (b + 22), .ref (b + 23), .ref (b + 24), .ref (b + 25), .ref (b + 26), .ref (b + 27), .ref (b + 28), .ref (b + 29), .ref (b + 30)])) H66 := m68 0 (by decide)
  refine lv_aload_n C.1 C.2.1 d_M_open_49 rfl (lv_at hl 0 rfl) ?_
  refine hq_get (v := .ref (b + 22)) C f_M_74 k0 rfl d_M_open_50 ?_
  refine lv_iload_n C.1 C.2.1 d_M_open_53 rfl (lv_at hl 1 rfl) ?_
  refine lv_iconst (v := 0) C.1 C.2.1 d_M_open_54 (by decide) ?_
  have e69 : va_at D vwCl (b + 22, .inl (cI, 4, .inl (A 21))) _ := m68 22 (by decide)
  refine hq_iast (lo := lo) C 0 rfl e69 (vp_in_nI hj (by decide)) hL (by omega) d_M_open_55 (fun H70 locs u71 hL => ?_)
  rw [nI_clamp (show j < 2 ^ 31 by omega)] at u71
  have m72 := md_set (k := 21) (f := upd (A 21) j 0) m68 u71
  have k0 : va_at D vwCl (b, .inr (6, [.int (th), .int (nn), .ref (b + 1), .ref (b + 2), .ref (b + 3), .ref (b + 4), .ref (b + 5), .ref (b + 6), .ref (b + 7), .ref (b + 8), .ref (b + 9), .ref (b + 10), .ref (b + 11), .ref (b + 12), .ref (b + 13), .ref (b + 14), .ref (b + 15), .ref (b + 16), .ref (b + 17), .ref (b + 18), .ref (b + 19), .ref (b + 20), .ref (b + 21), .ref (b + 22), .ref (b + 23), .ref (b + 24), .ref (b + 25), .ref (b + 26), .ref (b + 27), .ref (b + 28), .ref (b + 29), .ref (b + 30)])) H70 := m72 0 (by decide)
  refine lv_aload_n C.1 C.2.1 d_M_open_56 rfl (lv_at hl 0 rfl) ?_
  refine hq_get (v := .ref (b + 23)) C f_M_77 k0 rfl d_M_open_57 ?_
  refine lv_iload_n C.1 C.2.1 d_M_open_60 rfl (lv_at hl 1 rfl) ?_
  refine lv_iconst (v := 0) C.1 C.2.1 d_M_open_61 (by decide) ?_
  have e73 : va_at D vwCl (b + 23, .inl (cI, 4, .inl (A 22))) _ := m72 23 (by decide)
  refine hq_iast (lo := lo) C 0 rfl e73 (vp_in_nI hj (by decide)) hL (by omega) d_M_open_62 (fun H74 locs u75 hL => ?_)
  rw [nI_clamp (show j < 2 ^ 31 by omega)] at u75
  have m76 := md_set (k := 22) (f := upd (A 22) j 0) m72 u75
  have k0 : va_at D vwCl (b, .inr (6, [.int (th), .int (nn), .ref (b + 1), .ref (b + 2), .ref (b + 3), .ref (b + 4), .ref (b + 5), .ref (b + 6), .ref (b + 7), .ref (b + 8), .ref (b + 9), .ref (b + 10), .ref (b + 11), .ref (b + 12), .ref (b + 13), .ref (b + 14), .ref (b + 15), .ref (b + 16), .ref (b + 17), .ref (b + 18), .ref (b + 19), .ref (b + 20), .ref (b + 21), .ref (b + 22), .ref (b + 23), .ref (b + 24), .ref (b + 25), .ref (b + 26), .ref (b + 27), .ref (b + 28), .ref (b + 29), .ref (b + 30)])) H74 := m76 0 (by decide)
  refine lv_aload_n C.1 C.2.1 d_M_open_63 rfl (lv_at hl 0 rfl) ?_
  refine hq_get (v := .ref (b + 24)) C f_M_80 k0 rfl d_M_open_64 ?_
  refine lv_iload_n C.1 C.2.1 d_M_open_67 rfl (lv_at hl 1 rfl) ?_
  refine lv_iconst (v := 0) C.1 C.2.1 d_M_open_68 (by decide) ?_
  have e77 : va_at D vwCl (b + 24, .inl (cI, 4, .inl (A 23))) _ := m76 24 (by decide)
  refine hq_iast (lo := lo) C 0 rfl e77 (vp_in_nI hj (by decide)) hL (by omega) d_M_open_69 (fun H78 locs u79 hL => ?_)
  rw [nI_clamp (show j < 2 ^ 31 by omega)] at u79
  have m80 := md_set (k := 23) (f := upd (A 23) j 0) m76 u79
  have k0 : va_at D vwCl (b, .inr (6, [.int (th), .int (nn), .ref (b + 1), .ref (b + 2), .ref (b + 3), .ref (b + 4), .ref (b + 5), .ref (b + 6), .ref (b + 7), .ref (b + 8), .ref (b + 9), .ref (b + 10), .ref (b + 11), .ref (b + 12), .ref (b + 13), .ref (b + 14), .ref (b + 15), .ref (b + 16), .ref (b + 17), .ref (b + 18), .ref (b + 19), .ref (b + 20), .ref (b + 21), .ref (b + 22), .ref (b + 23), .ref (b + 24), .ref (b + 25), .ref (b + 26), .ref (b + 27), .ref (b + 28), .ref (b + 29), .ref (b + 30)])) H78 := m80 0 (by decide)
  have hf : f_M_open A j x = (setA (setA (setA (setA (setA (setA (setA (setA (setA (setA A 3 (upd (A 3) j x)) 28 (upd (A 28) j x)) 16 (upd (A 16) j 0)) 17 (upd (A 17) j 0)) 18 (upd (A 18) j 0)) 19 (upd (A 19) j 0)) 20 (upd (A 20) j 0)) 21 (upd (A 21) j 0)) 22 (upd (A 22) j 0)) 23 (upd (A 23) j 0)) := rfl
  exact hq_vret C hret hlk (Nat.le_of_ble_eq_true rfl) (Nat.le_of_ble_eq_true rfl) hL ⟨rfl, by rw [hf]; exact m80, hq_Sput (hq_Sput (hq_Sput (hq_Sput (hq_Sput (hq_Sput (hq_Sput (hq_Sput (hq_Sput (hq_Sput (hq_S0) u43 (by omega) (by omega)) u47 (by omega) (by omega)) u51 (by omega) (by omega)) u55 (by omega) (by omega)) u59 (by omega) (by omega)) u63 (by omega) (by omega)) u67 (by omega) (by omega)) u71 (by omega) (by omega)) u75 (by omega) (by omega)) u79 (by omega) (by omega)⟩ d_M_open_70
def f_M_goesOff (A : Nat → Nat → Int32) (j : Nat) : (Nat → Nat → Int32) × Int32 := if 256 ≤ (A 4 j) then (((setA (setA (setA (setA A 3 (upd (A 3) j 7)) 9 (upd (A 9) j 0)) 27 (upd (A 27) j 0)) 26 (upd (A 26) j 0)), 1)) else ((A, 0))
set_option maxHeartbeats 4000000 in
set_option maxRecDepth 100000 in
theorem c_M_goesOff (l : Launch) (D : va_G) (cI cZ cN cJ : ClassId) (lo : Nat) (b : Nat) (hlo : lo ≤ b) (th nn : Int32) (A : Nat → Nat → Int32) (j : Nat) (hj : j < 4) : hq_M l y_M_goesOff b_M_goesOff 2 (some .boolean) TB { frames := 0, cells := 0, slots := 0, locals := 0 } lo D vwCl (TY cI cZ cN cJ) [.ref (b), .int (nI j)] (fun U => hq_B D vwCl b 31 (mdC cI cZ b th nn A) U.heap) (fun H v H' => v = some (.int (f_M_goesOff A j).2) ∧ hq_B D vwCl b 31 (mdC cI cZ b th nn (f_M_goesOff A j).1) H' ∧ hq_S b 31 H H') := by
  refine hq_ofW (by decide) (Nat.le_of_ble_eq_true rfl) ?_
  intro p e s m below meth c ls C hml hret hlk hnm hl hP
  have hL : hq_L lo [] := hq_L0
  have hl : lv_has ls 2 [(0, .ref (b)), (1, .int (nI j))] := hl
  have hM : hq_B D vwCl b 31 (mdC cI cZ b th nn A) s.heap := hP
  have k0 : va_at D vwCl (b, .inr (6, [.int (th), .int (nn), .ref (b + 1), .ref (b + 2), .ref (b + 3), .ref (b + 4), .ref (b + 5), .ref (b + 6), .ref (b + 7), .ref (b + 8), .ref (b + 9), .ref (b + 10), .ref (b + 11), .ref (b + 12), .ref (b + 13), .ref (b + 14), .ref (b + 15), .ref (b + 16), .ref (b + 17), .ref (b + 18), .ref (b + 19), .ref (b + 20), .ref (b + 21), .ref (b + 22), .ref (b + 23), .ref (b + 24), .ref (b + 25), .ref (b + 26), .ref (b + 27), .ref (b + 28), .ref (b + 29), .ref (b + 30)])) s.heap := hM 0 (by decide)
  refine lv_aload_n C.1 C.2.1 d_M_goesOff_0 rfl (lv_at hl 0 rfl) ?_
  refine hq_get (v := .ref (b + 5)) C f_M_23 k0 rfl d_M_goesOff_1 ?_
  refine lv_iload_n C.1 C.2.1 d_M_goesOff_4 rfl (lv_at hl 1 rfl) ?_
  have e41 : va_at D vwCl (b + 5, .inl (cI, 4, .inl (A 4))) _ := hM 5 (by decide)
  refine hq_iald C 0 rfl e41 (vp_in_nI hj (by decide)) d_M_goesOff_5 ?_
  rw [nI_clamp (show j < 2 ^ 31 by omega)]
  refine W.eq (g2 := F0 m 6 ls [.int (A 4 j)]) rfl ?_
  refine lv_sipush (v := 256) C.1 C.2.1 d_M_goesOff_6 (by decide) ?_
  refine lv_icmp_ge (tgt := 14) C.1 C.2.1 d_M_goesOff_9 (by decide) ?_ ?_
  · intro c42
    refine lv_aload_n C.1 C.2.1 d_M_goesOff_14 rfl (lv_at hl 0 rfl) ?_
    refine hq_get (v := .ref (b + 4)) C f_M_20 k0 rfl d_M_goesOff_15 ?_
    refine lv_iload_n C.1 C.2.1 d_M_goesOff_18 rfl (lv_at hl 1 rfl) ?_
    refine lv_bipush (v := 7) C.1 C.2.1 d_M_goesOff_19 (by decide) ?_
    have e43 : va_at D vwCl (b + 4, .inl (cI, 4, .inl (A 3))) _ := hM 4 (by decide)
    refine hq_iast (lo := lo) C 0 rfl e43 (vp_in_nI hj (by decide)) hL (by omega) d_M_goesOff_21 (fun H44 locs u45 hL => ?_)
    rw [nI_clamp (show j < 2 ^ 31 by omega)] at u45
    have m46 := md_set (k := 3) (f := upd (A 3) j 7) hM u45
    have k0 : va_at D vwCl (b, .inr (6, [.int (th), .int (nn), .ref (b + 1), .ref (b + 2), .ref (b + 3), .ref (b + 4), .ref (b + 5), .ref (b + 6), .ref (b + 7), .ref (b + 8), .ref (b + 9), .ref (b + 10), .ref (b + 11), .ref (b + 12), .ref (b + 13), .ref (b + 14), .ref (b + 15), .ref (b + 16), .ref (b + 17), .ref (b + 18), .ref (b + 19), .ref (b + 20), .ref (b + 21), .ref (b + 22), .ref (b + 23), .ref (b + 24), .ref (b + 25), .ref (b + 26), .ref (b + 27), .ref (b + 28), .ref (b + 29), .ref (b + 30)])) H44 := m46 0 (by decide)
    refine lv_aload_n C.1 C.2.1 d_M_goesOff_22 rfl (lv_at hl 0 rfl) ?_
    refine hq_get (v := .ref (b + 10)) C f_M_38 k0 rfl d_M_goesOff_23 ?_
    refine lv_iload_n C.1 C.2.1 d_M_goesOff_26 rfl (lv_at hl 1 rfl) ?_
    refine lv_iconst (v := 0) C.1 C.2.1 d_M_goesOff_27 (by decide) ?_
    have e47 : va_at D vwCl (b + 10, .inl (cI, 4, .inl (A 9))) _ := m46 10 (by decide)
    refine hq_iast (lo := lo) C 0 rfl e47 (vp_in_nI hj (by decide)) hL (by omega) d_M_goesOff_28 (fun H48 locs u49 hL => ?_)
    rw [nI_clamp (show j < 2 ^ 31 by omega)] at u49
    have m50 := md_set (k := 9) (f := upd (A 9) j 0) m46 u49
    have k0 : va_at D vwCl (b, .inr (6, [.int (th), .int (nn), .ref (b + 1), .ref (b + 2), .ref (b + 3), .ref (b + 4), .ref (b + 5), .ref (b + 6), .ref (b + 7), .ref (b + 8), .ref (b + 9), .ref (b + 10), .ref (b + 11), .ref (b + 12), .ref (b + 13), .ref (b + 14), .ref (b + 15), .ref (b + 16), .ref (b + 17), .ref (b + 18), .ref (b + 19), .ref (b + 20), .ref (b + 21), .ref (b + 22), .ref (b + 23), .ref (b + 24), .ref (b + 25), .ref (b + 26), .ref (b + 27), .ref (b + 28), .ref (b + 29), .ref (b + 30)])) H48 := m50 0 (by decide)
    refine lv_aload_n C.1 C.2.1 d_M_goesOff_29 rfl (lv_at hl 0 rfl) ?_
    refine hq_get (v := .ref (b + 28)) C f_M_92 k0 rfl d_M_goesOff_30 ?_
    refine lv_iload_n C.1 C.2.1 d_M_goesOff_33 rfl (lv_at hl 1 rfl) ?_
    refine lv_iconst (v := 0) C.1 C.2.1 d_M_goesOff_34 (by decide) ?_
    have e51 : va_at D vwCl (b + 28, .inl (cI, 4, .inl (A 27))) _ := m50 28 (by decide)
    refine hq_iast (lo := lo) C 0 rfl e51 (vp_in_nI hj (by decide)) hL (by omega) d_M_goesOff_35 (fun H52 locs u53 hL => ?_)
    rw [nI_clamp (show j < 2 ^ 31 by omega)] at u53
    have m54 := md_set (k := 27) (f := upd (A 27) j 0) m50 u53
    have k0 : va_at D vwCl (b, .inr (6, [.int (th), .int (nn), .ref (b + 1), .ref (b + 2), .ref (b + 3), .ref (b + 4), .ref (b + 5), .ref (b + 6), .ref (b + 7), .ref (b + 8), .ref (b + 9), .ref (b + 10), .ref (b + 11), .ref (b + 12), .ref (b + 13), .ref (b + 14), .ref (b + 15), .ref (b + 16), .ref (b + 17), .ref (b + 18), .ref (b + 19), .ref (b + 20), .ref (b + 21), .ref (b + 22), .ref (b + 23), .ref (b + 24), .ref (b + 25), .ref (b + 26), .ref (b + 27), .ref (b + 28), .ref (b + 29), .ref (b + 30)])) H52 := m54 0 (by decide)
    refine lv_aload_n C.1 C.2.1 d_M_goesOff_36 rfl (lv_at hl 0 rfl) ?_
    refine hq_get (v := .ref (b + 27)) C f_M_89 k0 rfl d_M_goesOff_37 ?_
    refine lv_iload_n C.1 C.2.1 d_M_goesOff_40 rfl (lv_at hl 1 rfl) ?_
    refine lv_iconst (v := 0) C.1 C.2.1 d_M_goesOff_41 (by decide) ?_
    have e55 : va_at D vwCl (b + 27, .inl (cI, 4, .inl (A 26))) _ := m54 27 (by decide)
    refine hq_iast (lo := lo) C 0 rfl e55 (vp_in_nI hj (by decide)) hL (by omega) d_M_goesOff_42 (fun H56 locs u57 hL => ?_)
    rw [nI_clamp (show j < 2 ^ 31 by omega)] at u57
    have m58 := md_set (k := 26) (f := upd (A 26) j 0) m54 u57
    have k0 : va_at D vwCl (b, .inr (6, [.int (th), .int (nn), .ref (b + 1), .ref (b + 2), .ref (b + 3), .ref (b + 4), .ref (b + 5), .ref (b + 6), .ref (b + 7), .ref (b + 8), .ref (b + 9), .ref (b + 10), .ref (b + 11), .ref (b + 12), .ref (b + 13), .ref (b + 14), .ref (b + 15), .ref (b + 16), .ref (b + 17), .ref (b + 18), .ref (b + 19), .ref (b + 20), .ref (b + 21), .ref (b + 22), .ref (b + 23), .ref (b + 24), .ref (b + 25), .ref (b + 26), .ref (b + 27), .ref (b + 28), .ref (b + 29), .ref (b + 30)])) H56 := m58 0 (by decide)
    refine lv_iconst (v := 1) C.1 C.2.1 d_M_goesOff_43 (by decide) ?_
    have hf : f_M_goesOff A j = ((setA (setA (setA (setA A 3 (upd (A 3) j 7)) 9 (upd (A 9) j 0)) 27 (upd (A 27) j 0)) 26 (upd (A 26) j 0)), 1) := by unfold f_M_goesOff; rw [if_pos c42]
    exact hq_zret C hret hlk (by decide) (Nat.le_of_ble_eq_true rfl) (Nat.le_of_ble_eq_true rfl) hL ⟨by rw [hf], by rw [hf]; exact m58, hq_Sput (hq_Sput (hq_Sput (hq_Sput (hq_S0) u45 (by omega) (by omega)) u49 (by omega) (by omega)) u53 (by omega) (by omega)) u57 (by omega) (by omega)⟩ d_M_goesOff_44
  · intro c42
    refine lv_iconst (v := 0) C.1 C.2.1 d_M_goesOff_12 (by decide) ?_
    have hf : f_M_goesOff A j = (A, 0) := by unfold f_M_goesOff; rw [if_neg c42]
    exact hq_zret C hret hlk (by decide) (Nat.le_of_ble_eq_true rfl) (Nat.le_of_ble_eq_true rfl) hL ⟨by rw [hf], by rw [hf]; exact hM, hq_S0⟩ d_M_goesOff_13
