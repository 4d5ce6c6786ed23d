/-! The reference's methods on a new object. -/
def nno (n : Nat) (v : Int32) : Int32 := if v < 0 then 1 else if v < nI n then 0 else 1
theorem nno_bad {n : Nat} {v : Int32} (h : v < 0 ∨ ¬ v < nI n) : nno n v = 1 := by
  unfold nno
  by_cases h0 : v < 0
  · rw [if_pos h0]
  · rw [if_neg h0, if_neg (h.resolve_left h0)]
theorem nno_ok {n j : Nat} (hn : n ≤ 4) (hj : j < n) : nno n (nI j) = 0 := by
  unfold nno
  rw [if_neg (nI_pos (by omega)), if_pos (nI_lt hj (by omega))]
theorem el_iff {a : Int32} : ¬ el a = 0 ↔ ¬ a < 0 ∧ ¬ (2047 : Int32) < a := by
  unfold el
  by_cases h0 : a < 0
  · rw [if_pos h0]; exact ⟨fun h => absurd rfl h, fun h => absurd h0 h.1⟩
  · rw [if_neg h0]
    by_cases h1 : (2047 : Int32) < a
    · rw [if_pos h1]; exact ⟨fun h => absurd rfl h, fun h => absurd h1 h.2⟩
    · rw [if_neg h1]; exact ⟨fun _ => ⟨h0, h1⟩, fun _ => by decide⟩
set_option maxHeartbeats 4000000 in
set_option maxRecDepth 100000 in
theorem c_thrown (l : Launch) (D : va_G) (cI cZ cN cJ : ClassId) (lo : Nat) (b n : Nat) (th : Int32) : hq_M l y_M_thrown b_M_thrown 1 (some .int) TB { frames := 0, cells := 0, slots := 0, locals := 0 } lo D vwCl (TY cI cZ cN cJ) [.ref (b)] (fun U => va_at D vwCl (b, .inr (6, [.int (th), .int (nI n), .ref (b + 1), .ref (b + 2), .ref (b + 3), .ref (b + 4), .ref (b + 5), .ref (b + 6), .ref (b + 7), .ref (b + 8), .ref (b + 9), .ref (b + 10), .ref (b + 11), .ref (b + 12), .ref (b + 13), .ref (b + 14), .ref (b + 15), .ref (b + 16), .ref (b + 17), .ref (b + 18), .ref (b + 19), .ref (b + 20), .ref (b + 21), .ref (b + 22), .ref (b + 23), .ref (b + 24), .ref (b + 25), .ref (b + 26), .ref (b + 27), .ref (b + 28), .ref (b + 29), .ref (b + 30)])) U.heap) (fun H v H' => v = some (.int th) ∧ H' = H) := by
  refine hq_ofW (by decide) (Nat.le_of_ble_eq_true rfl) ?_
  intro p e s m below meth c ls C hml hret hlk hnm hl hP
  have hL : hq_L lo [] := hq_L0
  have hl : lv_has ls 1 [(0, .ref (b))] := hl
  have e0 := hP
  refine lv_aload_n C.1 C.2.1 d_M_thrown_0 rfl (lv_at hl 0 rfl) ?_
  refine hq_get (v := .int (th)) C f_M_105 e0 rfl d_M_thrown_1 ?_
  exact hq_iret C hret hlk (Nat.le_of_ble_eq_true rfl) (Nat.le_of_ble_eq_true rfl) hL ⟨rfl, rfl⟩ d_M_thrown_4
set_option maxHeartbeats 4000000 in
set_option maxRecDepth 100000 in
theorem c_noNode (l : Launch) (D : va_G) (cI cZ cN cJ : ClassId) (lo : Nat) (b n : Nat) (th v : Int32) : hq_M l y_M_noNode b_M_noNode 2 (some .boolean) TB { frames := 0, cells := 0, slots := 0, locals := 0 } lo D vwCl (TY cI cZ cN cJ) [.ref (b), .int (v)] (fun U => va_at D vwCl (b, .inr (6, [.int (th), .int (nI n), .ref (b + 1), .ref (b + 2), .ref (b + 3), .ref (b + 4), .ref (b + 5), .ref (b + 6), .ref (b + 7), .ref (b + 8), .ref (b + 9), .ref (b + 10), .ref (b + 11), .ref (b + 12), .ref (b + 13), .ref (b + 14), .ref (b + 15), .ref (b + 16), .ref (b + 17), .ref (b + 18), .ref (b + 19), .ref (b + 20), .ref (b + 21), .ref (b + 22), .ref (b + 23), .ref (b + 24), .ref (b + 25), .ref (b + 26), .ref (b + 27), .ref (b + 28), .ref (b + 29), .ref (b + 30)])) U.heap) (fun H v9 H' => v9 = some (.int (nno n v)) ∧ H' = H) := by
  refine hq_ofW (by decide) (Nat.le_of_ble_eq_true rfl) ?_
  intro p e s m below meth c ls C hml hret hlk hnm hl hP
  have hL : hq_L lo [] := hq_L0
  have hl : lv_has ls 2 [(0, .ref (b)), (1, .int (v))] := hl
  have e0 := hP
  refine lv_iload_n C.1 C.2.1 d_M_noNode_0 rfl (lv_at hl 1 rfl) ?_
  refine lv_if_lt (tgt := 12) C.1 C.2.1 d_M_noNode_1 (by decide) ?_ ?_
  · intro c0
    refine lv_iconst (v := 1) C.1 C.2.1 d_M_noNode_12 (by decide) ?_
    refine lv_goto (tgt := 17) C.1 C.2.1 d_M_noNode_13 (by decide) ?_
    exact hq_zret C hret hlk (by decide) (Nat.le_of_ble_eq_true rfl) (Nat.le_of_ble_eq_true rfl) hL ⟨by unfold nno; rw [if_pos c0], rfl⟩ d_M_noNode_17
  · intro c0
    refine lv_iload_n C.1 C.2.1 d_M_noNode_4 rfl (lv_at hl 1 rfl) ?_
    refine lv_aload_n C.1 C.2.1 d_M_noNode_5 rfl (lv_at hl 0 rfl) ?_
    refine hq_get (v := .int (nI n)) C f_M_101 e0 rfl d_M_noNode_6 ?_
    refine lv_icmp_lt (tgt := 16) C.1 C.2.1 d_M_noNode_9 (by decide) ?_ ?_
    · intro c1
      refine lv_iconst (v := 0) C.1 C.2.1 d_M_noNode_16 (by decide) ?_
      exact hq_zret C hret hlk (by decide) (Nat.le_of_ble_eq_true rfl) (Nat.le_of_ble_eq_true rfl) hL ⟨by unfold nno; rw [if_neg c0, if_pos c1], rfl⟩ d_M_noNode_17
    · intro c1
      refine lv_iconst (v := 1) C.1 C.2.1 d_M_noNode_12 (by decide) ?_
      refine lv_goto (tgt := 17) C.1 C.2.1 d_M_noNode_13 (by decide) ?_
      exact hq_zret C hret hlk (by decide) (Nat.le_of_ble_eq_true rfl) (Nat.le_of_ble_eq_true rfl) hL ⟨by unfold nno; rw [if_neg c0, if_neg c1], rfl⟩ d_M_noNode_17
set_option maxHeartbeats 4000000 in
set_option maxRecDepth 100000 in
theorem m_request_n (l : Launch) (D : va_G) (cI cZ cN cJ : ClassId) (lo : Nat) (b n : Nat) (th : Int32) (hlo : lo ≤ b) (v a g d : Int32) (hb : v < 0 ∨ ¬ v < nI n) : hq_M l y_M_request b_M_request 7 (some .int) TB { frames := 2, cells := 0, slots := 0, locals := 60 } lo D vwCl (TY cI cZ cN cJ) [.ref (b), .int (v), .int (a), .int (g), .int (d)] (fun U => hq_B D vwCl b 31 (mdC cI cZ b th (nI n) (fun _ _ => 0)) U.heap) (fun H v9 H' => v9 = some (.int 0) ∧ va_at D vwCl (b, .inr (6, [.int (1), .int (nI n), .ref (b + 1), .ref (b + 2), .ref (b + 3), .ref (b + 4), .ref (b + 5), .ref (b + 6), .ref (b + 7), .ref (b + 8), .ref (b + 9), .ref (b + 10), .ref (b + 11), .ref (b + 12), .ref (b + 13), .ref (b + 14), .ref (b + 15), .ref (b + 16), .ref (b + 17), .ref (b + 18), .ref (b + 19), .ref (b + 20), .ref (b + 21), .ref (b + 22), .ref (b + 23), .ref (b + 24), .ref (b + 25), .ref (b + 26), .ref (b + 27), .ref (b + 28), .ref (b + 29), .ref (b + 30)])) H' ∧ hq_S b 31 H H') := by
  refine hq_ofW (by decide) (Nat.le_of_ble_eq_true rfl) ?_
  intro p e s m below meth c ls C hml hret hlk hnm hl hP
  have hL : hq_L lo [] := hq_L0
  have hl : lv_has ls 7 [(0, .ref (b)), (1, .int (v)), (2, .int (a)), (3, .int (g)), (4, .int (d))] := hl
  have e0 : va_at D vwCl (b, .inr (6, [.int (th), .int (nI n), .ref (b + 1), .ref (b + 2), .ref (b + 3), .ref (b + 4), .ref (b + 5), .ref (b + 6), .ref (b + 7), .ref (b + 8), .ref (b + 9), .ref (b + 10), .ref (b + 11), .ref (b + 12), .ref (b + 13), .ref (b + 14), .ref (b + 15), .ref (b + 16), .ref (b + 17), .ref (b + 18), .ref (b + 19), .ref (b + 20), .ref (b + 21), .ref (b + 22), .ref (b + 23), .ref (b + 24), .ref (b + 25), .ref (b + 26), .ref (b + 27), .ref (b + 28), .ref (b + 29), .ref (b + 30)])) s.heap := hP 0 (by decide)
  refine lv_aload_n C.1 C.2.1 d_M_request_0 rfl (lv_at hl 0 rfl) ?_
  refine lv_iload_n C.1 C.2.1 d_M_request_1 rfl (lv_at hl 1 rfl) ?_
  refine hq_callV (lo := lo) (As := [.int (v)]) (rest := []) C tb_good hml Y_M_108 (c_noNode l D cI cZ cN cJ lo b n th v) e0 rfl (fun _ _ _ _ h => h) (fun U hU hW => by show va_at D vwCl (b, .inr (6, [.int (th), .int (nI n), .ref (b + 1), .ref (b + 2), .ref (b + 3), .ref (b + 4), .ref (b + 5), .ref (b + 6), .ref (b + 7), .ref (b + 8), .ref (b + 9), .ref (b + 10), .ref (b + 11), .ref (b + 12), .ref (b + 13), .ref (b + 14), .ref (b + 15), .ref (b + 16), .ref (b + 17), .ref (b + 18), .ref (b + 19), .ref (b + 20), .ref (b + 21), .ref (b + 22), .ref (b + 23), .ref (b + 24), .ref (b + 25), .ref (b + 26), .ref (b + 27), .ref (b + 28), .ref (b + 29), .ref (b + 30)])) U.heap; rw [hU]; exact e0) hL hl.1 rfl rfl ⟨⟨Nat.le_of_ble_eq_true rfl, Nat.le_of_ble_eq_true rfl⟩, Nat.le_of_ble_eq_true rfl, Nat.le_of_ble_eq_true rfl⟩ (Nat.le_of_ble_eq_true rfl) d_M_request_2 (fun v H41 locs hp hL => ?_)
  obtain ⟨rfl, rfl⟩ := hp
  refine W.eq (g2 := F0 m 5 ls [.int (nno n v)]) rfl ?_
  rw [nno_bad hb]
  refine lv_if_ne (tgt := 44) C.1 C.2.1 d_M_request_5 (by decide) (fun _ => ?_) (fun hn => absurd hn (by decide))
  refine lv_iconst (v := 1) C.1 C.2.1 d_M_request_44 (by decide) ?_
  refine lv_goto (tgt := 49) C.1 C.2.1 d_M_request_45 (by decide) ?_
  refine lv_istore C.1 C.2.1 d_M_request_49 hl (by decide) rfl (lv' := [(5, .int (1)), (0, .ref (b)), (1, .int (v)), (2, .int (a)), (3, .int (g)), (4, .int (d))]) (fun ls hl => ?_)
  refine lv_aload_n C.1 C.2.1 d_M_request_51 rfl (lv_at hl 1 rfl) ?_
  refine lv_iload C.1 C.2.1 d_M_request_52 (lv_at hl 0 rfl) ?_
  refine lv_if_eq (tgt := 61) C.1 C.2.1 d_M_request_54 (by decide) (fun hn => absurd hn (by decide)) (fun _ => ?_)
  refine lv_iconst (v := 1) C.1 C.2.1 d_M_request_57 (by decide) ?_
  refine lv_goto (tgt := 87) C.1 C.2.1 d_M_request_58 (by decide) ?_
  refine hq_put (lo := lo) C f_M_105 e0 rfl rfl (Nat.le_of_ble_eq_true rfl) hL (by omega) d_M_request_87 (fun H42 locs u43 hL => ?_)
  have k44 : va_at D vwCl (b, .inr (6, [.int (1), .int (nI n), .ref (b + 1), .ref (b + 2), .ref (b + 3), .ref (b + 4), .ref (b + 5), .ref (b + 6), .ref (b + 7), .ref (b + 8), .ref (b + 9), .ref (b + 10), .ref (b + 11), .ref (b + 12), .ref (b + 13), .ref (b + 14), .ref (b + 15), .ref (b + 16), .ref (b + 17), .ref (b + 18), .ref (b + 19), .ref (b + 20), .ref (b + 21), .ref (b + 22), .ref (b + 23), .ref (b + 24), .ref (b + 25), .ref (b + 26), .ref (b + 27), .ref (b + 28), .ref (b + 29), .ref (b + 30)])) H42 := u43.2.2
  refine lv_aload_n C.1 C.2.1 d_M_request_90 rfl (lv_at hl 1 rfl) ?_
  refine hq_get (v := .int (1)) C f_M_105 k44 rfl d_M_request_91 ?_
  refine lv_if_eq (tgt := 99) C.1 C.2.1 d_M_request_94 (by decide) (fun hn => absurd hn (by decide)) (fun _ => ?_)
  refine lv_iconst (v := 0) C.1 C.2.1 d_M_request_97 (by decide) ?_
  exact hq_iret C hret hlk (Nat.le_of_ble_eq_true rfl) (Nat.le_of_ble_eq_true rfl) hL ⟨rfl, k44, hq_Sput hq_S0 u43 (by omega) (by omega)⟩ d_M_request_98
set_option maxHeartbeats 4000000 in
set_option maxRecDepth 100000 in
theorem m_filter_n (l : Launch) (D : va_G) (cI cZ cN cJ : ClassId) (lo : Nat) (b n : Nat) (th : Int32) (hlo : lo ≤ b) (v a g : Int32) (hb : v < 0 ∨ ¬ v < nI n) : hq_M l y_M_filter b_M_filter 4 none TB { frames := 2, cells := 0, slots := 0, locals := 60 } lo D vwCl (TY cI cZ cN cJ) [.ref (b), .int (v), .int (a), .int (g)] (fun U => hq_B D vwCl b 31 (mdC cI cZ b th (nI n) (fun _ _ => 0)) U.heap) (fun H v9 H' => v9 = none ∧ va_at D vwCl (b, .inr (6, [.int (1), .int (nI n), .ref (b + 1), .ref (b + 2), .ref (b + 3), .ref (b + 4), .ref (b + 5), .ref (b + 6), .ref (b + 7), .ref (b + 8), .ref (b + 9), .ref (b + 10), .ref (b + 11), .ref (b + 12), .ref (b + 13), .ref (b + 14), .ref (b + 15), .ref (b + 16), .ref (b + 17), .ref (b + 18), .ref (b + 19), .ref (b + 20), .ref (b + 21), .ref (b + 22), .ref (b + 23), .ref (b + 24), .ref (b + 25), .ref (b + 26), .ref (b + 27), .ref (b + 28), .ref (b + 29), .ref (b + 30)])) H' ∧ hq_S b 31 H H') := by
  refine hq_ofW (by decide) (Nat.le_of_ble_eq_true rfl) ?_
  intro p e s m below meth c ls C hml hret hlk hnm hl hP
  have hL : hq_L lo [] := hq_L0
  have hl : lv_has ls 4 [(0, .ref (b)), (1, .int (v)), (2, .int (a)), (3, .int (g))] := hl
  have e0 : va_at D vwCl (b, .inr (6, [.int (th), .int (nI n), .ref (b + 1), .ref (b + 2), .ref (b + 3), .ref (b + 4), .ref (b + 5), .ref (b + 6), .ref (b + 7), .ref (b + 8), .ref (b + 9), .ref (b + 10), .ref (b + 11), .ref (b + 12), .ref (b + 13), .ref (b + 14), .ref (b + 15), .ref (b + 16), .ref (b + 17), .ref (b + 18), .ref (b + 19), .ref (b + 20), .ref (b + 21), .ref (b + 22), .ref (b + 23), .ref (b + 24), .ref (b + 25), .ref (b + 26), .ref (b + 27), .ref (b + 28), .ref (b + 29), .ref (b + 30)])) s.heap := hP 0 (by decide)
  refine lv_aload_n C.1 C.2.1 d_M_filter_0 rfl (lv_at hl 0 rfl) ?_
  refine lv_aload_n C.1 C.2.1 d_M_filter_1 rfl (lv_at hl 0 rfl) ?_
  refine lv_iload_n C.1 C.2.1 d_M_filter_2 rfl (lv_at hl 1 rfl) ?_
  refine hq_callV (lo := lo) (As := [.int (v)]) (rest := [.ref (b)]) C tb_good hml Y_M_108 (c_noNode l D cI cZ cN cJ lo b n th v) e0 rfl (fun _ _ _ _ h => h) (fun U hU hW => by show va_at D vwCl (b, .inr (6, [.int (th), .int (nI n), .ref (b + 1), .ref (b + 2), .ref (b + 3), .ref (b + 4), .ref (b + 5), .ref (b + 6), .ref (b + 7), .ref (b + 8), .ref (b + 9), .ref (b + 10), .ref (b + 11), .ref (b + 12), .ref (b + 13), .ref (b + 14), .ref (b + 15), .ref (b + 16), .ref (b + 17), .ref (b + 18), .ref (b + 19), .ref (b + 20), .ref (b + 21), .ref (b + 22), .ref (b + 23), .ref (b + 24), .ref (b + 25), .ref (b + 26), .ref (b + 27), .ref (b + 28), .ref (b + 29), .ref (b + 30)])) U.heap; rw [hU]; exact e0) hL hl.1 rfl rfl ⟨⟨Nat.le_of_ble_eq_true rfl, Nat.le_of_ble_eq_true rfl⟩, Nat.le_of_ble_eq_true rfl, Nat.le_of_ble_eq_true rfl⟩ (Nat.le_of_ble_eq_true rfl) d_M_filter_3 (fun v H41 locs hp hL => ?_)
  obtain ⟨rfl, rfl⟩ := hp
  refine W.eq (g2 := F0 m 6 ls [.int (nno n v), .ref (b)]) rfl ?_
  rw [nno_bad hb]
  refine lv_if_ne (tgt := 31) C.1 C.2.1 d_M_filter_6 (by decide) (fun _ => ?_) (fun hn => absurd hn (by decide))
  refine lv_iconst (v := 1) C.1 C.2.1 d_M_filter_31 (by decide) ?_
  refine lv_goto (tgt := 36) C.1 C.2.1 d_M_filter_32 (by decide) ?_
  refine hq_put (lo := lo) C f_M_105 e0 rfl rfl (Nat.le_of_ble_eq_true rfl) hL (by omega) d_M_filter_36 (fun H42 locs u43 hL => ?_)
  have k44 : va_at D vwCl (b, .inr (6, [.int (1), .int (nI n), .ref (b + 1), .ref (b + 2), .ref (b + 3), .ref (b + 4), .ref (b + 5), .ref (b + 6), .ref (b + 7), .ref (b + 8), .ref (b + 9), .ref (b + 10), .ref (b + 11), .ref (b + 12), .ref (b + 13), .ref (b + 14), .ref (b + 15), .ref (b + 16), .ref (b + 17), .ref (b + 18), .ref (b + 19), .ref (b + 20), .ref (b + 21), .ref (b + 22), .ref (b + 23), .ref (b + 24), .ref (b + 25), .ref (b + 26), .ref (b + 27), .ref (b + 28), .ref (b + 29), .ref (b + 30)])) H42 := u43.2.2
  refine lv_aload_n C.1 C.2.1 d_M_filter_39 rfl (lv_at hl 0 rfl) ?_
  refine hq_get (v := .int (1)) C f_M_105 k44 rfl d_M_filter_40 ?_
  refine lv_if_ne (tgt := 60) C.1 C.2.1 d_M_filter_43 (by decide) (fun _ => ?_) (fun hn => absurd hn (by decide))
  exact hq_vret C hret hlk (Nat.le_of_ble_eq_true rfl) (Nat.le_of_ble_eq_true rfl) hL ⟨rfl, k44, hq_Sput hq_S0 u43 (by omega) (by omega)⟩ d_M_filter_60
set_option maxHeartbeats 4000000 in
set_option maxRecDepth 100000 in
theorem m_disturb_n (l : Launch) (D : va_G) (cI cZ cN cJ : ClassId) (lo : Nat) (b n : Nat) (th : Int32) (hlo : lo ≤ b) (v a : Int32) (hb : v < 0 ∨ ¬ v < nI n) : hq_M l y_M_disturb b_M_disturb 3 none TB { frames := 2, cells := 0, slots := 0, locals := 60 } lo D vwCl (TY cI cZ cN cJ) [.ref (b), .int (v), .int (a)] (fun U => hq_B D vwCl b 31 (mdC cI cZ b th (nI n) (fun _ _ => 0)) U.heap) (fun H v9 H' => v9 = none ∧ va_at D vwCl (b, .inr (6, [.int (1), .int (nI n), .ref (b + 1), .ref (b + 2), .ref (b + 3), .ref (b + 4), .ref (b + 5), .ref (b + 6), .ref (b + 7), .ref (b + 8), .ref (b + 9), .ref (b + 10), .ref (b + 11), .ref (b + 12), .ref (b + 13), .ref (b + 14), .ref (b + 15), .ref (b + 16), .ref (b + 17), .ref (b + 18), .ref (b + 19), .ref (b + 20), .ref (b + 21), .ref (b + 22), .ref (b + 23), .ref (b + 24), .ref (b + 25), .ref (b + 26), .ref (b + 27), .ref (b + 28), .ref (b + 29), .ref (b + 30)])) H' ∧ hq_S b 31 H H') := by
  refine hq_ofW (by decide) (Nat.le_of_ble_eq_true rfl) ?_
  intro p e s m below meth c ls C hml hret hlk hnm hl hP
  have hL : hq_L lo [] := hq_L0
  have hl : lv_has ls 3 [(0, .ref (b)), (1, .int (v)), (2, .int (a))] := hl
  have e0 : va_at D vwCl (b, .inr (6, [.int (th), .int (nI n), .ref (b + 1), .ref (b + 2), .ref (b + 3), .ref (b + 4), .ref (b + 5), .ref (b + 6), .ref (b + 7), .ref (b + 8), .ref (b + 9), .ref (b + 10), .ref (b + 11), .ref (b + 12), .ref (b + 13), .ref (b + 14), .ref (b + 15), .ref (b + 16), .ref (b + 17), .ref (b + 18), .ref (b + 19), .ref (b + 20), .ref (b + 21), .ref (b + 22), .ref (b + 23), .ref (b + 24), .ref (b + 25), .ref (b + 26), .ref (b + 27), .ref (b + 28), .ref (b + 29), .ref (b + 30)])) s.heap := hP 0 (by decide)
  refine lv_aload_n C.1 C.2.1 d_M_disturb_0 rfl (lv_at hl 0 rfl) ?_
  refine lv_aload_n C.1 C.2.1 d_M_disturb_1 rfl (lv_at hl 0 rfl) ?_
  refine lv_iload_n C.1 C.2.1 d_M_disturb_2 rfl (lv_at hl 1 rfl) ?_
  refine hq_callV (lo := lo) (As := [.int (v)]) (rest := [.ref (b)]) C tb_good hml Y_M_108 (c_noNode l D cI cZ cN cJ lo b n th v) e0 rfl (fun _ _ _ _ h => h) (fun U hU hW => by show va_at D vwCl (b, .inr (6, [.int (th), .int (nI n), .ref (b + 1), .ref (b + 2), .ref (b + 3), .ref (b + 4), .ref (b + 5), .ref (b + 6), .ref (b + 7), .ref (b + 8), .ref (b + 9), .ref (b + 10), .ref (b + 11), .ref (b + 12), .ref (b + 13), .ref (b + 14), .ref (b + 15), .ref (b + 16), .ref (b + 17), .ref (b + 18), .ref (b + 19), .ref (b + 20), .ref (b + 21), .ref (b + 22), .ref (b + 23), .ref (b + 24), .ref (b + 25), .ref (b + 26), .ref (b + 27), .ref (b + 28), .ref (b + 29), .ref (b + 30)])) U.heap; rw [hU]; exact e0) hL hl.1 rfl rfl ⟨⟨Nat.le_of_ble_eq_true rfl, Nat.le_of_ble_eq_true rfl⟩, Nat.le_of_ble_eq_true rfl, Nat.le_of_ble_eq_true rfl⟩ (Nat.le_of_ble_eq_true rfl) d_M_disturb_3 (fun v H41 locs hp hL => ?_)
  obtain ⟨rfl, rfl⟩ := hp
  refine W.eq (g2 := F0 m 6 ls [.int (nno n v), .ref (b)]) rfl ?_
  rw [nno_bad hb]
  refine lv_if_ne (tgt := 21) C.1 C.2.1 d_M_disturb_6 (by decide) (fun _ => ?_) (fun hn => absurd hn (by decide))
  refine lv_iconst (v := 1) C.1 C.2.1 d_M_disturb_21 (by decide) ?_
  refine lv_goto (tgt := 26) C.1 C.2.1 d_M_disturb_22 (by decide) ?_
  refine hq_put (lo := lo) C f_M_105 e0 rfl rfl (Nat.le_of_ble_eq_true rfl) hL (by omega) d_M_disturb_26 (fun H42 locs u43 hL => ?_)
  have k44 : va_at D vwCl (b, .inr (6, [.int (1), .int (nI n), .ref (b + 1), .ref (b + 2), .ref (b + 3), .ref (b + 4), .ref (b + 5), .ref (b + 6), .ref (b + 7), .ref (b + 8), .ref (b + 9), .ref (b + 10), .ref (b + 11), .ref (b + 12), .ref (b + 13), .ref (b + 14), .ref (b + 15), .ref (b + 16), .ref (b + 17), .ref (b + 18), .ref (b + 19), .ref (b + 20), .ref (b + 21), .ref (b + 22), .ref (b + 23), .ref (b + 24), .ref (b + 25), .ref (b + 26), .ref (b + 27), .ref (b + 28), .ref (b + 29), .ref (b + 30)])) H42 := u43.2.2
  refine lv_aload_n C.1 C.2.1 d_M_disturb_29 rfl (lv_at hl 0 rfl) ?_
  refine hq_get (v := .int (1)) C f_M_105 k44 rfl d_M_disturb_30 ?_
  refine lv_if_ne (tgt := 60) C.1 C.2.1 d_M_disturb_33 (by decide) (fun _ => ?_) (fun hn => absurd hn (by decide))
  exact hq_vret C hret hlk (Nat.le_of_ble_eq_true rfl) (Nat.le_of_ble_eq_true rfl) hL ⟨rfl, k44, hq_Sput hq_S0 u43 (by omega) (by omega)⟩ d_M_disturb_60
set_option maxHeartbeats 4000000 in
set_option maxRecDepth 100000 in
theorem m_state_n (l : Launch) (D : va_G) (cI cZ cN cJ : ClassId) (lo : Nat) (b n : Nat) (th : Int32) (hlo : lo ≤ b) (v : Int32) (hb : v < 0 ∨ ¬ v < nI n) : hq_M l y_M_state b_M_state 2 (some .int) TB { frames := 2, cells := 0, slots := 0, locals := 60 } lo D vwCl (TY cI cZ cN cJ) [.ref (b), .int (v)] (fun U => hq_B D vwCl b 31 (mdC cI cZ b th (nI n) (fun _ _ => 0)) U.heap) (fun H v9 H' => v9 = some (.int 0) ∧ va_at D vwCl (b, .inr (6, [.int (1), .int (nI n), .ref (b + 1), .ref (b + 2), .ref (b + 3), .ref (b + 4), .ref (b + 5), .ref (b + 6), .ref (b + 7), .ref (b + 8), .ref (b + 9), .ref (b + 10), .ref (b + 11), .ref (b + 12), .ref (b + 13), .ref (b + 14), .ref (b + 15), .ref (b + 16), .ref (b + 17), .ref (b + 18), .ref (b + 19), .ref (b + 20), .ref (b + 21), .ref (b + 22), .ref (b + 23), .ref (b + 24), .ref (b + 25), .ref (b + 26), .ref (b + 27), .ref (b + 28), .ref (b + 29), .ref (b + 30)])) H' ∧ hq_S b 31 H H') := by
  refine hq_ofW (by decide) (Nat.le_of_ble_eq_true rfl) ?_
  intro p e s m below meth c ls C hml hret hlk hnm hl hP
  have hL : hq_L lo [] := hq_L0
  have hl : lv_has ls 2 [(0, .ref (b)), (1, .int (v))] := hl
  have e0 : va_at D vwCl (b, .inr (6, [.int (th), .int (nI n), .ref (b + 1), .ref (b + 2), .ref (b + 3), .ref (b + 4), .ref (b + 5), .ref (b + 6), .ref (b + 7), .ref (b + 8), .ref (b + 9), .ref (b + 10), .ref (b + 11), .ref (b + 12), .ref (b + 13), .ref (b + 14), .ref (b + 15), .ref (b + 16), .ref (b + 17), .ref (b + 18), .ref (b + 19), .ref (b + 20), .ref (b + 21), .ref (b + 22), .ref (b + 23), .ref (b + 24), .ref (b + 25), .ref (b + 26), .ref (b + 27), .ref (b + 28), .ref (b + 29), .ref (b + 30)])) s.heap := hP 0 (by decide)
  refine lv_aload_n C.1 C.2.1 d_M_state_0 rfl (lv_at hl 0 rfl) ?_
  refine lv_aload_n C.1 C.2.1 d_M_state_1 rfl (lv_at hl 0 rfl) ?_
  refine lv_iload_n C.1 C.2.1 d_M_state_2 rfl (lv_at hl 1 rfl) ?_
  refine hq_callV (lo := lo) (As := [.int (v)]) (rest := [.ref (b)]) C tb_good hml Y_M_108 (c_noNode l D cI cZ cN cJ lo b n th v) e0 rfl (fun _ _ _ _ h => h) (fun U hU hW => by show va_at D vwCl (b, .inr (6, [.int (th), .int (nI n), .ref (b + 1), .ref (b + 2), .ref (b + 3), .ref (b + 4), .ref (b + 5), .ref (b + 6), .ref (b + 7), .ref (b + 8), .ref (b + 9), .ref (b + 10), .ref (b + 11), .ref (b + 12), .ref (b + 13), .ref (b + 14), .ref (b + 15), .ref (b + 16), .ref (b + 17), .ref (b + 18), .ref (b + 19), .ref (b + 20), .ref (b + 21), .ref (b + 22), .ref (b + 23), .ref (b + 24), .ref (b + 25), .ref (b + 26), .ref (b + 27), .ref (b + 28), .ref (b + 29), .ref (b + 30)])) U.heap; rw [hU]; exact e0) hL hl.1 rfl rfl ⟨⟨Nat.le_of_ble_eq_true rfl, Nat.le_of_ble_eq_true rfl⟩, Nat.le_of_ble_eq_true rfl, Nat.le_of_ble_eq_true rfl⟩ (Nat.le_of_ble_eq_true rfl) d_M_state_3 (fun v H41 locs hp hL => ?_)
  obtain ⟨rfl, rfl⟩ := hp
  refine W.eq (g2 := F0 m 6 ls [.int (nno n v), .ref (b)]) rfl ?_
  rw [nno_bad hb]
  refine lv_if_eq (tgt := 13) C.1 C.2.1 d_M_state_6 (by decide) (fun hn => absurd hn (by decide)) (fun _ => ?_)
  refine lv_iconst (v := 1) C.1 C.2.1 d_M_state_9 (by decide) ?_
  refine lv_goto (tgt := 14) C.1 C.2.1 d_M_state_10 (by decide) ?_
  refine hq_put (lo := lo) C f_M_105 e0 rfl rfl (Nat.le_of_ble_eq_true rfl) hL (by omega) d_M_state_14 (fun H42 locs u43 hL => ?_)
  have k44 : va_at D vwCl (b, .inr (6, [.int (1), .int (nI n), .ref (b + 1), .ref (b + 2), .ref (b + 3), .ref (b + 4), .ref (b + 5), .ref (b + 6), .ref (b + 7), .ref (b + 8), .ref (b + 9), .ref (b + 10), .ref (b + 11), .ref (b + 12), .ref (b + 13), .ref (b + 14), .ref (b + 15), .ref (b + 16), .ref (b + 17), .ref (b + 18), .ref (b + 19), .ref (b + 20), .ref (b + 21), .ref (b + 22), .ref (b + 23), .ref (b + 24), .ref (b + 25), .ref (b + 26), .ref (b + 27), .ref (b + 28), .ref (b + 29), .ref (b + 30)])) H42 := u43.2.2
  refine lv_aload_n C.1 C.2.1 d_M_state_17 rfl (lv_at hl 0 rfl) ?_
  refine hq_get (v := .int (1)) C f_M_105 k44 rfl d_M_state_18 ?_
  refine lv_if_ne (tgt := 33) C.1 C.2.1 d_M_state_21 (by decide) (fun _ => ?_) (fun hn => absurd hn (by decide))
  refine lv_iconst (v := 0) C.1 C.2.1 d_M_state_33 (by decide) ?_
  exact hq_iret C hret hlk (Nat.le_of_ble_eq_true rfl) (Nat.le_of_ble_eq_true rfl) hL ⟨rfl, k44, hq_Sput hq_S0 u43 (by omega) (by omega)⟩ d_M_state_34
set_option maxHeartbeats 4000000 in
set_option maxRecDepth 100000 in
theorem m_count_n (l : Launch) (D : va_G) (cI cZ cN cJ : ClassId) (lo : Nat) (b n : Nat) (th : Int32) (hlo : lo ≤ b) (v a : Int32) (hb : v < 0 ∨ ¬ v < nI n) : hq_M l y_M_count b_M_count 3 (some .int) TB { frames := 2, cells := 0, slots := 0, locals := 60 } lo D vwCl (TY cI cZ cN cJ) [.ref (b), .int (v), .int (a)] (fun U => hq_B D vwCl b 31 (mdC cI cZ b th (nI n) (fun _ _ => 0)) U.heap) (fun H v9 H' => v9 = some (.int 0) ∧ va_at D vwCl (b, .inr (6, [.int (1), .int (nI n), .ref (b + 1), .ref (b + 2), .ref (b + 3), .ref (b + 4), .ref (b + 5), .ref (b + 6), .ref (b + 7), .ref (b + 8), .ref (b + 9), .ref (b + 10), .ref (b + 11), .ref (b + 12), .ref (b + 13), .ref (b + 14), .ref (b + 15), .ref (b + 16), .ref (b + 17), .ref (b + 18), .ref (b + 19), .ref (b + 20), .ref (b + 21), .ref (b + 22), .ref (b + 23), .ref (b + 24), .ref (b + 25), .ref (b + 26), .ref (b + 27), .ref (b + 28), .ref (b + 29), .ref (b + 30)])) H' ∧ hq_S b 31 H H') := by
  refine hq_ofW (by decide) (Nat.le_of_ble_eq_true rfl) ?_
  intro p e s m below meth c ls C hml hret hlk hnm hl hP
  have hL : hq_L lo [] := hq_L0
  have hl : lv_has ls 3 [(0, .ref (b)), (1, .int (v)), (2, .int (a))] := hl
  have e0 : va_at D vwCl (b, .inr (6, [.int (th), .int (nI n), .ref (b + 1), .ref (b + 2), .ref (b + 3), .ref (b + 4), .ref (b + 5), .ref (b + 6), .ref (b + 7), .ref (b + 8), .ref (b + 9), .ref (b + 10), .ref (b + 11), .ref (b + 12), .ref (b + 13), .ref (b + 14), .ref (b + 15), .ref (b + 16), .ref (b + 17), .ref (b + 18), .ref (b + 19), .ref (b + 20), .ref (b + 21), .ref (b + 22), .ref (b + 23), .ref (b + 24), .ref (b + 25), .ref (b + 26), .ref (b + 27), .ref (b + 28), .ref (b + 29), .ref (b + 30)])) s.heap := hP 0 (by decide)
  refine lv_aload_n C.1 C.2.1 d_M_count_0 rfl (lv_at hl 0 rfl) ?_
  refine lv_aload_n C.1 C.2.1 d_M_count_1 rfl (lv_at hl 0 rfl) ?_
  refine lv_iload_n C.1 C.2.1 d_M_count_2 rfl (lv_at hl 1 rfl) ?_
  refine hq_callV (lo := lo) (As := [.int (v)]) (rest := [.ref (b)]) C tb_good hml Y_M_108 (c_noNode l D cI cZ cN cJ lo b n th v) e0 rfl (fun _ _ _ _ h => h) (fun U hU hW => by show va_at D vwCl (b, .inr (6, [.int (th), .int (nI n), .ref (b + 1), .ref (b + 2), .ref (b + 3), .ref (b + 4), .ref (b + 5), .ref (b + 6), .ref (b + 7), .ref (b + 8), .ref (b + 9), .ref (b + 10), .ref (b + 11), .ref (b + 12), .ref (b + 13), .ref (b + 14), .ref (b + 15), .ref (b + 16), .ref (b + 17), .ref (b + 18), .ref (b + 19), .ref (b + 20), .ref (b + 21), .ref (b + 22), .ref (b + 23), .ref (b + 24), .ref (b + 25), .ref (b + 26), .ref (b + 27), .ref (b + 28), .ref (b + 29), .ref (b + 30)])) U.heap; rw [hU]; exact e0) hL hl.1 rfl rfl ⟨⟨Nat.le_of_ble_eq_true rfl, Nat.le_of_ble_eq_true rfl⟩, Nat.le_of_ble_eq_true rfl, Nat.le_of_ble_eq_true rfl⟩ (Nat.le_of_ble_eq_true rfl) d_M_count_3 (fun v H41 locs hp hL => ?_)
  obtain ⟨rfl, rfl⟩ := hp
  refine W.eq (g2 := F0 m 6 ls [.int (nno n v), .ref (b)]) rfl ?_
  rw [nno_bad hb]
  refine lv_if_ne (tgt := 18) C.1 C.2.1 d_M_count_6 (by decide) (fun _ => ?_) (fun hn => absurd hn (by decide))
  refine lv_iconst (v := 1) C.1 C.2.1 d_M_count_18 (by decide) ?_
  refine lv_goto (tgt := 23) C.1 C.2.1 d_M_count_19 (by decide) ?_
  refine hq_put (lo := lo) C f_M_105 e0 rfl rfl (Nat.le_of_ble_eq_true rfl) hL (by omega) d_M_count_23 (fun H42 locs u43 hL => ?_)
  have k44 : va_at D vwCl (b, .inr (6, [.int (1), .int (nI n), .ref (b + 1), .ref (b + 2), .ref (b + 3), .ref (b + 4), .ref (b + 5), .ref (b + 6), .ref (b + 7), .ref (b + 8), .ref (b + 9), .ref (b + 10), .ref (b + 11), .ref (b + 12), .ref (b + 13), .ref (b + 14), .ref (b + 15), .ref (b + 16), .ref (b + 17), .ref (b + 18), .ref (b + 19), .ref (b + 20), .ref (b + 21), .ref (b + 22), .ref (b + 23), .ref (b + 24), .ref (b + 25), .ref (b + 26), .ref (b + 27), .ref (b + 28), .ref (b + 29), .ref (b + 30)])) H42 := u43.2.2
  refine lv_aload_n C.1 C.2.1 d_M_count_26 rfl (lv_at hl 0 rfl) ?_
  refine hq_get (v := .int (1)) C f_M_105 k44 rfl d_M_count_27 ?_
  refine lv_if_eq (tgt := 35) C.1 C.2.1 d_M_count_30 (by decide) (fun hn => absurd hn (by decide)) (fun _ => ?_)
  refine lv_iconst (v := 0) C.1 C.2.1 d_M_count_33 (by decide) ?_
  exact hq_iret C hret hlk (Nat.le_of_ble_eq_true rfl) (Nat.le_of_ble_eq_true rfl) hL ⟨rfl, k44, hq_Sput hq_S0 u43 (by omega) (by omega)⟩ d_M_count_34
set_option maxHeartbeats 4000000 in
set_option maxRecDepth 100000 in
theorem m_take_n (l : Launch) (D : va_G) (cI cZ cN cJ : ClassId) (lo : Nat) (b n : Nat) (th : Int32) (hlo : lo ≤ b) (v : Int32) (hb : v < 0 ∨ ¬ v < nI n) : hq_M l y_M_take b_M_take 4 (some .int) TB { frames := 2, cells := 0, slots := 0, locals := 60 } lo D vwCl (TY cI cZ cN cJ) [.ref (b), .int (v)] (fun U => hq_B D vwCl b 31 (mdC cI cZ b th (nI n) (fun _ _ => 0)) U.heap) (fun H v9 H' => v9 = some (.int 0) ∧ va_at D vwCl (b, .inr (6, [.int (1), .int (nI n), .ref (b + 1), .ref (b + 2), .ref (b + 3), .ref (b + 4), .ref (b + 5), .ref (b + 6), .ref (b + 7), .ref (b + 8), .ref (b + 9), .ref (b + 10), .ref (b + 11), .ref (b + 12), .ref (b + 13), .ref (b + 14), .ref (b + 15), .ref (b + 16), .ref (b + 17), .ref (b + 18), .ref (b + 19), .ref (b + 20), .ref (b + 21), .ref (b + 22), .ref (b + 23), .ref (b + 24), .ref (b + 25), .ref (b + 26), .ref (b + 27), .ref (b + 28), .ref (b + 29), .ref (b + 30)])) H' ∧ hq_S b 31 H H') := by
  refine hq_ofW (by decide) (Nat.le_of_ble_eq_true rfl) ?_
  intro p e s m below meth c ls C hml hret hlk hnm hl hP
  have hL : hq_L lo [] := hq_L0
  have hl : lv_has ls 4 [(0, .ref (b)), (1, .int (v))] := hl
  have e0 : va_at D vwCl (b, .inr (6, [.int (th), .int (nI n), .ref (b + 1), .ref (b + 2), .ref (b + 3), .ref (b + 4), .ref (b + 5), .ref (b + 6), .ref (b + 7), .ref (b + 8), .ref (b + 9), .ref (b + 10), .ref (b + 11), .ref (b + 12), .ref (b + 13), .ref (b + 14), .ref (b + 15), .ref (b + 16), .ref (b + 17), .ref (b + 18), .ref (b + 19), .ref (b + 20), .ref (b + 21), .ref (b + 22), .ref (b + 23), .ref (b + 24), .ref (b + 25), .ref (b + 26), .ref (b + 27), .ref (b + 28), .ref (b + 29), .ref (b + 30)])) s.heap := hP 0 (by decide)
  refine lv_aload_n C.1 C.2.1 d_M_take_0 rfl (lv_at hl 0 rfl) ?_
  refine lv_aload_n C.1 C.2.1 d_M_take_1 rfl (lv_at hl 0 rfl) ?_
  refine lv_iload_n C.1 C.2.1 d_M_take_2 rfl (lv_at hl 1 rfl) ?_
  refine hq_callV (lo := lo) (As := [.int (v)]) (rest := [.ref (b)]) C tb_good hml Y_M_108 (c_noNode l D cI cZ cN cJ lo b n th v) e0 rfl (fun _ _ _ _ h => h) (fun U hU hW => by show va_at D vwCl (b, .inr (6, [.int (th), .int (nI n), .ref (b + 1), .ref (b + 2), .ref (b + 3), .ref (b + 4), .ref (b + 5), .ref (b + 6), .ref (b + 7), .ref (b + 8), .ref (b + 9), .ref (b + 10), .ref (b + 11), .ref (b + 12), .ref (b + 13), .ref (b + 14), .ref (b + 15), .ref (b + 16), .ref (b + 17), .ref (b + 18), .ref (b + 19), .ref (b + 20), .ref (b + 21), .ref (b + 22), .ref (b + 23), .ref (b + 24), .ref (b + 25), .ref (b + 26), .ref (b + 27), .ref (b + 28), .ref (b + 29), .ref (b + 30)])) U.heap; rw [hU]; exact e0) hL hl.1 rfl rfl ⟨⟨Nat.le_of_ble_eq_true rfl, Nat.le_of_ble_eq_true rfl⟩, Nat.le_of_ble_eq_true rfl, Nat.le_of_ble_eq_true rfl⟩ (Nat.le_of_ble_eq_true rfl) d_M_take_3 (fun v H41 locs hp hL => ?_)
  obtain ⟨rfl, rfl⟩ := hp
  refine W.eq (g2 := F0 m 6 ls [.int (nno n v), .ref (b)]) rfl ?_
  rw [nno_bad hb]
  refine lv_if_eq (tgt := 13) C.1 C.2.1 d_M_take_6 (by decide) (fun hn => absurd hn (by decide)) (fun _ => ?_)
  refine lv_iconst (v := 1) C.1 C.2.1 d_M_take_9 (by decide) ?_
  refine lv_goto (tgt := 27) C.1 C.2.1 d_M_take_10 (by decide) ?_
  refine hq_put (lo := lo) C f_M_105 e0 rfl rfl (Nat.le_of_ble_eq_true rfl) hL (by omega) d_M_take_27 (fun H42 locs u43 hL => ?_)
  have k44 : va_at D vwCl (b, .inr (6, [.int (1), .int (nI n), .ref (b + 1), .ref (b + 2), .ref (b + 3), .ref (b + 4), .ref (b + 5), .ref (b + 6), .ref (b + 7), .ref (b + 8), .ref (b + 9), .ref (b + 10), .ref (b + 11), .ref (b + 12), .ref (b + 13), .ref (b + 14), .ref (b + 15), .ref (b + 16), .ref (b + 17), .ref (b + 18), .ref (b + 19), .ref (b + 20), .ref (b + 21), .ref (b + 22), .ref (b + 23), .ref (b + 24), .ref (b + 25), .ref (b + 26), .ref (b + 27), .ref (b + 28), .ref (b + 29), .ref (b + 30)])) H42 := u43.2.2
  refine lv_aload_n C.1 C.2.1 d_M_take_30 rfl (lv_at hl 0 rfl) ?_
  refine hq_get (v := .int (1)) C f_M_105 k44 rfl d_M_take_31 ?_
  refine lv_if_eq (tgt := 39) C.1 C.2.1 d_M_take_34 (by decide) (fun hn => absurd hn (by decide)) (fun _ => ?_)
  refine lv_iconst (v := 0) C.1 C.2.1 d_M_take_37 (by decide) ?_
  exact hq_iret C hret hlk (Nat.le_of_ble_eq_true rfl) (Nat.le_of_ble_eq_true rfl) hL ⟨rfl, k44, hq_Sput hq_S0 u43 (by omega) (by omega)⟩ d_M_take_38
set_option maxHeartbeats 4000000 in
set_option maxRecDepth 100000 in
theorem m_request_f (l : Launch) (D : va_G) (cI cZ cN cJ : ClassId) (lo : Nat) (b n : Nat) (th : Int32) (hlo : lo ≤ b) (j : Nat) (hn : n ≤ 4) (hj : j < n) (a g d : Int32) (hb : ¬ rq a g d) : hq_M l y_M_request b_M_request 7 (some .int) TB { frames := 2, cells := 0, slots := 0, locals := 60 } lo D vwCl (TY cI cZ cN cJ) [.ref (b), .int (nI j), .int (a), .int (g), .int (d)] (fun U => hq_B D vwCl b 31 (mdC cI cZ b th (nI n) (fun _ _ => 0)) U.heap) (fun H v H' => v = some (.int 0) ∧ va_at D vwCl (b, .inr (6, [.int (1), .int (nI n), .ref (b + 1), .ref (b + 2), .ref (b + 3), .ref (b + 4), .ref (b + 5), .ref (b + 6), .ref (b + 7), .ref (b + 8), .ref (b + 9), .ref (b + 10), .ref (b + 11), .ref (b + 12), .ref (b + 13), .ref (b + 14), .ref (b + 15), .ref (b + 16), .ref (b + 17), .ref (b + 18), .ref (b + 19), .ref (b + 20), .ref (b + 21), .ref (b + 22), .ref (b + 23), .ref (b + 24), .ref (b + 25), .ref (b + 26), .ref (b + 27), .ref (b + 28), .ref (b + 29), .ref (b + 30)])) H' ∧ hq_S b 31 H H') := by
  refine hq_ofW (by decide) (Nat.le_of_ble_eq_true rfl) ?_
  intro p e s m below meth c ls C hml hret hlk hnm hl hP
  have hL : hq_L lo [] := hq_L0
  have hl : lv_has ls 7 [(0, .ref (b)), (1, .int (nI j)), (2, .int (a)), (3, .int (g)), (4, .int (d))] := hl
  have e0 : va_at D vwCl (b, .inr (6, [.int (th), .int (nI n), .ref (b + 1), .ref (b + 2), .ref (b + 3), .ref (b + 4), .ref (b + 5), .ref (b + 6), .ref (b + 7), .ref (b + 8), .ref (b + 9), .ref (b + 10), .ref (b + 11), .ref (b + 12), .ref (b + 13), .ref (b + 14), .ref (b + 15), .ref (b + 16), .ref (b + 17), .ref (b + 18), .ref (b + 19), .ref (b + 20), .ref (b + 21), .ref (b + 22), .ref (b + 23), .ref (b + 24), .ref (b + 25), .ref (b + 26), .ref (b + 27), .ref (b + 28), .ref (b + 29), .ref (b + 30)])) s.heap := hP 0 (by decide)
  refine lv_aload_n C.1 C.2.1 d_M_request_0 rfl (lv_at hl 0 rfl) ?_
  refine lv_iload_n C.1 C.2.1 d_M_request_1 rfl (lv_at hl 1 rfl) ?_
  refine hq_callV (lo := lo) (As := [.int (nI j)]) (rest := []) C tb_good hml Y_M_108 (c_noNode l D cI cZ cN cJ lo b n th (nI j)) e0 rfl (fun _ _ _ _ h => h) (fun U hU hW => by show va_at D vwCl (b, .inr (6, [.int (th), .int (nI n), .ref (b + 1), .ref (b + 2), .ref (b + 3), .ref (b + 4), .ref (b + 5), .ref (b + 6), .ref (b + 7), .ref (b + 8), .ref (b + 9), .ref (b + 10), .ref (b + 11), .ref (b + 12), .ref (b + 13), .ref (b + 14), .ref (b + 15), .ref (b + 16), .ref (b + 17), .ref (b + 18), .ref (b + 19), .ref (b + 20), .ref (b + 21), .ref (b + 22), .ref (b + 23), .ref (b + 24), .ref (b + 25), .ref (b + 26), .ref (b + 27), .ref (b + 28), .ref (b + 29), .ref (b + 30)])) U.heap; rw [hU]; exact e0) hL hl.1 rfl rfl ⟨⟨Nat.le_of_ble_eq_true rfl, Nat.le_of_ble_eq_true rfl⟩, Nat.le_of_ble_eq_true rfl, Nat.le_of_ble_eq_true rfl⟩ (Nat.le_of_ble_eq_true rfl) d_M_request_2 (fun v H41 locs hp hL => ?_)
  obtain ⟨rfl, rfl⟩ := hp
  refine W.eq (g2 := F0 m 5 ls [.int (nno n (nI j))]) rfl ?_
  rw [nno_ok hn hj]
  refine lv_if_ne (tgt := 44) C.1 C.2.1 d_M_request_5 (by decide) (fun hn => absurd hn (by decide)) (fun _ => ?_)
  refine lv_iload_n C.1 C.2.1 d_M_request_8 rfl (lv_at hl 2 rfl) ?_
  refine lv_if_lt (tgt := 44) C.1 C.2.1 d_M_request_9 (by decide) ?_ ?_
  · intro c0
    refine lv_iconst (v := 1) C.1 C.2.1 d_M_request_44 (by decide) ?_
    refine lv_goto (tgt := 49) C.1 C.2.1 d_M_request_45 (by decide) ?_
    refine lv_istore C.1 C.2.1 d_M_request_49 hl (by decide) rfl (lv' := [(5, .int (1)), (0, .ref (b)), (1, .int (nI j)), (2, .int (a)), (3, .int (g)), (4, .int (d))]) (fun ls hl => ?_)
    refine lv_aload_n C.1 C.2.1 d_M_request_51 rfl (lv_at hl 1 rfl) ?_
    refine lv_iload C.1 C.2.1 d_M_request_52 (lv_at hl 0 rfl) ?_
    refine lv_if_eq (tgt := 61) C.1 C.2.1 d_M_request_54 (by decide) (fun hn => absurd hn (by decide)) (fun _ => ?_)
    refine lv_iconst (v := 1) C.1 C.2.1 d_M_request_57 (by decide) ?_
    refine lv_goto (tgt := 87) C.1 C.2.1 d_M_request_58 (by decide) ?_
    refine hq_put (lo := lo) C f_M_105 e0 rfl rfl (Nat.le_of_ble_eq_true rfl) hL (by omega) d_M_request_87 (fun H42 locs u43 hL => ?_)
    have k44 : va_at D vwCl (b, .inr (6, [.int (1), .int (nI n), .ref (b + 1), .ref (b + 2), .ref (b + 3), .ref (b + 4), .ref (b + 5), .ref (b + 6), .ref (b + 7), .ref (b + 8), .ref (b + 9), .ref (b + 10), .ref (b + 11), .ref (b + 12), .ref (b + 13), .ref (b + 14), .ref (b + 15), .ref (b + 16), .ref (b + 17), .ref (b + 18), .ref (b + 19), .ref (b + 20), .ref (b + 21), .ref (b + 22), .ref (b + 23), .ref (b + 24), .ref (b + 25), .ref (b + 26), .ref (b + 27), .ref (b + 28), .ref (b + 29), .ref (b + 30)])) H42 := u43.2.2
    refine lv_aload_n C.1 C.2.1 d_M_request_90 rfl (lv_at hl 1 rfl) ?_
    refine hq_get (v := .int (1)) C f_M_105 k44 rfl d_M_request_91 ?_
    refine lv_if_eq (tgt := 99) C.1 C.2.1 d_M_request_94 (by decide) (fun hn => absurd hn (by decide)) (fun _ => ?_)
    refine lv_iconst (v := 0) C.1 C.2.1 d_M_request_97 (by decide) ?_
    exact hq_iret C hret hlk (Nat.le_of_ble_eq_true rfl) (Nat.le_of_ble_eq_true rfl) hL ⟨rfl, k44, hq_Sput hq_S0 u43 (by omega) (by omega)⟩ d_M_request_98
  · intro c0
    refine lv_iload_n C.1 C.2.1 d_M_request_12 rfl (lv_at hl 2 rfl) ?_
    refine lv_sipush (v := 2047) C.1 C.2.1 d_M_request_13 (by decide) ?_
    refine lv_icmp_gt (tgt := 44) C.1 C.2.1 d_M_request_16 (by decide) ?_ ?_
    · intro c1
      refine lv_iconst (v := 1) C.1 C.2.1 d_M_request_44 (by decide) ?_
      refine lv_goto (tgt := 49) C.1 C.2.1 d_M_request_45 (by decide) ?_
      refine lv_istore C.1 C.2.1 d_M_request_49 hl (by decide) rfl (lv' := [(5, .int (1)), (0, .ref (b)), (1, .int (nI j)), (2, .int (a)), (3, .int (g)), (4, .int (d))]) (fun ls hl => ?_)
      refine lv_aload_n C.1 C.2.1 d_M_request_51 rfl (lv_at hl 1 rfl) ?_
      refine lv_iload C.1 C.2.1 d_M_request_52 (lv_at hl 0 rfl) ?_
      refine lv_if_eq (tgt := 61) C.1 C.2.1 d_M_request_54 (by decide) (fun hn => absurd hn (by decide)) (fun _ => ?_)
      refine lv_iconst (v := 1) C.1 C.2.1 d_M_request_57 (by decide) ?_
      refine lv_goto (tgt := 87) C.1 C.2.1 d_M_request_58 (by decide) ?_
      refine hq_put (lo := lo) C f_M_105 e0 rfl rfl (Nat.le_of_ble_eq_true rfl) hL (by omega) d_M_request_87 (fun H45 locs u46 hL => ?_)
      have k47 : va_at D vwCl (b, .inr (6, [.int (1), .int (nI n), .ref (b + 1), .ref (b + 2), .ref (b + 3), .ref (b + 4), .ref (b + 5), .ref (b + 6), .ref (b + 7), .ref (b + 8), .ref (b + 9), .ref (b + 10), .ref (b + 11), .ref (b + 12), .ref (b + 13), .ref (b + 14), .ref (b + 15), .ref (b + 16), .ref (b + 17), .ref (b + 18), .ref (b + 19), .ref (b + 20), .ref (b + 21), .ref (b + 22), .ref (b + 23), .ref (b + 24), .ref (b + 25), .ref (b + 26), .ref (b + 27), .ref (b + 28), .ref (b + 29), .ref (b + 30)])) H45 := u46.2.2
      refine lv_aload_n C.1 C.2.1 d_M_request_90 rfl (lv_at hl 1 rfl) ?_
      refine hq_get (v := .int (1)) C f_M_105 k47 rfl d_M_request_91 ?_
      refine lv_if_eq (tgt := 99) C.1 C.2.1 d_M_request_94 (by decide) (fun hn => absurd hn (by decide)) (fun _ => ?_)
      refine lv_iconst (v := 0) C.1 C.2.1 d_M_request_97 (by decide) ?_
      exact hq_iret C hret hlk (Nat.le_of_ble_eq_true rfl) (Nat.le_of_ble_eq_true rfl) hL ⟨rfl, k47, hq_Sput hq_S0 u46 (by omega) (by omega)⟩ d_M_request_98
    · intro c1
      refine lv_iload_n C.1 C.2.1 d_M_request_19 rfl (lv_at hl 3 rfl) ?_
      refine lv_if_lt (tgt := 44) C.1 C.2.1 d_M_request_20 (by decide) ?_ ?_
      · intro c2
        refine lv_iconst (v := 1) C.1 C.2.1 d_M_request_44 (by decide) ?_
        refine lv_goto (tgt := 49) C.1 C.2.1 d_M_request_45 (by decide) ?_
        refine lv_istore C.1 C.2.1 d_M_request_49 hl (by decide) rfl (lv' := [(5, .int (1)), (0, .ref (b)), (1, .int (nI j)), (2, .int (a)), (3, .int (g)), (4, .int (d))]) (fun ls hl => ?_)
        refine lv_aload_n C.1 C.2.1 d_M_request_51 rfl (lv_at hl 1 rfl) ?_
        refine lv_iload C.1 C.2.1 d_M_request_52 (lv_at hl 0 rfl) ?_
        refine lv_if_eq (tgt := 61) C.1 C.2.1 d_M_request_54 (by decide) (fun hn => absurd hn (by decide)) (fun _ => ?_)
        refine lv_iconst (v := 1) C.1 C.2.1 d_M_request_57 (by decide) ?_
        refine lv_goto (tgt := 87) C.1 C.2.1 d_M_request_58 (by decide) ?_
        refine hq_put (lo := lo) C f_M_105 e0 rfl rfl (Nat.le_of_ble_eq_true rfl) hL (by omega) d_M_request_87 (fun H48 locs u49 hL => ?_)
        have k50 : va_at D vwCl (b, .inr (6, [.int (1), .int (nI n), .ref (b + 1), .ref (b + 2), .ref (b + 3), .ref (b + 4), .ref (b + 5), .ref (b + 6), .ref (b + 7), .ref (b + 8), .ref (b + 9), .ref (b + 10), .ref (b + 11), .ref (b + 12), .ref (b + 13), .ref (b + 14), .ref (b + 15), .ref (b + 16), .ref (b + 17), .ref (b + 18), .ref (b + 19), .ref (b + 20), .ref (b + 21), .ref (b + 22), .ref (b + 23), .ref (b + 24), .ref (b + 25), .ref (b + 26), .ref (b + 27), .ref (b + 28), .ref (b + 29), .ref (b + 30)])) H48 := u49.2.2
        refine lv_aload_n C.1 C.2.1 d_M_request_90 rfl (lv_at hl 1 rfl) ?_
        refine hq_get (v := .int (1)) C f_M_105 k50 rfl d_M_request_91 ?_
        refine lv_if_eq (tgt := 99) C.1 C.2.1 d_M_request_94 (by decide) (fun hn => absurd hn (by decide)) (fun _ => ?_)
        refine lv_iconst (v := 0) C.1 C.2.1 d_M_request_97 (by decide) ?_
        exact hq_iret C hret hlk (Nat.le_of_ble_eq_true rfl) (Nat.le_of_ble_eq_true rfl) hL ⟨rfl, k50, hq_Sput hq_S0 u49 (by omega) (by omega)⟩ d_M_request_98
      · intro c2
        refine lv_iload_n C.1 C.2.1 d_M_request_23 rfl (lv_at hl 3 rfl) ?_
        refine lv_iconst (v := 2) C.1 C.2.1 d_M_request_24 (by decide) ?_
        refine lv_icmp_gt (tgt := 44) C.1 C.2.1 d_M_request_25 (by decide) ?_ ?_
        · intro c3
          refine lv_iconst (v := 1) C.1 C.2.1 d_M_request_44 (by decide) ?_
          refine lv_goto (tgt := 49) C.1 C.2.1 d_M_request_45 (by decide) ?_
          refine lv_istore C.1 C.2.1 d_M_request_49 hl (by decide) rfl (lv' := [(5, .int (1)), (0, .ref (b)), (1, .int (nI j)), (2, .int (a)), (3, .int (g)), (4, .int (d))]) (fun ls hl => ?_)
          refine lv_aload_n C.1 C.2.1 d_M_request_51 rfl (lv_at hl 1 rfl) ?_
          refine lv_iload C.1 C.2.1 d_M_request_52 (lv_at hl 0 rfl) ?_
          refine lv_if_eq (tgt := 61) C.1 C.2.1 d_M_request_54 (by decide) (fun hn => absurd hn (by decide)) (fun _ => ?_)
          refine lv_iconst (v := 1) C.1 C.2.1 d_M_request_57 (by decide) ?_
          refine lv_goto (tgt := 87) C.1 C.2.1 d_M_request_58 (by decide) ?_
          refine hq_put (lo := lo) C f_M_105 e0 rfl rfl (Nat.le_of_ble_eq_true rfl) hL (by omega) d_M_request_87 (fun H51 locs u52 hL => ?_)
          have k53 : va_at D vwCl (b, .inr (6, [.int (1), .int (nI n), .ref (b + 1), .ref (b + 2), .ref (b + 3), .ref (b + 4), .ref (b + 5), .ref (b + 6), .ref (b + 7), .ref (b + 8), .ref (b + 9), .ref (b + 10), .ref (b + 11), .ref (b + 12), .ref (b + 13), .ref (b + 14), .ref (b + 15), .ref (b + 16), .ref (b + 17), .ref (b + 18), .ref (b + 19), .ref (b + 20), .ref (b + 21), .ref (b + 22), .ref (b + 23), .ref (b + 24), .ref (b + 25), .ref (b + 26), .ref (b + 27), .ref (b + 28), .ref (b + 29), .ref (b + 30)])) H51 := u52.2.2
          refine lv_aload_n C.1 C.2.1 d_M_request_90 rfl (lv_at hl 1 rfl) ?_
          refine hq_get (v := .int (1)) C f_M_105 k53 rfl d_M_request_91 ?_
          refine lv_if_eq (tgt := 99) C.1 C.2.1 d_M_request_94 (by decide) (fun hn => absurd hn (by decide)) (fun _ => ?_)
          refine lv_iconst (v := 0) C.1 C.2.1 d_M_request_97 (by decide) ?_
          exact hq_iret C hret hlk (Nat.le_of_ble_eq_true rfl) (Nat.le_of_ble_eq_true rfl) hL ⟨rfl, k53, hq_Sput hq_S0 u52 (by omega) (by omega)⟩ d_M_request_98
        · intro c3
          refine lv_iload C.1 C.2.1 d_M_request_28 (lv_at hl 4 rfl) ?_
          refine lv_if_lt (tgt := 44) C.1 C.2.1 d_M_request_30 (by decide) ?_ ?_
          · intro c4
            refine lv_iconst (v := 1) C.1 C.2.1 d_M_request_44 (by decide) ?_
            refine lv_goto (tgt := 49) C.1 C.2.1 d_M_request_45 (by decide) ?_
            refine lv_istore C.1 C.2.1 d_M_request_49 hl (by decide) rfl (lv' := [(5, .int (1)), (0, .ref (b)), (1, .int (nI j)), (2, .int (a)), (3, .int (g)), (4, .int (d))]) (fun ls hl => ?_)
            refine lv_aload_n C.1 C.2.1 d_M_request_51 rfl (lv_at hl 1 rfl) ?_
            refine lv_iload C.1 C.2.1 d_M_request_52 (lv_at hl 0 rfl) ?_
            refine lv_if_eq (tgt := 61) C.1 C.2.1 d_M_request_54 (by decide) (fun hn => absurd hn (by decide)) (fun _ => ?_)
            refine lv_iconst (v := 1) C.1 C.2.1 d_M_request_57 (by decide) ?_
            refine lv_goto (tgt := 87) C.1 C.2.1 d_M_request_58 (by decide) ?_
            refine hq_put (lo := lo) C f_M_105 e0 rfl rfl (Nat.le_of_ble_eq_true rfl) hL (by omega) d_M_request_87 (fun H54 locs u55 hL => ?_)
            have k56 : va_at D vwCl (b, .inr (6, [.int (1), .int (nI n), .ref (b + 1), .ref (b + 2), .ref (b + 3), .ref (b + 4), .ref (b + 5), .ref (b + 6), .ref (b + 7), .ref (b + 8), .ref (b + 9), .ref (b + 10), .ref (b + 11), .ref (b + 12), .ref (b + 13), .ref (b + 14), .ref (b + 15), .ref (b + 16), .ref (b + 17), .ref (b + 18), .ref (b + 19), .ref (b + 20), .ref (b + 21), .ref (b + 22), .ref (b + 23), .ref (b + 24), .ref (b + 25), .ref (b + 26), .ref (b + 27), .ref (b + 28), .ref (b + 29), .ref (b + 30)])) H54 := u55.2.2
            refine lv_aload_n C.1 C.2.1 d_M_request_90 rfl (lv_at hl 1 rfl) ?_
            refine hq_get (v := .int (1)) C f_M_105 k56 rfl d_M_request_91 ?_
            refine lv_if_eq (tgt := 99) C.1 C.2.1 d_M_request_94 (by decide) (fun hn => absurd hn (by decide)) (fun _ => ?_)
            refine lv_iconst (v := 0) C.1 C.2.1 d_M_request_97 (by decide) ?_
            exact hq_iret C hret hlk (Nat.le_of_ble_eq_true rfl) (Nat.le_of_ble_eq_true rfl) hL ⟨rfl, k56, hq_Sput hq_S0 u55 (by omega) (by omega)⟩ d_M_request_98
          · intro c4
            refine lv_iload C.1 C.2.1 d_M_request_33 (lv_at hl 4 rfl) ?_
            refine lv_iconst (v := 1) C.1 C.2.1 d_M_request_35 (by decide) ?_
            refine lv_bipush (v := 8) C.1 C.2.1 d_M_request_36 (by decide) ?_
            refine lv_iload_n C.1 C.2.1 d_M_request_38 rfl (lv_at hl 3 rfl) ?_
            refine lv_imul C.1 C.2.1 d_M_request_39 ?_
            refine lv_ishl C.1 C.2.1 d_M_request_40 ?_
            refine lv_icmp_lt (tgt := 48) C.1 C.2.1 d_M_request_41 (by decide) ?_ ?_
            · intro c5
              exact absurd (⟨el_iff.mpr ⟨c0, c1⟩, c2, c3, c4, c5⟩) hb
            · intro c5
              refine lv_iconst (v := 1) C.1 C.2.1 d_M_request_44 (by decide) ?_
              refine lv_goto (tgt := 49) C.1 C.2.1 d_M_request_45 (by decide) ?_
              refine lv_istore C.1 C.2.1 d_M_request_49 hl (by decide) rfl (lv' := [(5, .int (1)), (0, .ref (b)), (1, .int (nI j)), (2, .int (a)), (3, .int (g)), (4, .int (d))]) (fun ls hl => ?_)
              refine lv_aload_n C.1 C.2.1 d_M_request_51 rfl (lv_at hl 1 rfl) ?_
              refine lv_iload C.1 C.2.1 d_M_request_52 (lv_at hl 0 rfl) ?_
              refine lv_if_eq (tgt := 61) C.1 C.2.1 d_M_request_54 (by decide) (fun hn => absurd hn (by decide)) (fun _ => ?_)
              refine lv_iconst (v := 1) C.1 C.2.1 d_M_request_57 (by decide) ?_
              refine lv_goto (tgt := 87) C.1 C.2.1 d_M_request_58 (by decide) ?_
              refine hq_put (lo := lo) C f_M_105 e0 rfl rfl (Nat.le_of_ble_eq_true rfl) hL (by omega) d_M_request_87 (fun H57 locs u58 hL => ?_)
              have k59 : va_at D vwCl (b, .inr (6, [.int (1), .int (nI n), .ref (b + 1), .ref (b + 2), .ref (b + 3), .ref (b + 4), .ref (b + 5), .ref (b + 6), .ref (b + 7), .ref (b + 8), .ref (b + 9), .ref (b + 10), .ref (b + 11), .ref (b + 12), .ref (b + 13), .ref (b + 14), .ref (b + 15), .ref (b + 16), .ref (b + 17), .ref (b + 18), .ref (b + 19), .ref (b + 20), .ref (b + 21), .ref (b + 22), .ref (b + 23), .ref (b + 24), .ref (b + 25), .ref (b + 26), .ref (b + 27), .ref (b + 28), .ref (b + 29), .ref (b + 30)])) H57 := u58.2.2
              refine lv_aload_n C.1 C.2.1 d_M_request_90 rfl (lv_at hl 1 rfl) ?_
              refine hq_get (v := .int (1)) C f_M_105 k59 rfl d_M_request_91 ?_
              refine lv_if_eq (tgt := 99) C.1 C.2.1 d_M_request_94 (by decide) (fun hn => absurd hn (by decide)) (fun _ => ?_)
              refine lv_iconst (v := 0) C.1 C.2.1 d_M_request_97 (by decide) ?_
              exact hq_iret C hret hlk (Nat.le_of_ble_eq_true rfl) (Nat.le_of_ble_eq_true rfl) hL ⟨rfl, k59, hq_Sput hq_S0 u58 (by omega) (by omega)⟩ d_M_request_98
set_option maxHeartbeats 4000000 in
set_option maxRecDepth 100000 in
theorem m_request_g (l : Launch) (D : va_G) (cI cZ cN cJ : ClassId) (lo : Nat) (b n : Nat) (th : Int32) (hlo : lo ≤ b) (j : Nat) (hn : n ≤ 4) (hj : j < n) (a g d : Int32) (hq : rq a g d) : hq_M l y_M_request b_M_request 7 (some .int) TB { frames := 2, cells := 0, slots := 0, locals := 60 } lo D vwCl (TY cI cZ cN cJ) [.ref (b), .int (nI j), .int (a), .int (g), .int (d)] (fun U => hq_B D vwCl b 31 (mdC cI cZ b th (nI n) (fun _ _ => 0)) U.heap) (fun H v H' => v = some (.int 1) ∧ va_at D vwCl (b, .inr (6, [.int (0), .int (nI n), .ref (b + 1), .ref (b + 2), .ref (b + 3), .ref (b + 4), .ref (b + 5), .ref (b + 6), .ref (b + 7), .ref (b + 8), .ref (b + 9), .ref (b + 10), .ref (b + 11), .ref (b + 12), .ref (b + 13), .ref (b + 14), .ref (b + 15), .ref (b + 16), .ref (b + 17), .ref (b + 18), .ref (b + 19), .ref (b + 20), .ref (b + 21), .ref (b + 22), .ref (b + 23), .ref (b + 24), .ref (b + 25), .ref (b + 26), .ref (b + 27), .ref (b + 28), .ref (b + 29), .ref (b + 30)])) H' ∧ hq_S b 31 H H') := by
  refine hq_ofW (by decide) (Nat.le_of_ble_eq_true rfl) ?_
  intro p e s m below meth c ls C hml hret hlk hnm hl hP
  have hL : hq_L lo [] := hq_L0
  have hl : lv_has ls 7 [(0, .ref (b)), (1, .int (nI j)), (2, .int (a)), (3, .int (g)), (4, .int (d))] := hl
  have e0 : va_at D vwCl (b, .inr (6, [.int (th), .int (nI n), .ref (b + 1), .ref (b + 2), .ref (b + 3), .ref (b + 4), .ref (b + 5), .ref (b + 6), .ref (b + 7), .ref (b + 8), .ref (b + 9), .ref (b + 10), .ref (b + 11), .ref (b + 12), .ref (b + 13), .ref (b + 14), .ref (b + 15), .ref (b + 16), .ref (b + 17), .ref (b + 18), .ref (b + 19), .ref (b + 20), .ref (b + 21), .ref (b + 22), .ref (b + 23), .ref (b + 24), .ref (b + 25), .ref (b + 26), .ref (b + 27), .ref (b + 28), .ref (b + 29), .ref (b + 30)])) s.heap := hP 0 (by decide)
  have e10 : va_at D vwCl (b + 10, .inl (cI, 4, .inl (fun _ => 0))) s.heap := hP 10 (by decide)
  have e4 : va_at D vwCl (b + 4, .inl (cI, 4, .inl (fun _ => 0))) s.heap := hP 4 (by decide)
  have e11 : va_at D vwCl (b + 11, .inl (cI, 16, .inl (fun _ => 0))) s.heap := hP 11 (by decide)
  have e12 : va_at D vwCl (b + 12, .inl (cI, 16, .inl (fun _ => 0))) s.heap := hP 12 (by decide)
  have e13 : va_at D vwCl (b + 13, .inl (cI, 16, .inl (fun _ => 0))) s.heap := hP 13 (by decide)
  have hj4 : j < 4 := by omega
  obtain ⟨q0, q2, q3, q4, q5⟩ := hq
  obtain ⟨q0, q1⟩ := el_iff.mp q0
  refine lv_aload_n C.1 C.2.1 d_M_request_0 rfl (lv_at hl 0 rfl) ?_
  refine lv_iload_n C.1 C.2.1 d_M_request_1 rfl (lv_at hl 1 rfl) ?_
  refine hq_callV (lo := lo) (As := [.int (nI j)]) (rest := []) C tb_good hml Y_M_108 (c_noNode l D cI cZ cN cJ lo b n th (nI j)) e0 rfl (fun _ _ _ _ h => h) (fun U hU hW => by show va_at D vwCl (b, .inr (6, [.int (th), .int (nI n), .ref (b + 1), .ref (b + 2), .ref (b + 3), .ref (b + 4), .ref (b + 5), .ref (b + 6), .ref (b + 7), .ref (b + 8), .ref (b + 9), .ref (b + 10), .ref (b + 11), .ref (b + 12), .ref (b + 13), .ref (b + 14), .ref (b + 15), .ref (b + 16), .ref (b + 17), .ref (b + 18), .ref (b + 19), .ref (b + 20), .ref (b + 21), .ref (b + 22), .ref (b + 23), .ref (b + 24), .ref (b + 25), .ref (b + 26), .ref (b + 27), .ref (b + 28), .ref (b + 29), .ref (b + 30)])) U.heap; rw [hU]; exact e0) hL hl.1 rfl rfl ⟨⟨Nat.le_of_ble_eq_true rfl, Nat.le_of_ble_eq_true rfl⟩, Nat.le_of_ble_eq_true rfl, Nat.le_of_ble_eq_true rfl⟩ (Nat.le_of_ble_eq_true rfl) d_M_request_2 (fun v H41 locs hp hL => ?_)
  obtain ⟨rfl, rfl⟩ := hp
  refine W.eq (g2 := F0 m 5 ls [.int (nno n (nI j))]) rfl ?_
  rw [nno_ok hn hj]
  refine lv_if_ne (tgt := 44) C.1 C.2.1 d_M_request_5 (by decide) (fun hn => absurd hn (by decide)) (fun _ => ?_)
  refine lv_iload_n C.1 C.2.1 d_M_request_8 rfl (lv_at hl 2 rfl) ?_
  refine lv_if_lt (tgt := 44) C.1 C.2.1 d_M_request_9 (by decide) (fun hn => absurd hn (q0)) (fun _ => ?_)
  refine lv_iload_n C.1 C.2.1 d_M_request_12 rfl (lv_at hl 2 rfl) ?_
  refine lv_sipush (v := 2047) C.1 C.2.1 d_M_request_13 (by decide) ?_
  refine lv_icmp_gt (tgt := 44) C.1 C.2.1 d_M_request_16 (by decide) (fun hn => absurd hn (q1)) (fun _ => ?_)
  refine lv_iload_n C.1 C.2.1 d_M_request_19 rfl (lv_at hl 3 rfl) ?_
  refine lv_if_lt (tgt := 44) C.1 C.2.1 d_M_request_20 (by decide) (fun hn => absurd hn (q2)) (fun _ => ?_)
  refine lv_iload_n C.1 C.2.1 d_M_request_23 rfl (lv_at hl 3 rfl) ?_
  refine lv_iconst (v := 2) C.1 C.2.1 d_M_request_24 (by decide) ?_
  refine lv_icmp_gt (tgt := 44) C.1 C.2.1 d_M_request_25 (by decide) (fun hn => absurd hn (q3)) (fun _ => ?_)
  refine lv_iload C.1 C.2.1 d_M_request_28 (lv_at hl 4 rfl) ?_
  refine lv_if_lt (tgt := 44) C.1 C.2.1 d_M_request_30 (by decide) (fun hn => absurd hn (q4)) (fun _ => ?_)
  refine lv_iload C.1 C.2.1 d_M_request_33 (lv_at hl 4 rfl) ?_
  refine lv_iconst (v := 1) C.1 C.2.1 d_M_request_35 (by decide) ?_
  refine lv_bipush (v := 8) C.1 C.2.1 d_M_request_36 (by decide) ?_
  refine lv_iload_n C.1 C.2.1 d_M_request_38 rfl (lv_at hl 3 rfl) ?_
  refine lv_imul C.1 C.2.1 d_M_request_39 ?_
  refine lv_ishl C.1 C.2.1 d_M_request_40 ?_
  refine lv_icmp_lt (tgt := 48) C.1 C.2.1 d_M_request_41 (by decide) (fun _ => ?_) (fun hn => absurd (q5) hn)
  refine lv_iconst (v := 0) C.1 C.2.1 d_M_request_48 (by decide) ?_
  refine lv_istore C.1 C.2.1 d_M_request_49 hl (by decide) rfl (lv' := [(5, .int (0)), (0, .ref (b)), (1, .int (nI j)), (2, .int (a)), (3, .int (g)), (4, .int (d))]) (fun ls hl => ?_)
  refine lv_aload_n C.1 C.2.1 d_M_request_51 rfl (lv_at hl 1 rfl) ?_
  refine lv_iload C.1 C.2.1 d_M_request_52 (lv_at hl 0 rfl) ?_
  refine lv_if_eq (tgt := 61) C.1 C.2.1 d_M_request_54 (by decide) (fun _ => ?_) (fun hn => absurd (by decide) hn)
  refine lv_aload_n C.1 C.2.1 d_M_request_61 rfl (lv_at hl 1 rfl) ?_
  refine hq_get (v := .ref (b + 10)) C f_M_38 e0 rfl d_M_request_62 ?_
  refine lv_iload_n C.1 C.2.1 d_M_request_65 rfl (lv_at hl 2 rfl) ?_
  refine hq_iald C 0 rfl e10 (vp_in_nI hj4 (by decide)) d_M_request_66 ?_
  refine W.eq (g2 := F0 m 67 ls [.int (0), .ref (b)]) rfl ?_
  refine lv_iconst (v := 4) C.1 C.2.1 d_M_request_67 (by decide) ?_
  refine lv_icmp_eq (tgt := 82) C.1 C.2.1 d_M_request_68 (by decide) (fun hn => absurd hn (by decide)) (fun _ => ?_)
  refine lv_aload_n C.1 C.2.1 d_M_request_71 rfl (lv_at hl 1 rfl) ?_
  refine hq_get (v := .ref (b + 4)) C f_M_20 e0 rfl d_M_request_72 ?_
  refine lv_iload_n C.1 C.2.1 d_M_request_75 rfl (lv_at hl 2 rfl) ?_
  refine hq_iald C 0 rfl e4 (vp_in_nI hj4 (by decide)) d_M_request_76 ?_
  refine W.eq (g2 := F0 m 77 ls [.int (0), .ref (b)]) rfl ?_
  refine lv_bipush (v := 7) C.1 C.2.1 d_M_request_77 (by decide) ?_
  refine lv_icmp_ne (tgt := 86) C.1 C.2.1 d_M_request_79 (by decide) (fun _ => ?_) (fun hn => absurd hn (by decide))
  refine lv_iconst (v := 0) C.1 C.2.1 d_M_request_86 (by decide) ?_
  refine hq_put (lo := lo) C f_M_105 e0 rfl rfl (Nat.le_of_ble_eq_true rfl) hL (by omega) d_M_request_87 (fun H42 locs u43 hL => ?_)
  have k44 : va_at D vwCl (b, .inr (6, [.int (0), .int (nI n), .ref (b + 1), .ref (b + 2), .ref (b + 3), .ref (b + 4), .ref (b + 5), .ref (b + 6), .ref (b + 7), .ref (b + 8), .ref (b + 9), .ref (b + 10), .ref (b + 11), .ref (b + 12), .ref (b + 13), .ref (b + 14), .ref (b + 15), .ref (b + 16), .ref (b + 17), .ref (b + 18), .ref (b + 19), .ref (b + 20), .ref (b + 21), .ref (b + 22), .ref (b + 23), .ref (b + 24), .ref (b + 25), .ref (b + 26), .ref (b + 27), .ref (b + 28), .ref (b + 29), .ref (b + 30)])) H42 := u43.2.2
  refine lv_aload_n C.1 C.2.1 d_M_request_90 rfl (lv_at hl 1 rfl) ?_
  refine hq_get (v := .int (0)) C f_M_105 k44 rfl d_M_request_91 ?_
  refine lv_if_eq (tgt := 99) C.1 C.2.1 d_M_request_94 (by decide) (fun _ => ?_) (fun hn => absurd (by decide) hn)
  refine lv_iconst (v := 4) C.1 C.2.1 d_M_request_99 (by decide) ?_
  refine lv_iload_n C.1 C.2.1 d_M_request_100 rfl (lv_at hl 2 rfl) ?_
  refine lv_imul C.1 C.2.1 d_M_request_101 ?_
  refine lv_aload_n C.1 C.2.1 d_M_request_102 rfl (lv_at hl 1 rfl) ?_
  refine hq_get (v := .ref (b + 10)) C f_M_38 k44 rfl d_M_request_103 ?_
  refine lv_iload_n C.1 C.2.1 d_M_request_106 rfl (lv_at hl 2 rfl) ?_
  have k45 := hq_au e10 u43 (by omega)
  refine hq_iald C 0 rfl k45 (vp_in_nI hj4 (by decide)) d_M_request_107 ?_
  refine W.eq (g2 := F0 m 108 ls [.int (0), .int (4 * (nI j))]) rfl ?_
  refine lv_iadd C.1 C.2.1 d_M_request_108 ?_
  rw [show (4 : Int32) * nI j + 0 = nI (4 * j) from by rw [Int32.add_zero]; exact pk_mul 4 j]
  refine lv_istore C.1 C.2.1 d_M_request_109 hl (by decide) rfl (lv' := [(6, .int (nI (4 * j))), (5, .int (0)), (0, .ref (b)), (1, .int (nI j)), (2, .int (a)), (3, .int (g)), (4, .int (d))]) (fun ls hl => ?_)
  refine lv_aload_n C.1 C.2.1 d_M_request_111 rfl (lv_at hl 2 rfl) ?_
  refine hq_get (v := .ref (b + 11)) C f_M_41 k44 rfl d_M_request_112 ?_
  refine lv_iload C.1 C.2.1 d_M_request_115 (lv_at hl 0 rfl) ?_
  refine lv_iload_n C.1 C.2.1 d_M_request_117 rfl (lv_at hl 4 rfl) ?_
  have k46 := hq_au e11 u43 (by omega)
  refine hq_iast (lo := lo) C 0 rfl k46 (vp_in_nI (by omega) (by decide)) hL (by omega) d_M_request_118 (fun H47 locs u48 hL => ?_)
  have k49 : va_at D vwCl (b + 11, .inl (cI, 16, .inl (upd (fun _ => 0) (nI (4 * j)).toNatClampNeg a))) H47 := u48.2.2
  refine lv_aload_n C.1 C.2.1 d_M_request_119 rfl (lv_at hl 2 rfl) ?_
  have k50 := hq_au k44 u48 (by omega)
  refine hq_get (v := .ref (b + 12)) C f_M_44 k50 rfl d_M_request_120 ?_
  refine lv_iload C.1 C.2.1 d_M_request_123 (lv_at hl 0 rfl) ?_
  refine lv_iload_n C.1 C.2.1 d_M_request_125 rfl (lv_at hl 5 rfl) ?_
  have k51 := hq_au (hq_au e12 u43 (by omega)) u48 (by omega)
  refine hq_iast (lo := lo) C 0 rfl k51 (vp_in_nI (by omega) (by decide)) hL (by omega) d_M_request_126 (fun H52 locs u53 hL => ?_)
  have k54 : va_at D vwCl (b + 12, .inl (cI, 16, .inl (upd (fun _ => 0) (nI (4 * j)).toNatClampNeg g))) H52 := u53.2.2
  refine lv_aload_n C.1 C.2.1 d_M_request_127 rfl (lv_at hl 2 rfl) ?_
  have k55 := hq_au k50 u53 (by omega)
  refine hq_get (v := .ref (b + 13)) C f_M_47 k55 rfl d_M_request_128 ?_
  refine lv_iload C.1 C.2.1 d_M_request_131 (lv_at hl 0 rfl) ?_
  refine lv_iload C.1 C.2.1 d_M_request_133 (lv_at hl 6 rfl) ?_
  have k56 := hq_au (hq_au (hq_au e13 u43 (by omega)) u48 (by omega)) u53 (by omega)
  refine hq_iast (lo := lo) C 0 rfl k56 (vp_in_nI (by omega) (by decide)) hL (by omega) d_M_request_135 (fun H57 locs u58 hL => ?_)
  have k59 : va_at D vwCl (b + 13, .inl (cI, 16, .inl (upd (fun _ => 0) (nI (4 * j)).toNatClampNeg d))) H57 := u58.2.2
  refine lv_aload_n C.1 C.2.1 d_M_request_136 rfl (lv_at hl 2 rfl) ?_
  have k60 := hq_au k55 u58 (by omega)
  refine hq_get (v := .ref (b + 10)) C f_M_38 k60 rfl d_M_request_137 ?_
  refine lv_iload_n C.1 C.2.1 d_M_request_140 rfl (lv_at hl 3 rfl) ?_
  refine lv_dup2_11 C.1 C.2.1 d_M_request_141 rfl rfl ?_
  have k61 := hq_au (hq_au (hq_au k45 u48 (by omega)) u53 (by omega)) u58 (by omega)
  refine hq_iald C 0 rfl k61 (vp_in_nI hj4 (by decide)) d_M_request_142 ?_
  refine W.eq (g2 := F0 m 143 ls [.int (0), .int (nI j), .ref (b + 10)]) rfl ?_
  refine lv_iconst (v := 1) C.1 C.2.1 d_M_request_143 (by decide) ?_
  refine lv_iadd C.1 C.2.1 d_M_request_144 ?_
  rw [show (0 : Int32) + 1 = 1 from rfl]
  refine hq_iast (lo := lo) C 0 rfl k61 (vp_in_nI hj4 (by decide)) hL (by omega) d_M_request_145 (fun H62 locs u63 hL => ?_)
  have k64 : va_at D vwCl (b + 10, .inl (cI, 4, .inl (upd (fun _ => 0) (nI j).toNatClampNeg 1))) H62 := u63.2.2
  refine lv_aload_n C.1 C.2.1 d_M_request_146 rfl (lv_at hl 2 rfl) ?_
  have k65 := hq_au k60 u63 (by omega)
  refine hq_get (v := .ref (b + 10)) C f_M_38 k65 rfl d_M_request_147 ?_
  refine lv_iload_n C.1 C.2.1 d_M_request_150 rfl (lv_at hl 3 rfl) ?_
  refine hq_iald C 0 rfl k64 (vp_in_nI hj4 (by decide)) d_M_request_151 ?_
  rw [show upd (fun _ => (0 : Int32)) (nI j).toNatClampNeg 1 (nI j).toNatClampNeg = 1 from pk_us]
  refine W.eq (g2 := F0 m 152 ls [.int (1)]) rfl ?_
  exact hq_iret C hret hlk (Nat.le_of_ble_eq_true rfl) (Nat.le_of_ble_eq_true rfl) hL ⟨rfl, k65, hq_Sput (hq_Sput (hq_Sput (hq_Sput (hq_Sput hq_S0 u43 (by omega) (by omega)) u48 (by omega) (by omega)) u53 (by omega) (by omega)) u58 (by omega) (by omega)) u63 (by omega) (by omega)⟩ d_M_request_152
theorem md_nlt {a : Int32} (h : a ≤ 2047) : ¬ (2047 : Int32) < a := Int32.not_lt.mpr h
theorem md_nlt' {a : Int32} (h : ¬ (2047 : Int32) < a) : a ≤ 2047 := Int32.not_lt.mp h
set_option maxHeartbeats 4000000 in
set_option maxRecDepth 100000 in
theorem m_filter_f (l : Launch) (D : va_G) (cI cZ cN cJ : ClassId) (lo : Nat) (b n : Nat) (th : Int32) (hlo : lo ≤ b) (j : Nat) (hn : n ≤ 4) (hj : j < n) (a g : Int32) (hb : ¬ (¬ el a = 0 ∧ ¬ el g = 0)) : hq_M l y_M_filter b_M_filter 4 none TB { frames := 2, cells := 0, slots := 0, locals := 60 } lo D vwCl (TY cI cZ cN cJ) [.ref (b), .int (nI j), .int (a), .int (g)] (fun U => hq_B D vwCl b 31 (mdC cI cZ b th (nI n) (fun _ _ => 0)) U.heap) (fun H v H' => v = none ∧ va_at D vwCl (b, .inr (6, [.int (1), .int (nI n), .ref (b + 1), .ref (b + 2), .ref (b + 3), .ref (b + 4), .ref (b + 5), .ref (b + 6), .ref (b + 7), .ref (b + 8), .ref (b + 9), .ref (b + 10), .ref (b + 11), .ref (b + 12), .ref (b + 13), .ref (b + 14), .ref (b + 15), .ref (b + 16), .ref (b + 17), .ref (b + 18), .ref (b + 19), .ref (b + 20), .ref (b + 21), .ref (b + 22), .ref (b + 23), .ref (b + 24), .ref (b + 25), .ref (b + 26), .ref (b + 27), .ref (b + 28), .ref (b + 29), .ref (b + 30)])) H' ∧ hq_S b 31 H H') := by
  refine hq_ofW (by decide) (Nat.le_of_ble_eq_true rfl) ?_
  intro p e s m below meth c ls C hml hret hlk hnm hl hP
  have hL : hq_L lo [] := hq_L0
  have hl : lv_has ls 4 [(0, .ref (b)), (1, .int (nI j)), (2, .int (a)), (3, .int (g))] := hl
  have e0 : va_at D vwCl (b, .inr (6, [.int (th), .int (nI n), .ref (b + 1), .ref (b + 2), .ref (b + 3), .ref (b + 4), .ref (b + 5), .ref (b + 6), .ref (b + 7), .ref (b + 8), .ref (b + 9), .ref (b + 10), .ref (b + 11), .ref (b + 12), .ref (b + 13), .ref (b + 14), .ref (b + 15), .ref (b + 16), .ref (b + 17), .ref (b + 18), .ref (b + 19), .ref (b + 20), .ref (b + 21), .ref (b + 22), .ref (b + 23), .ref (b + 24), .ref (b + 25), .ref (b + 26), .ref (b + 27), .ref (b + 28), .ref (b + 29), .ref (b + 30)])) s.heap := hP 0 (by decide)
  refine lv_aload_n C.1 C.2.1 d_M_filter_0 rfl (lv_at hl 0 rfl) ?_
  refine lv_aload_n C.1 C.2.1 d_M_filter_1 rfl (lv_at hl 0 rfl) ?_
  refine lv_iload_n C.1 C.2.1 d_M_filter_2 rfl (lv_at hl 1 rfl) ?_
  refine hq_callV (lo := lo) (As := [.int (nI j)]) (rest := [.ref (b)]) C tb_good hml Y_M_108 (c_noNode l D cI cZ cN cJ lo b n th (nI j)) e0 rfl (fun _ _ _ _ h => h) (fun U hU hW => by show va_at D vwCl (b, .inr (6, [.int (th), .int (nI n), .ref (b + 1), .ref (b + 2), .ref (b + 3), .ref (b + 4), .ref (b + 5), .ref (b + 6), .ref (b + 7), .ref (b + 8), .ref (b + 9), .ref (b + 10), .ref (b + 11), .ref (b + 12), .ref (b + 13), .ref (b + 14), .ref (b + 15), .ref (b + 16), .ref (b + 17), .ref (b + 18), .ref (b + 19), .ref (b + 20), .ref (b + 21), .ref (b + 22), .ref (b + 23), .ref (b + 24), .ref (b + 25), .ref (b + 26), .ref (b + 27), .ref (b + 28), .ref (b + 29), .ref (b + 30)])) U.heap; rw [hU]; exact e0) hL hl.1 rfl rfl ⟨⟨Nat.le_of_ble_eq_true rfl, Nat.le_of_ble_eq_true rfl⟩, Nat.le_of_ble_eq_true rfl, Nat.le_of_ble_eq_true rfl⟩ (Nat.le_of_ble_eq_true rfl) d_M_filter_3 (fun v H41 locs hp hL => ?_)
  obtain ⟨rfl, rfl⟩ := hp
  refine W.eq (g2 := F0 m 6 ls [.int (nno n (nI j)), .ref (b)]) rfl ?_
  rw [nno_ok hn hj]
  refine lv_if_ne (tgt := 31) C.1 C.2.1 d_M_filter_6 (by decide) (fun hn => absurd hn (by decide)) (fun _ => ?_)
  refine lv_iload_n C.1 C.2.1 d_M_filter_9 rfl (lv_at hl 2 rfl) ?_
  refine lv_if_lt (tgt := 31) C.1 C.2.1 d_M_filter_10 (by decide) ?_ ?_
  · intro c0
    refine lv_iconst (v := 1) C.1 C.2.1 d_M_filter_31 (by decide) ?_
    refine lv_goto (tgt := 36) C.1 C.2.1 d_M_filter_32 (by decide) ?_
    refine hq_put (lo := lo) C f_M_105 e0 rfl rfl (Nat.le_of_ble_eq_true rfl) hL (by omega) d_M_filter_36 (fun H42 locs u43 hL => ?_)
    have k44 : va_at D vwCl (b, .inr (6, [.int (1), .int (nI n), .ref (b + 1), .ref (b + 2), .ref (b + 3), .ref (b + 4), .ref (b + 5), .ref (b + 6), .ref (b + 7), .ref (b + 8), .ref (b + 9), .ref (b + 10), .ref (b + 11), .ref (b + 12), .ref (b + 13), .ref (b + 14), .ref (b + 15), .ref (b + 16), .ref (b + 17), .ref (b + 18), .ref (b + 19), .ref (b + 20), .ref (b + 21), .ref (b + 22), .ref (b + 23), .ref (b + 24), .ref (b + 25), .ref (b + 26), .ref (b + 27), .ref (b + 28), .ref (b + 29), .ref (b + 30)])) H42 := u43.2.2
    refine lv_aload_n C.1 C.2.1 d_M_filter_39 rfl (lv_at hl 0 rfl) ?_
    refine hq_get (v := .int (1)) C f_M_105 k44 rfl d_M_filter_40 ?_
    refine lv_if_ne (tgt := 60) C.1 C.2.1 d_M_filter_43 (by decide) (fun _ => ?_) (fun hn => absurd hn (by decide))
    exact hq_vret C hret hlk (Nat.le_of_ble_eq_true rfl) (Nat.le_of_ble_eq_true rfl) hL ⟨rfl, k44, hq_Sput hq_S0 u43 (by omega) (by omega)⟩ d_M_filter_60
  · intro c0
    refine lv_iload_n C.1 C.2.1 d_M_filter_13 rfl (lv_at hl 2 rfl) ?_
    refine lv_sipush (v := 2047) C.1 C.2.1 d_M_filter_14 (by decide) ?_
    refine lv_icmp_gt (tgt := 31) C.1 C.2.1 d_M_filter_17 (by decide) ?_ ?_
    · intro c1
      refine lv_iconst (v := 1) C.1 C.2.1 d_M_filter_31 (by decide) ?_
      refine lv_goto (tgt := 36) C.1 C.2.1 d_M_filter_32 (by decide) ?_
      refine hq_put (lo := lo) C f_M_105 e0 rfl rfl (Nat.le_of_ble_eq_true rfl) hL (by omega) d_M_filter_36 (fun H45 locs u46 hL => ?_)
      have k47 : va_at D vwCl (b, .inr (6, [.int (1), .int (nI n), .ref (b + 1), .ref (b + 2), .ref (b + 3), .ref (b + 4), .ref (b + 5), .ref (b + 6), .ref (b + 7), .ref (b + 8), .ref (b + 9), .ref (b + 10), .ref (b + 11), .ref (b + 12), .ref (b + 13), .ref (b + 14), .ref (b + 15), .ref (b + 16), .ref (b + 17), .ref (b + 18), .ref (b + 19), .ref (b + 20), .ref (b + 21), .ref (b + 22), .ref (b + 23), .ref (b + 24), .ref (b + 25), .ref (b + 26), .ref (b + 27), .ref (b + 28), .ref (b + 29), .ref (b + 30)])) H45 := u46.2.2
      refine lv_aload_n C.1 C.2.1 d_M_filter_39 rfl (lv_at hl 0 rfl) ?_
      refine hq_get (v := .int (1)) C f_M_105 k47 rfl d_M_filter_40 ?_
      refine lv_if_ne (tgt := 60) C.1 C.2.1 d_M_filter_43 (by decide) (fun _ => ?_) (fun hn => absurd hn (by decide))
      exact hq_vret C hret hlk (Nat.le_of_ble_eq_true rfl) (Nat.le_of_ble_eq_true rfl) hL ⟨rfl, k47, hq_Sput hq_S0 u46 (by omega) (by omega)⟩ d_M_filter_60
    · intro c1
      refine lv_iload_n C.1 C.2.1 d_M_filter_20 rfl (lv_at hl 3 rfl) ?_
      refine lv_if_lt (tgt := 31) C.1 C.2.1 d_M_filter_21 (by decide) ?_ ?_
      · intro c2
        refine lv_iconst (v := 1) C.1 C.2.1 d_M_filter_31 (by decide) ?_
        refine lv_goto (tgt := 36) C.1 C.2.1 d_M_filter_32 (by decide) ?_
        refine hq_put (lo := lo) C f_M_105 e0 rfl rfl (Nat.le_of_ble_eq_true rfl) hL (by omega) d_M_filter_36 (fun H48 locs u49 hL => ?_)
        have k50 : va_at D vwCl (b, .inr (6, [.int (1), .int (nI n), .ref (b + 1), .ref (b + 2), .ref (b + 3), .ref (b + 4), .ref (b + 5), .ref (b + 6), .ref (b + 7), .ref (b + 8), .ref (b + 9), .ref (b + 10), .ref (b + 11), .ref (b + 12), .ref (b + 13), .ref (b + 14), .ref (b + 15), .ref (b + 16), .ref (b + 17), .ref (b + 18), .ref (b + 19), .ref (b + 20), .ref (b + 21), .ref (b + 22), .ref (b + 23), .ref (b + 24), .ref (b + 25), .ref (b + 26), .ref (b + 27), .ref (b + 28), .ref (b + 29), .ref (b + 30)])) H48 := u49.2.2
        refine lv_aload_n C.1 C.2.1 d_M_filter_39 rfl (lv_at hl 0 rfl) ?_
        refine hq_get (v := .int (1)) C f_M_105 k50 rfl d_M_filter_40 ?_
        refine lv_if_ne (tgt := 60) C.1 C.2.1 d_M_filter_43 (by decide) (fun _ => ?_) (fun hn => absurd hn (by decide))
        exact hq_vret C hret hlk (Nat.le_of_ble_eq_true rfl) (Nat.le_of_ble_eq_true rfl) hL ⟨rfl, k50, hq_Sput hq_S0 u49 (by omega) (by omega)⟩ d_M_filter_60
      · intro c2
        refine lv_iload_n C.1 C.2.1 d_M_filter_24 rfl (lv_at hl 3 rfl) ?_
        refine lv_sipush (v := 2047) C.1 C.2.1 d_M_filter_25 (by decide) ?_
        refine lv_icmp_le (tgt := 35) C.1 C.2.1 d_M_filter_28 (by decide) ?_ ?_
        · intro c3
          exact absurd (⟨el_iff.mpr ⟨c0, c1⟩, el_iff.mpr ⟨c2, md_nlt c3⟩⟩) hb
        · intro c3
          refine lv_iconst (v := 1) C.1 C.2.1 d_M_filter_31 (by decide) ?_
          refine lv_goto (tgt := 36) C.1 C.2.1 d_M_filter_32 (by decide) ?_
          refine hq_put (lo := lo) C f_M_105 e0 rfl rfl (Nat.le_of_ble_eq_true rfl) hL (by omega) d_M_filter_36 (fun H51 locs u52 hL => ?_)
          have k53 : va_at D vwCl (b, .inr (6, [.int (1), .int (nI n), .ref (b + 1), .ref (b + 2), .ref (b + 3), .ref (b + 4), .ref (b + 5), .ref (b + 6), .ref (b + 7), .ref (b + 8), .ref (b + 9), .ref (b + 10), .ref (b + 11), .ref (b + 12), .ref (b + 13), .ref (b + 14), .ref (b + 15), .ref (b + 16), .ref (b + 17), .ref (b + 18), .ref (b + 19), .ref (b + 20), .ref (b + 21), .ref (b + 22), .ref (b + 23), .ref (b + 24), .ref (b + 25), .ref (b + 26), .ref (b + 27), .ref (b + 28), .ref (b + 29), .ref (b + 30)])) H51 := u52.2.2
          refine lv_aload_n C.1 C.2.1 d_M_filter_39 rfl (lv_at hl 0 rfl) ?_
          refine hq_get (v := .int (1)) C f_M_105 k53 rfl d_M_filter_40 ?_
          refine lv_if_ne (tgt := 60) C.1 C.2.1 d_M_filter_43 (by decide) (fun _ => ?_) (fun hn => absurd hn (by decide))
          exact hq_vret C hret hlk (Nat.le_of_ble_eq_true rfl) (Nat.le_of_ble_eq_true rfl) hL ⟨rfl, k53, hq_Sput hq_S0 u52 (by omega) (by omega)⟩ d_M_filter_60
set_option maxHeartbeats 4000000 in
set_option maxRecDepth 100000 in
theorem m_filter_g (l : Launch) (D : va_G) (cI cZ cN cJ : ClassId) (lo : Nat) (b n : Nat) (th : Int32) (hlo : lo ≤ b) (j : Nat) (hn : n ≤ 4) (hj : j < n) (a g : Int32) (ha : ¬ el a = 0) (hc : ¬ el g = 0) : hq_M l y_M_filter b_M_filter 4 none TB { frames := 2, cells := 0, slots := 0, locals := 60 } lo D vwCl (TY cI cZ cN cJ) [.ref (b), .int (nI j), .int (a), .int (g)] (fun U => hq_B D vwCl b 31 (mdC cI cZ b th (nI n) (fun _ _ => 0)) U.heap) (fun H v H' => v = none ∧ va_at D vwCl (b, .inr (6, [.int (0), .int (nI n), .ref (b + 1), .ref (b + 2), .ref (b + 3), .ref (b + 4), .ref (b + 5), .ref (b + 6), .ref (b + 7), .ref (b + 8), .ref (b + 9), .ref (b + 10), .ref (b + 11), .ref (b + 12), .ref (b + 13), .ref (b + 14), .ref (b + 15), .ref (b + 16), .ref (b + 17), .ref (b + 18), .ref (b + 19), .ref (b + 20), .ref (b + 21), .ref (b + 22), .ref (b + 23), .ref (b + 24), .ref (b + 25), .ref (b + 26), .ref (b + 27), .ref (b + 28), .ref (b + 29), .ref (b + 30)])) H' ∧ hq_S b 31 H H') := by
  refine hq_ofW (by decide) (Nat.le_of_ble_eq_true rfl) ?_
  intro p e s m below meth c ls C hml hret hlk hnm hl hP
  have hL : hq_L lo [] := hq_L0
  have hl : lv_has ls 4 [(0, .ref (b)), (1, .int (nI j)), (2, .int (a)), (3, .int (g))] := hl
  have e0 : va_at D vwCl (b, .inr (6, [.int (th), .int (nI n), .ref (b + 1), .ref (b + 2), .ref (b + 3), .ref (b + 4), .ref (b + 5), .ref (b + 6), .ref (b + 7), .ref (b + 8), .ref (b + 9), .ref (b + 10), .ref (b + 11), .ref (b + 12), .ref (b + 13), .ref (b + 14), .ref (b + 15), .ref (b + 16), .ref (b + 17), .ref (b + 18), .ref (b + 19), .ref (b + 20), .ref (b + 21), .ref (b + 22), .ref (b + 23), .ref (b + 24), .ref (b + 25), .ref (b + 26), .ref (b + 27), .ref (b + 28), .ref (b + 29), .ref (b + 30)])) s.heap := hP 0 (by decide)
  have e7 : va_at D vwCl (b + 7, .inl (cI, 4, .inl (fun _ => 0))) s.heap := hP 7 (by decide)
  have e8 : va_at D vwCl (b + 8, .inl (cI, 4, .inl (fun _ => 0))) s.heap := hP 8 (by decide)
  have hj4 : j < 4 := by omega
  obtain ⟨q0, q1⟩ := el_iff.mp ha
  obtain ⟨q2, q3⟩ := el_iff.mp hc
  refine lv_aload_n C.1 C.2.1 d_M_filter_0 rfl (lv_at hl 0 rfl) ?_
  refine lv_aload_n C.1 C.2.1 d_M_filter_1 rfl (lv_at hl 0 rfl) ?_
  refine lv_iload_n C.1 C.2.1 d_M_filter_2 rfl (lv_at hl 1 rfl) ?_
  refine hq_callV (lo := lo) (As := [.int (nI j)]) (rest := [.ref (b)]) C tb_good hml Y_M_108 (c_noNode l D cI cZ cN cJ lo b n th (nI j)) e0 rfl (fun _ _ _ _ h => h) (fun U hU hW => by show va_at D vwCl (b, .inr (6, [.int (th), .int (nI n), .ref (b + 1), .ref (b + 2), .ref (b + 3), .ref (b + 4), .ref (b + 5), .ref (b + 6), .ref (b + 7), .ref (b + 8), .ref (b + 9), .ref (b + 10), .ref (b + 11), .ref (b + 12), .ref (b + 13), .ref (b + 14), .ref (b + 15), .ref (b + 16), .ref (b + 17), .ref (b + 18), .ref (b + 19), .ref (b + 20), .ref (b + 21), .ref (b + 22), .ref (b + 23), .ref (b + 24), .ref (b + 25), .ref (b + 26), .ref (b + 27), .ref (b + 28), .ref (b + 29), .ref (b + 30)])) U.heap; rw [hU]; exact e0) hL hl.1 rfl rfl ⟨⟨Nat.le_of_ble_eq_true rfl, Nat.le_of_ble_eq_true rfl⟩, Nat.le_of_ble_eq_true rfl, Nat.le_of_ble_eq_true rfl⟩ (Nat.le_of_ble_eq_true rfl) d_M_filter_3 (fun v H41 locs hp hL => ?_)
  obtain ⟨rfl, rfl⟩ := hp
  refine W.eq (g2 := F0 m 6 ls [.int (nno n (nI j)), .ref (b)]) rfl ?_
  rw [nno_ok hn hj]
  refine lv_if_ne (tgt := 31) C.1 C.2.1 d_M_filter_6 (by decide) (fun hn => absurd hn (by decide)) (fun _ => ?_)
  refine lv_iload_n C.1 C.2.1 d_M_filter_9 rfl (lv_at hl 2 rfl) ?_
  refine lv_if_lt (tgt := 31) C.1 C.2.1 d_M_filter_10 (by decide) (fun hn => absurd hn (q0)) (fun _ => ?_)
  refine lv_iload_n C.1 C.2.1 d_M_filter_13 rfl (lv_at hl 2 rfl) ?_
  refine lv_sipush (v := 2047) C.1 C.2.1 d_M_filter_14 (by decide) ?_
  refine lv_icmp_gt (tgt := 31) C.1 C.2.1 d_M_filter_17 (by decide) (fun hn => absurd hn (q1)) (fun _ => ?_)
  refine lv_iload_n C.1 C.2.1 d_M_filter_20 rfl (lv_at hl 3 rfl) ?_
  refine lv_if_lt (tgt := 31) C.1 C.2.1 d_M_filter_21 (by decide) (fun hn => absurd hn (q2)) (fun _ => ?_)
  refine lv_iload_n C.1 C.2.1 d_M_filter_24 rfl (lv_at hl 3 rfl) ?_
  refine lv_sipush (v := 2047) C.1 C.2.1 d_M_filter_25 (by decide) ?_
  refine lv_icmp_le (tgt := 35) C.1 C.2.1 d_M_filter_28 (by decide) (fun _ => ?_) (fun hn => absurd (md_nlt' q3) hn)
  refine lv_iconst (v := 0) C.1 C.2.1 d_M_filter_35 (by decide) ?_
  refine hq_put (lo := lo) C f_M_105 e0 rfl rfl (Nat.le_of_ble_eq_true rfl) hL (by omega) d_M_filter_36 (fun H42 locs u43 hL => ?_)
  have k44 : va_at D vwCl (b, .inr (6, [.int (0), .int (nI n), .ref (b + 1), .ref (b + 2), .ref (b + 3), .ref (b + 4), .ref (b + 5), .ref (b + 6), .ref (b + 7), .ref (b + 8), .ref (b + 9), .ref (b + 10), .ref (b + 11), .ref (b + 12), .ref (b + 13), .ref (b + 14), .ref (b + 15), .ref (b + 16), .ref (b + 17), .ref (b + 18), .ref (b + 19), .ref (b + 20), .ref (b + 21), .ref (b + 22), .ref (b + 23), .ref (b + 24), .ref (b + 25), .ref (b + 26), .ref (b + 27), .ref (b + 28), .ref (b + 29), .ref (b + 30)])) H42 := u43.2.2
  refine lv_aload_n C.1 C.2.1 d_M_filter_39 rfl (lv_at hl 0 rfl) ?_
  refine hq_get (v := .int (0)) C f_M_105 k44 rfl d_M_filter_40 ?_
  refine lv_if_ne (tgt := 60) C.1 C.2.1 d_M_filter_43 (by decide) (fun hn => absurd hn (by decide)) (fun _ => ?_)
  refine lv_aload_n C.1 C.2.1 d_M_filter_46 rfl (lv_at hl 0 rfl) ?_
  refine hq_get (v := .ref (b + 7)) C f_M_29 k44 rfl d_M_filter_47 ?_
  refine lv_iload_n C.1 C.2.1 d_M_filter_50 rfl (lv_at hl 1 rfl) ?_
  refine lv_iload_n C.1 C.2.1 d_M_filter_51 rfl (lv_at hl 2 rfl) ?_
  have k45 := hq_au e7 u43 (by omega)
  refine hq_iast (lo := lo) C 0 rfl k45 (vp_in_nI hj4 (by decide)) hL (by omega) d_M_filter_52 (fun H46 locs u47 hL => ?_)
  have k48 : va_at D vwCl (b + 7, .inl (cI, 4, .inl (upd (fun _ => 0) (nI j).toNatClampNeg a))) H46 := u47.2.2
  refine lv_aload_n C.1 C.2.1 d_M_filter_53 rfl (lv_at hl 0 rfl) ?_
  have k49 := hq_au k44 u47 (by omega)
  refine hq_get (v := .ref (b + 8)) C f_M_32 k49 rfl d_M_filter_54 ?_
  refine lv_iload_n C.1 C.2.1 d_M_filter_57 rfl (lv_at hl 1 rfl) ?_
  refine lv_iload_n C.1 C.2.1 d_M_filter_58 rfl (lv_at hl 3 rfl) ?_
  have k50 := hq_au (hq_au e8 u43 (by omega)) u47 (by omega)
  refine hq_iast (lo := lo) C 0 rfl k50 (vp_in_nI hj4 (by decide)) hL (by omega) d_M_filter_59 (fun H51 locs u52 hL => ?_)
  have k53 : va_at D vwCl (b + 8, .inl (cI, 4, .inl (upd (fun _ => 0) (nI j).toNatClampNeg g))) H51 := u52.2.2
  have k54 := hq_au k49 u52 (by omega)
  exact hq_vret C hret hlk (Nat.le_of_ble_eq_true rfl) (Nat.le_of_ble_eq_true rfl) hL ⟨rfl, k54, hq_Sput (hq_Sput (hq_Sput hq_S0 u43 (by omega) (by omega)) u47 (by omega) (by omega)) u52 (by omega) (by omega)⟩ d_M_filter_60
set_option maxHeartbeats 4000000 in
set_option maxRecDepth 100000 in
theorem m_disturb_f (l : Launch) (D : va_G) (cI cZ cN cJ : ClassId) (lo : Nat) (b n : Nat) (th : Int32) (hlo : lo ≤ b) (j : Nat) (hn : n ≤ 4) (hj : j < n) (a : Int32) (hb : a < 1 ∨ ¬ a ≤ 200) : hq_M l y_M_disturb b_M_disturb 3 none TB { frames := 2, cells := 0, slots := 0, locals := 60 } lo D vwCl (TY cI cZ cN cJ) [.ref (b), .int (nI j), .int (a)] (fun U => hq_B D vwCl b 31 (mdC cI cZ b th (nI n) (fun _ _ => 0)) U.heap) (fun H v H' => v = none ∧ va_at D vwCl (b, .inr (6, [.int (1), .int (nI n), .ref (b + 1), .ref (b + 2), .ref (b + 3), .ref (b + 4), .ref (b + 5), .ref (b + 6), .ref (b + 7), .ref (b + 8), .ref (b + 9), .ref (b + 10), .ref (b + 11), .ref (b + 12), .ref (b + 13), .ref (b + 14), .ref (b + 15), .ref (b + 16), .ref (b + 17), .ref (b + 18), .ref (b + 19), .ref (b + 20), .ref (b + 21), .ref (b + 22), .ref (b + 23), .ref (b + 24), .ref (b + 25), .ref (b + 26), .ref (b + 27), .ref (b + 28), .ref (b + 29), .ref (b + 30)])) H' ∧ hq_S b 31 H H') := by
  refine hq_ofW (by decide) (Nat.le_of_ble_eq_true rfl) ?_
  intro p e s m below meth c ls C hml hret hlk hnm hl hP
  have hL : hq_L lo [] := hq_L0
  have hl : lv_has ls 3 [(0, .ref (b)), (1, .int (nI j)), (2, .int (a))] := hl
  have e0 : va_at D vwCl (b, .inr (6, [.int (th), .int (nI n), .ref (b + 1), .ref (b + 2), .ref (b + 3), .ref (b + 4), .ref (b + 5), .ref (b + 6), .ref (b + 7), .ref (b + 8), .ref (b + 9), .ref (b + 10), .ref (b + 11), .ref (b + 12), .ref (b + 13), .ref (b + 14), .ref (b + 15), .ref (b + 16), .ref (b + 17), .ref (b + 18), .ref (b + 19), .ref (b + 20), .ref (b + 21), .ref (b + 22), .ref (b + 23), .ref (b + 24), .ref (b + 25), .ref (b + 26), .ref (b + 27), .ref (b + 28), .ref (b + 29), .ref (b + 30)])) s.heap := hP 0 (by decide)
  refine lv_aload_n C.1 C.2.1 d_M_disturb_0 rfl (lv_at hl 0 rfl) ?_
  refine lv_aload_n C.1 C.2.1 d_M_disturb_1 rfl (lv_at hl 0 rfl) ?_
  refine lv_iload_n C.1 C.2.1 d_M_disturb_2 rfl (lv_at hl 1 rfl) ?_
  refine hq_callV (lo := lo) (As := [.int (nI j)]) (rest := [.ref (b)]) C tb_good hml Y_M_108 (c_noNode l D cI cZ cN cJ lo b n th (nI j)) e0 rfl (fun _ _ _ _ h => h) (fun U hU hW => by show va_at D vwCl (b, .inr (6, [.int (th), .int (nI n), .ref (b + 1), .ref (b + 2), .ref (b + 3), .ref (b + 4), .ref (b + 5), .ref (b + 6), .ref (b + 7), .ref (b + 8), .ref (b + 9), .ref (b + 10), .ref (b + 11), .ref (b + 12), .ref (b + 13), .ref (b + 14), .ref (b + 15), .ref (b + 16), .ref (b + 17), .ref (b + 18), .ref (b + 19), .ref (b + 20), .ref (b + 21), .ref (b + 22), .ref (b + 23), .ref (b + 24), .ref (b + 25), .ref (b + 26), .ref (b + 27), .ref (b + 28), .ref (b + 29), .ref (b + 30)])) U.heap; rw [hU]; exact e0) hL hl.1 rfl rfl ⟨⟨Nat.le_of_ble_eq_true rfl, Nat.le_of_ble_eq_true rfl⟩, Nat.le_of_ble_eq_true rfl, Nat.le_of_ble_eq_true rfl⟩ (Nat.le_of_ble_eq_true rfl) d_M_disturb_3 (fun v H41 locs hp hL => ?_)
  obtain ⟨rfl, rfl⟩ := hp
  refine W.eq (g2 := F0 m 6 ls [.int (nno n (nI j)), .ref (b)]) rfl ?_
  rw [nno_ok hn hj]
  refine lv_if_ne (tgt := 21) C.1 C.2.1 d_M_disturb_6 (by decide) (fun hn => absurd hn (by decide)) (fun _ => ?_)
  refine lv_iload_n C.1 C.2.1 d_M_disturb_9 rfl (lv_at hl 2 rfl) ?_
  refine lv_iconst (v := 1) C.1 C.2.1 d_M_disturb_10 (by decide) ?_
  refine lv_icmp_lt (tgt := 21) C.1 C.2.1 d_M_disturb_11 (by decide) ?_ ?_
  · intro c0
    refine lv_iconst (v := 1) C.1 C.2.1 d_M_disturb_21 (by decide) ?_
    refine lv_goto (tgt := 26) C.1 C.2.1 d_M_disturb_22 (by decide) ?_
    refine hq_put (lo := lo) C f_M_105 e0 rfl rfl (Nat.le_of_ble_eq_true rfl) hL (by omega) d_M_disturb_26 (fun H42 locs u43 hL => ?_)
    have k44 : va_at D vwCl (b, .inr (6, [.int (1), .int (nI n), .ref (b + 1), .ref (b + 2), .ref (b + 3), .ref (b + 4), .ref (b + 5), .ref (b + 6), .ref (b + 7), .ref (b + 8), .ref (b + 9), .ref (b + 10), .ref (b + 11), .ref (b + 12), .ref (b + 13), .ref (b + 14), .ref (b + 15), .ref (b + 16), .ref (b + 17), .ref (b + 18), .ref (b + 19), .ref (b + 20), .ref (b + 21), .ref (b + 22), .ref (b + 23), .ref (b + 24), .ref (b + 25), .ref (b + 26), .ref (b + 27), .ref (b + 28), .ref (b + 29), .ref (b + 30)])) H42 := u43.2.2
    refine lv_aload_n C.1 C.2.1 d_M_disturb_29 rfl (lv_at hl 0 rfl) ?_
    refine hq_get (v := .int (1)) C f_M_105 k44 rfl d_M_disturb_30 ?_
    refine lv_if_ne (tgt := 60) C.1 C.2.1 d_M_disturb_33 (by decide) (fun _ => ?_) (fun hn => absurd hn (by decide))
    exact hq_vret C hret hlk (Nat.le_of_ble_eq_true rfl) (Nat.le_of_ble_eq_true rfl) hL ⟨rfl, k44, hq_Sput hq_S0 u43 (by omega) (by omega)⟩ d_M_disturb_60
  · intro c0
    refine lv_iload_n C.1 C.2.1 d_M_disturb_14 rfl (lv_at hl 2 rfl) ?_
    refine lv_sipush (v := 200) C.1 C.2.1 d_M_disturb_15 (by decide) ?_
    refine lv_icmp_le (tgt := 25) C.1 C.2.1 d_M_disturb_18 (by decide) (fun hn => absurd hn (fun h9 => hb.elim c0 (fun z => z h9))) (fun _ => ?_)
    refine lv_iconst (v := 1) C.1 C.2.1 d_M_disturb_21 (by decide) ?_
    refine lv_goto (tgt := 26) C.1 C.2.1 d_M_disturb_22 (by decide) ?_
    refine hq_put (lo := lo) C f_M_105 e0 rfl rfl (Nat.le_of_ble_eq_true rfl) hL (by omega) d_M_disturb_26 (fun H45 locs u46 hL => ?_)
    have k47 : va_at D vwCl (b, .inr (6, [.int (1), .int (nI n), .ref (b + 1), .ref (b + 2), .ref (b + 3), .ref (b + 4), .ref (b + 5), .ref (b + 6), .ref (b + 7), .ref (b + 8), .ref (b + 9), .ref (b + 10), .ref (b + 11), .ref (b + 12), .ref (b + 13), .ref (b + 14), .ref (b + 15), .ref (b + 16), .ref (b + 17), .ref (b + 18), .ref (b + 19), .ref (b + 20), .ref (b + 21), .ref (b + 22), .ref (b + 23), .ref (b + 24), .ref (b + 25), .ref (b + 26), .ref (b + 27), .ref (b + 28), .ref (b + 29), .ref (b + 30)])) H45 := u46.2.2
    refine lv_aload_n C.1 C.2.1 d_M_disturb_29 rfl (lv_at hl 0 rfl) ?_
    refine hq_get (v := .int (1)) C f_M_105 k47 rfl d_M_disturb_30 ?_
    refine lv_if_ne (tgt := 60) C.1 C.2.1 d_M_disturb_33 (by decide) (fun _ => ?_) (fun hn => absurd hn (by decide))
    exact hq_vret C hret hlk (Nat.le_of_ble_eq_true rfl) (Nat.le_of_ble_eq_true rfl) hL ⟨rfl, k47, hq_Sput hq_S0 u46 (by omega) (by omega)⟩ d_M_disturb_60
set_option maxHeartbeats 4000000 in
set_option maxRecDepth 100000 in
theorem m_disturb_g (l : Launch) (D : va_G) (cI cZ cN cJ : ClassId) (lo : Nat) (b n : Nat) (th : Int32) (hlo : lo ≤ b) (j : Nat) (hn : n ≤ 4) (hj : j < n) (i : Nat) (h1 : 1 ≤ i) (h2 : i ≤ 200) : hq_M l y_M_disturb b_M_disturb 3 none TB { frames := 2, cells := 0, slots := 0, locals := 60 } lo D vwCl (TY cI cZ cN cJ) [.ref (b), .int (nI j), .int (nI i)] (fun U => hq_B D vwCl b 31 (mdC cI cZ b th (nI n) (fun _ _ => 0)) U.heap) (fun H v H' => v = none ∧ va_at D vwCl (b, .inr (6, [.int (0), .int (nI n), .ref (b + 1), .ref (b + 2), .ref (b + 3), .ref (b + 4), .ref (b + 5), .ref (b + 6), .ref (b + 7), .ref (b + 8), .ref (b + 9), .ref (b + 10), .ref (b + 11), .ref (b + 12), .ref (b + 13), .ref (b + 14), .ref (b + 15), .ref (b + 16), .ref (b + 17), .ref (b + 18), .ref (b + 19), .ref (b + 20), .ref (b + 21), .ref (b + 22), .ref (b + 23), .ref (b + 24), .ref (b + 25), .ref (b + 26), .ref (b + 27), .ref (b + 28), .ref (b + 29), .ref (b + 30)])) H' ∧ hq_S b 31 H H') := by
  refine hq_ofW (by decide) (Nat.le_of_ble_eq_true rfl) ?_
  intro p e s m below meth c ls C hml hret hlk hnm hl hP
  have hL : hq_L lo [] := hq_L0
  have hl : lv_has ls 3 [(0, .ref (b)), (1, .int (nI j)), (2, .int (nI i))] := hl
  have e0 : va_at D vwCl (b, .inr (6, [.int (th), .int (nI n), .ref (b + 1), .ref (b + 2), .ref (b + 3), .ref (b + 4), .ref (b + 5), .ref (b + 6), .ref (b + 7), .ref (b + 8), .ref (b + 9), .ref (b + 10), .ref (b + 11), .ref (b + 12), .ref (b + 13), .ref (b + 14), .ref (b + 15), .ref (b + 16), .ref (b + 17), .ref (b + 18), .ref (b + 19), .ref (b + 20), .ref (b + 21), .ref (b + 22), .ref (b + 23), .ref (b + 24), .ref (b + 25), .ref (b + 26), .ref (b + 27), .ref (b + 28), .ref (b + 29), .ref (b + 30)])) s.heap := hP 0 (by decide)
  have e3 : va_at D vwCl (b + 3, .inl (cZ, 1024, .inl (fun _ => 0))) s.heap := hP 3 (by decide)
  have e1 : va_at D vwCl (b + 1, .inl (cI, 8, .inl (fun _ => 0))) s.heap := hP 1 (by decide)
  have hj4 : j < 4 := by omega
  refine lv_aload_n C.1 C.2.1 d_M_disturb_0 rfl (lv_at hl 0 rfl) ?_
  refine lv_aload_n C.1 C.2.1 d_M_disturb_1 rfl (lv_at hl 0 rfl) ?_
  refine lv_iload_n C.1 C.2.1 d_M_disturb_2 rfl (lv_at hl 1 rfl) ?_
  refine hq_callV (lo := lo) (As := [.int (nI j)]) (rest := [.ref (b)]) C tb_good hml Y_M_108 (c_noNode l D cI cZ cN cJ lo b n th (nI j)) e0 rfl (fun _ _ _ _ h => h) (fun U hU hW => by show va_at D vwCl (b, .inr (6, [.int (th), .int (nI n), .ref (b + 1), .ref (b + 2), .ref (b + 3), .ref (b + 4), .ref (b + 5), .ref (b + 6), .ref (b + 7), .ref (b + 8), .ref (b + 9), .ref (b + 10), .ref (b + 11), .ref (b + 12), .ref (b + 13), .ref (b + 14), .ref (b + 15), .ref (b + 16), .ref (b + 17), .ref (b + 18), .ref (b + 19), .ref (b + 20), .ref (b + 21), .ref (b + 22), .ref (b + 23), .ref (b + 24), .ref (b + 25), .ref (b + 26), .ref (b + 27), .ref (b + 28), .ref (b + 29), .ref (b + 30)])) U.heap; rw [hU]; exact e0) hL hl.1 rfl rfl ⟨⟨Nat.le_of_ble_eq_true rfl, Nat.le_of_ble_eq_true rfl⟩, Nat.le_of_ble_eq_true rfl, Nat.le_of_ble_eq_true rfl⟩ (Nat.le_of_ble_eq_true rfl) d_M_disturb_3 (fun v H41 locs hp hL => ?_)
  obtain ⟨rfl, rfl⟩ := hp
  refine W.eq (g2 := F0 m 6 ls [.int (nno n (nI j)), .ref (b)]) rfl ?_
  rw [nno_ok hn hj]
  refine lv_if_ne (tgt := 21) C.1 C.2.1 d_M_disturb_6 (by decide) (fun hn => absurd hn (by decide)) (fun _ => ?_)
  refine lv_iload_n C.1 C.2.1 d_M_disturb_9 rfl (lv_at hl 2 rfl) ?_
  refine lv_iconst (v := 1) C.1 C.2.1 d_M_disturb_10 (by decide) ?_
  refine lv_icmp_lt (tgt := 21) C.1 C.2.1 d_M_disturb_11 (by decide) (fun hn => absurd hn (nI_nlt (a := i) (b := 1) h1 (by omega))) (fun _ => ?_)
  refine lv_iload_n C.1 C.2.1 d_M_disturb_14 rfl (lv_at hl 2 rfl) ?_
  refine lv_sipush (v := 200) C.1 C.2.1 d_M_disturb_15 (by decide) ?_
  refine lv_icmp_le (tgt := 25) C.1 C.2.1 d_M_disturb_18 (by decide) (fun _ => ?_) (fun hn => absurd (nI_le (b := 200) h2 (by decide)) hn)
  refine lv_iconst (v := 0) C.1 C.2.1 d_M_disturb_25 (by decide) ?_
  refine hq_put (lo := lo) C f_M_105 e0 rfl rfl (Nat.le_of_ble_eq_true rfl) hL (by omega) d_M_disturb_26 (fun H42 locs u43 hL => ?_)
  have k44 : va_at D vwCl (b, .inr (6, [.int (0), .int (nI n), .ref (b + 1), .ref (b + 2), .ref (b + 3), .ref (b + 4), .ref (b + 5), .ref (b + 6), .ref (b + 7), .ref (b + 8), .ref (b + 9), .ref (b + 10), .ref (b + 11), .ref (b + 12), .ref (b + 13), .ref (b + 14), .ref (b + 15), .ref (b + 16), .ref (b + 17), .ref (b + 18), .ref (b + 19), .ref (b + 20), .ref (b + 21), .ref (b + 22), .ref (b + 23), .ref (b + 24), .ref (b + 25), .ref (b + 26), .ref (b + 27), .ref (b + 28), .ref (b + 29), .ref (b + 30)])) H42 := u43.2.2
  refine lv_aload_n C.1 C.2.1 d_M_disturb_29 rfl (lv_at hl 0 rfl) ?_
  refine hq_get (v := .int (0)) C f_M_105 k44 rfl d_M_disturb_30 ?_
  refine lv_if_ne (tgt := 60) C.1 C.2.1 d_M_disturb_33 (by decide) (fun hn => absurd hn (by decide)) (fun _ => ?_)
  refine lv_aload_n C.1 C.2.1 d_M_disturb_36 rfl (lv_at hl 0 rfl) ?_
  refine hq_get (v := .ref (b + 3)) C f_M_16 k44 rfl d_M_disturb_37 ?_
  refine lv_sipush (v := 256) C.1 C.2.1 d_M_disturb_40 (by decide) ?_
  refine lv_iload_n C.1 C.2.1 d_M_disturb_43 rfl (lv_at hl 1 rfl) ?_
  refine lv_imul C.1 C.2.1 d_M_disturb_44 ?_
  refine lv_aload_n C.1 C.2.1 d_M_disturb_45 rfl (lv_at hl 0 rfl) ?_
  refine hq_get (v := .ref (b + 1)) C f_M_7 k44 rfl d_M_disturb_46 ?_
  refine lv_iconst (v := 0) C.1 C.2.1 d_M_disturb_49 (by decide) ?_
  have k45 := hq_au e1 u43 (by omega)
  refine hq_iald C 0 rfl k45 (show vp_in (nI 0) 8 from vp_in_nI (by decide) (by decide)) d_M_disturb_50 ?_
  refine W.eq (g2 := F0 m 51 ls [.int (0), .int (256 * (nI j)), .ref (b + 3)]) rfl ?_
  refine lv_iload_n C.1 C.2.1 d_M_disturb_51 rfl (lv_at hl 2 rfl) ?_
  refine lv_iadd C.1 C.2.1 d_M_disturb_52 ?_
  rw [Int32.zero_add]
  refine lv_sipush (v := 256) C.1 C.2.1 d_M_disturb_53 (by decide) ?_
  refine lv_irem C.1 C.2.1 d_M_disturb_56 (by decide) ?_
  rw [show nI i - nI i / 256 * 256 = nI (i % 256) from pk_rem (d := 256) (by omega) (by decide) (by decide)]
  refine lv_iadd C.1 C.2.1 d_M_disturb_57 ?_
  rw [show (256 : Int32) * nI j + nI (i % 256) = nI (256 * j + i % 256) from by rw [show (256 : Int32) * nI j = nI (256 * j) from pk_mul 256 j, nI_add]]
  refine lv_iconst (v := 1) C.1 C.2.1 d_M_disturb_58 (by decide) ?_
  have k46 := hq_au e3 u43 (by omega)
  refine hq_zast (lo := lo) C 1 rfl k46 (vp_in_nI (by omega) (by decide)) hL (by omega) d_M_disturb_59 (fun H47 locs u48 hL => ?_)
  have k49 : va_at D vwCl (b + 3, .inl (cZ, 1024, .inl (upd (fun _ => 0) (nI (256 * j + i % 256)).toNatClampNeg (vp_nar .boolean 1)))) H47 := u48.2.2
  have k50 := hq_au k44 u48 (by omega)
  exact hq_vret C hret hlk (Nat.le_of_ble_eq_true rfl) (Nat.le_of_ble_eq_true rfl) hL ⟨rfl, k50, hq_Sput (hq_Sput hq_S0 u43 (by omega) (by omega)) u48 (by omega) (by omega)⟩ d_M_disturb_60
set_option maxHeartbeats 4000000 in
set_option maxRecDepth 100000 in
theorem m_state_g (l : Launch) (D : va_G) (cI cZ cN cJ : ClassId) (lo : Nat) (b n : Nat) (th : Int32) (hlo : lo ≤ b) (j : Nat) (hn : n ≤ 4) (hj : j < n) : hq_M l y_M_state b_M_state 2 (some .int) TB { frames := 2, cells := 0, slots := 0, locals := 60 } lo D vwCl (TY cI cZ cN cJ) [.ref (b), .int (nI j)] (fun U => hq_B D vwCl b 31 (mdC cI cZ b th (nI n) (fun _ _ => 0)) U.heap) (fun H v H' => v = some (.int 0) ∧ va_at D vwCl (b, .inr (6, [.int (0), .int (nI n), .ref (b + 1), .ref (b + 2), .ref (b + 3), .ref (b + 4), .ref (b + 5), .ref (b + 6), .ref (b + 7), .ref (b + 8), .ref (b + 9), .ref (b + 10), .ref (b + 11), .ref (b + 12), .ref (b + 13), .ref (b + 14), .ref (b + 15), .ref (b + 16), .ref (b + 17), .ref (b + 18), .ref (b + 19), .ref (b + 20), .ref (b + 21), .ref (b + 22), .ref (b + 23), .ref (b + 24), .ref (b + 25), .ref (b + 26), .ref (b + 27), .ref (b + 28), .ref (b + 29), .ref (b + 30)])) H' ∧ hq_S b 31 H H') := by
  refine hq_ofW (by decide) (Nat.le_of_ble_eq_true rfl) ?_
  intro p e s m below meth c ls C hml hret hlk hnm hl hP
  have hL : hq_L lo [] := hq_L0
  have hl : lv_has ls 2 [(0, .ref (b)), (1, .int (nI j))] := hl
  have e0 : va_at D vwCl (b, .inr (6, [.int (th), .int (nI n), .ref (b + 1), .ref (b + 2), .ref (b + 3), .ref (b + 4), .ref (b + 5), .ref (b + 6), .ref (b + 7), .ref (b + 8), .ref (b + 9), .ref (b + 10), .ref (b + 11), .ref (b + 12), .ref (b + 13), .ref (b + 14), .ref (b + 15), .ref (b + 16), .ref (b + 17), .ref (b + 18), .ref (b + 19), .ref (b + 20), .ref (b + 21), .ref (b + 22), .ref (b + 23), .ref (b + 24), .ref (b + 25), .ref (b + 26), .ref (b + 27), .ref (b + 28), .ref (b + 29), .ref (b + 30)])) s.heap := hP 0 (by decide)
  have e4 : va_at D vwCl (b + 4, .inl (cI, 4, .inl (fun _ => 0))) s.heap := hP 4 (by decide)
  have hj4 : j < 4 := by omega
  refine lv_aload_n C.1 C.2.1 d_M_state_0 rfl (lv_at hl 0 rfl) ?_
  refine lv_aload_n C.1 C.2.1 d_M_state_1 rfl (lv_at hl 0 rfl) ?_
  refine lv_iload_n C.1 C.2.1 d_M_state_2 rfl (lv_at hl 1 rfl) ?_
  refine hq_callV (lo := lo) (As := [.int (nI j)]) (rest := [.ref (b)]) C tb_good hml Y_M_108 (c_noNode l D cI cZ cN cJ lo b n th (nI j)) e0 rfl (fun _ _ _ _ h => h) (fun U hU hW => by show va_at D vwCl (b, .inr (6, [.int (th), .int (nI n), .ref (b + 1), .ref (b + 2), .ref (b + 3), .ref (b + 4), .ref (b + 5), .ref (b + 6), .ref (b + 7), .ref (b + 8), .ref (b + 9), .ref (b + 10), .ref (b + 11), .ref (b + 12), .ref (b + 13), .ref (b + 14), .ref (b + 15), .ref (b + 16), .ref (b + 17), .ref (b + 18), .ref (b + 19), .ref (b + 20), .ref (b + 21), .ref (b + 22), .ref (b + 23), .ref (b + 24), .ref (b + 25), .ref (b + 26), .ref (b + 27), .ref (b + 28), .ref (b + 29), .ref (b + 30)])) U.heap; rw [hU]; exact e0) hL hl.1 rfl rfl ⟨⟨Nat.le_of_ble_eq_true rfl, Nat.le_of_ble_eq_true rfl⟩, Nat.le_of_ble_eq_true rfl, Nat.le_of_ble_eq_true rfl⟩ (Nat.le_of_ble_eq_true rfl) d_M_state_3 (fun v H41 locs hp hL => ?_)
  obtain ⟨rfl, rfl⟩ := hp
  refine W.eq (g2 := F0 m 6 ls [.int (nno n (nI j)), .ref (b)]) rfl ?_
  rw [nno_ok hn hj]
  refine lv_if_eq (tgt := 13) C.1 C.2.1 d_M_state_6 (by decide) (fun _ => ?_) (fun hn => absurd (by decide) hn)
  refine lv_iconst (v := 0) C.1 C.2.1 d_M_state_13 (by decide) ?_
  refine hq_put (lo := lo) C f_M_105 e0 rfl rfl (Nat.le_of_ble_eq_true rfl) hL (by omega) d_M_state_14 (fun H42 locs u43 hL => ?_)
  have k44 : va_at D vwCl (b, .inr (6, [.int (0), .int (nI n), .ref (b + 1), .ref (b + 2), .ref (b + 3), .ref (b + 4), .ref (b + 5), .ref (b + 6), .ref (b + 7), .ref (b + 8), .ref (b + 9), .ref (b + 10), .ref (b + 11), .ref (b + 12), .ref (b + 13), .ref (b + 14), .ref (b + 15), .ref (b + 16), .ref (b + 17), .ref (b + 18), .ref (b + 19), .ref (b + 20), .ref (b + 21), .ref (b + 22), .ref (b + 23), .ref (b + 24), .ref (b + 25), .ref (b + 26), .ref (b + 27), .ref (b + 28), .ref (b + 29), .ref (b + 30)])) H42 := u43.2.2
  refine lv_aload_n C.1 C.2.1 d_M_state_17 rfl (lv_at hl 0 rfl) ?_
  refine hq_get (v := .int (0)) C f_M_105 k44 rfl d_M_state_18 ?_
  refine lv_if_ne (tgt := 33) C.1 C.2.1 d_M_state_21 (by decide) (fun hn => absurd hn (by decide)) (fun _ => ?_)
  refine lv_aload_n C.1 C.2.1 d_M_state_24 rfl (lv_at hl 0 rfl) ?_
  refine hq_get (v := .ref (b + 4)) C f_M_20 k44 rfl d_M_state_25 ?_
  refine lv_iload_n C.1 C.2.1 d_M_state_28 rfl (lv_at hl 1 rfl) ?_
  have k45 := hq_au e4 u43 (by omega)
  refine hq_iald C 0 rfl k45 (vp_in_nI hj4 (by decide)) d_M_state_29 ?_
  refine W.eq (g2 := F0 m 30 ls [.int (0)]) rfl ?_
  refine lv_goto (tgt := 34) C.1 C.2.1 d_M_state_30 (by decide) ?_
  exact hq_iret C hret hlk (Nat.le_of_ble_eq_true rfl) (Nat.le_of_ble_eq_true rfl) hL ⟨rfl, k44, hq_Sput hq_S0 u43 (by omega) (by omega)⟩ d_M_state_34
set_option maxHeartbeats 4000000 in
set_option maxRecDepth 100000 in
theorem m_take_g (l : Launch) (D : va_G) (cI cZ cN cJ : ClassId) (lo : Nat) (b n : Nat) (th : Int32) (hlo : lo ≤ b) (j : Nat) (hn : n ≤ 4) (hj : j < n) : hq_M l y_M_take b_M_take 4 (some .int) TB { frames := 2, cells := 0, slots := 0, locals := 60 } lo D vwCl (TY cI cZ cN cJ) [.ref (b), .int (nI j)] (fun U => hq_B D vwCl b 31 (mdC cI cZ b th (nI n) (fun _ _ => 0)) U.heap) (fun H v H' => v = some (.int 0) ∧ va_at D vwCl (b, .inr (6, [.int (2), .int (nI n), .ref (b + 1), .ref (b + 2), .ref (b + 3), .ref (b + 4), .ref (b + 5), .ref (b + 6), .ref (b + 7), .ref (b + 8), .ref (b + 9), .ref (b + 10), .ref (b + 11), .ref (b + 12), .ref (b + 13), .ref (b + 14), .ref (b + 15), .ref (b + 16), .ref (b + 17), .ref (b + 18), .ref (b + 19), .ref (b + 20), .ref (b + 21), .ref (b + 22), .ref (b + 23), .ref (b + 24), .ref (b + 25), .ref (b + 26), .ref (b + 27), .ref (b + 28), .ref (b + 29), .ref (b + 30)])) H' ∧ hq_S b 31 H H') := by
  refine hq_ofW (by decide) (Nat.le_of_ble_eq_true rfl) ?_
  intro p e s m below meth c ls C hml hret hlk hnm hl hP
  have hL : hq_L lo [] := hq_L0
  have hl : lv_has ls 4 [(0, .ref (b)), (1, .int (nI j))] := hl
  have e0 : va_at D vwCl (b, .inr (6, [.int (th), .int (nI n), .ref (b + 1), .ref (b + 2), .ref (b + 3), .ref (b + 4), .ref (b + 5), .ref (b + 6), .ref (b + 7), .ref (b + 8), .ref (b + 9), .ref (b + 10), .ref (b + 11), .ref (b + 12), .ref (b + 13), .ref (b + 14), .ref (b + 15), .ref (b + 16), .ref (b + 17), .ref (b + 18), .ref (b + 19), .ref (b + 20), .ref (b + 21), .ref (b + 22), .ref (b + 23), .ref (b + 24), .ref (b + 25), .ref (b + 26), .ref (b + 27), .ref (b + 28), .ref (b + 29), .ref (b + 30)])) s.heap := hP 0 (by decide)
  have e15 : va_at D vwCl (b + 15, .inl (cI, 4, .inl (fun _ => 0))) s.heap := hP 15 (by decide)
  have hj4 : j < 4 := by omega
  refine lv_aload_n C.1 C.2.1 d_M_take_0 rfl (lv_at hl 0 rfl) ?_
  refine lv_aload_n C.1 C.2.1 d_M_take_1 rfl (lv_at hl 0 rfl) ?_
  refine lv_iload_n C.1 C.2.1 d_M_take_2 rfl (lv_at hl 1 rfl) ?_
  refine hq_callV (lo := lo) (As := [.int (nI j)]) (rest := [.ref (b)]) C tb_good hml Y_M_108 (c_noNode l D cI cZ cN cJ lo b n th (nI j)) e0 rfl (fun _ _ _ _ h => h) (fun U hU hW => by show va_at D vwCl (b, .inr (6, [.int (th), .int (nI n), .ref (b + 1), .ref (b + 2), .ref (b + 3), .ref (b + 4), .ref (b + 5), .ref (b + 6), .ref (b + 7), .ref (b + 8), .ref (b + 9), .ref (b + 10), .ref (b + 11), .ref (b + 12), .ref (b + 13), .ref (b + 14), .ref (b + 15), .ref (b + 16), .ref (b + 17), .ref (b + 18), .ref (b + 19), .ref (b + 20), .ref (b + 21), .ref (b + 22), .ref (b + 23), .ref (b + 24), .ref (b + 25), .ref (b + 26), .ref (b + 27), .ref (b + 28), .ref (b + 29), .ref (b + 30)])) U.heap; rw [hU]; exact e0) hL hl.1 rfl rfl ⟨⟨Nat.le_of_ble_eq_true rfl, Nat.le_of_ble_eq_true rfl⟩, Nat.le_of_ble_eq_true rfl, Nat.le_of_ble_eq_true rfl⟩ (Nat.le_of_ble_eq_true rfl) d_M_take_3 (fun v H41 locs hp hL => ?_)
  obtain ⟨rfl, rfl⟩ := hp
  refine W.eq (g2 := F0 m 6 ls [.int (nno n (nI j)), .ref (b)]) rfl ?_
  rw [nno_ok hn hj]
  refine lv_if_eq (tgt := 13) C.1 C.2.1 d_M_take_6 (by decide) (fun _ => ?_) (fun hn => absurd (by decide) hn)
  refine lv_aload_n C.1 C.2.1 d_M_take_13 rfl (lv_at hl 0 rfl) ?_
  refine hq_get (v := .ref (b + 15)) C f_M_53 e0 rfl d_M_take_14 ?_
  refine lv_iload_n C.1 C.2.1 d_M_take_17 rfl (lv_at hl 1 rfl) ?_
  refine hq_iald C 0 rfl e15 (vp_in_nI hj4 (by decide)) d_M_take_18 ?_
  refine W.eq (g2 := F0 m 19 ls [.int (0), .ref (b)]) rfl ?_
  refine lv_if_ne (tgt := 26) C.1 C.2.1 d_M_take_19 (by decide) (fun hn => absurd hn (by decide)) (fun _ => ?_)
  refine lv_iconst (v := 2) C.1 C.2.1 d_M_take_22 (by decide) ?_
  refine lv_goto (tgt := 27) C.1 C.2.1 d_M_take_23 (by decide) ?_
  refine hq_put (lo := lo) C f_M_105 e0 rfl rfl (Nat.le_of_ble_eq_true rfl) hL (by omega) d_M_take_27 (fun H42 locs u43 hL => ?_)
  have k44 : va_at D vwCl (b, .inr (6, [.int (2), .int (nI n), .ref (b + 1), .ref (b + 2), .ref (b + 3), .ref (b + 4), .ref (b + 5), .ref (b + 6), .ref (b + 7), .ref (b + 8), .ref (b + 9), .ref (b + 10), .ref (b + 11), .ref (b + 12), .ref (b + 13), .ref (b + 14), .ref (b + 15), .ref (b + 16), .ref (b + 17), .ref (b + 18), .ref (b + 19), .ref (b + 20), .ref (b + 21), .ref (b + 22), .ref (b + 23), .ref (b + 24), .ref (b + 25), .ref (b + 26), .ref (b + 27), .ref (b + 28), .ref (b + 29), .ref (b + 30)])) H42 := u43.2.2
  refine lv_aload_n C.1 C.2.1 d_M_take_30 rfl (lv_at hl 0 rfl) ?_
  refine hq_get (v := .int (2)) C f_M_105 k44 rfl d_M_take_31 ?_
  refine lv_if_eq (tgt := 39) C.1 C.2.1 d_M_take_34 (by decide) (fun hn => absurd hn (by decide)) (fun _ => ?_)
  refine lv_iconst (v := 0) C.1 C.2.1 d_M_take_37 (by decide) ?_
  exact hq_iret C hret hlk (Nat.le_of_ble_eq_true rfl) (Nat.le_of_ble_eq_true rfl) hL ⟨rfl, k44, hq_Sput hq_S0 u43 (by omega) (by omega)⟩ d_M_take_38
set_option maxHeartbeats 4000000 in
set_option maxRecDepth 100000 in
theorem m_count_f (l : Launch) (D : va_G) (cI cZ cN cJ : ClassId) (lo : Nat) (b n : Nat) (th : Int32) (hlo : lo ≤ b) (j : Nat) (hn : n ≤ 4) (hj : j < n) (a : Int32) (hb : a < 0 ∨ ¬ a ≤ 4) : hq_M l y_M_count b_M_count 3 (some .int) TB { frames := 2, cells := 0, slots := 0, locals := 60 } lo D vwCl (TY cI cZ cN cJ) [.ref (b), .int (nI j), .int (a)] (fun U => hq_B D vwCl b 31 (mdC cI cZ b th (nI n) (fun _ _ => 0)) U.heap) (fun H v H' => v = some (.int 0) ∧ va_at D vwCl (b, .inr (6, [.int (1), .int (nI n), .ref (b + 1), .ref (b + 2), .ref (b + 3), .ref (b + 4), .ref (b + 5), .ref (b + 6), .ref (b + 7), .ref (b + 8), .ref (b + 9), .ref (b + 10), .ref (b + 11), .ref (b + 12), .ref (b + 13), .ref (b + 14), .ref (b + 15), .ref (b + 16), .ref (b + 17), .ref (b + 18), .ref (b + 19), .ref (b + 20), .ref (b + 21), .ref (b + 22), .ref (b + 23), .ref (b + 24), .ref (b + 25), .ref (b + 26), .ref (b + 27), .ref (b + 28), .ref (b + 29), .ref (b + 30)])) H' ∧ hq_S b 31 H H') := by
  refine hq_ofW (by decide) (Nat.le_of_ble_eq_true rfl) ?_
  intro p e s m below meth c ls C hml hret hlk hnm hl hP
  have hL : hq_L lo [] := hq_L0
  have hl : lv_has ls 3 [(0, .ref (b)), (1, .int (nI j)), (2, .int (a))] := hl
  have e0 : va_at D vwCl (b, .inr (6, [.int (th), .int (nI n), .ref (b + 1), .ref (b + 2), .ref (b + 3), .ref (b + 4), .ref (b + 5), .ref (b + 6), .ref (b + 7), .ref (b + 8), .ref (b + 9), .ref (b + 10), .ref (b + 11), .ref (b + 12), .ref (b + 13), .ref (b + 14), .ref (b + 15), .ref (b + 16), .ref (b + 17), .ref (b + 18), .ref (b + 19), .ref (b + 20), .ref (b + 21), .ref (b + 22), .ref (b + 23), .ref (b + 24), .ref (b + 25), .ref (b + 26), .ref (b + 27), .ref (b + 28), .ref (b + 29), .ref (b + 30)])) s.heap := hP 0 (by decide)
  refine lv_aload_n C.1 C.2.1 d_M_count_0 rfl (lv_at hl 0 rfl) ?_
  refine lv_aload_n C.1 C.2.1 d_M_count_1 rfl (lv_at hl 0 rfl) ?_
  refine lv_iload_n C.1 C.2.1 d_M_count_2 rfl (lv_at hl 1 rfl) ?_
  refine hq_callV (lo := lo) (As := [.int (nI j)]) (rest := [.ref (b)]) C tb_good hml Y_M_108 (c_noNode l D cI cZ cN cJ lo b n th (nI j)) e0 rfl (fun _ _ _ _ h => h) (fun U hU hW => by show va_at D vwCl (b, .inr (6, [.int (th), .int (nI n), .ref (b + 1), .ref (b + 2), .ref (b + 3), .ref (b + 4), .ref (b + 5), .ref (b + 6), .ref (b + 7), .ref (b + 8), .ref (b + 9), .ref (b + 10), .ref (b + 11), .ref (b + 12), .ref (b + 13), .ref (b + 14), .ref (b + 15), .ref (b + 16), .ref (b + 17), .ref (b + 18), .ref (b + 19), .ref (b + 20), .ref (b + 21), .ref (b + 22), .ref (b + 23), .ref (b + 24), .ref (b + 25), .ref (b + 26), .ref (b + 27), .ref (b + 28), .ref (b + 29), .ref (b + 30)])) U.heap; rw [hU]; exact e0) hL hl.1 rfl rfl ⟨⟨Nat.le_of_ble_eq_true rfl, Nat.le_of_ble_eq_true rfl⟩, Nat.le_of_ble_eq_true rfl, Nat.le_of_ble_eq_true rfl⟩ (Nat.le_of_ble_eq_true rfl) d_M_count_3 (fun v H41 locs hp hL => ?_)
  obtain ⟨rfl, rfl⟩ := hp
  refine W.eq (g2 := F0 m 6 ls [.int (nno n (nI j)), .ref (b)]) rfl ?_
  rw [nno_ok hn hj]
  refine lv_if_ne (tgt := 18) C.1 C.2.1 d_M_count_6 (by decide) (fun hn => absurd hn (by decide)) (fun _ => ?_)
  refine lv_iload_n C.1 C.2.1 d_M_count_9 rfl (lv_at hl 2 rfl) ?_
  refine lv_if_lt (tgt := 18) C.1 C.2.1 d_M_count_10 (by decide) ?_ ?_
  · intro c0
    refine lv_iconst (v := 1) C.1 C.2.1 d_M_count_18 (by decide) ?_
    refine lv_goto (tgt := 23) C.1 C.2.1 d_M_count_19 (by decide) ?_
    refine hq_put (lo := lo) C f_M_105 e0 rfl rfl (Nat.le_of_ble_eq_true rfl) hL (by omega) d_M_count_23 (fun H42 locs u43 hL => ?_)
    have k44 : va_at D vwCl (b, .inr (6, [.int (1), .int (nI n), .ref (b + 1), .ref (b + 2), .ref (b + 3), .ref (b + 4), .ref (b + 5), .ref (b + 6), .ref (b + 7), .ref (b + 8), .ref (b + 9), .ref (b + 10), .ref (b + 11), .ref (b + 12), .ref (b + 13), .ref (b + 14), .ref (b + 15), .ref (b + 16), .ref (b + 17), .ref (b + 18), .ref (b + 19), .ref (b + 20), .ref (b + 21), .ref (b + 22), .ref (b + 23), .ref (b + 24), .ref (b + 25), .ref (b + 26), .ref (b + 27), .ref (b + 28), .ref (b + 29), .ref (b + 30)])) H42 := u43.2.2
    refine lv_aload_n C.1 C.2.1 d_M_count_26 rfl (lv_at hl 0 rfl) ?_
    refine hq_get (v := .int (1)) C f_M_105 k44 rfl d_M_count_27 ?_
    refine lv_if_eq (tgt := 35) C.1 C.2.1 d_M_count_30 (by decide) (fun hn => absurd hn (by decide)) (fun _ => ?_)
    refine lv_iconst (v := 0) C.1 C.2.1 d_M_count_33 (by decide) ?_
    exact hq_iret C hret hlk (Nat.le_of_ble_eq_true rfl) (Nat.le_of_ble_eq_true rfl) hL ⟨rfl, k44, hq_Sput hq_S0 u43 (by omega) (by omega)⟩ d_M_count_34
  · intro c0
    refine lv_iload_n C.1 C.2.1 d_M_count_13 rfl (lv_at hl 2 rfl) ?_
    refine lv_iconst (v := 4) C.1 C.2.1 d_M_count_14 (by decide) ?_
    refine lv_icmp_le (tgt := 22) C.1 C.2.1 d_M_count_15 (by decide) (fun hn => absurd hn (fun h9 => hb.elim c0 (fun z => z h9))) (fun _ => ?_)
    refine lv_iconst (v := 1) C.1 C.2.1 d_M_count_18 (by decide) ?_
    refine lv_goto (tgt := 23) C.1 C.2.1 d_M_count_19 (by decide) ?_
    refine hq_put (lo := lo) C f_M_105 e0 rfl rfl (Nat.le_of_ble_eq_true rfl) hL (by omega) d_M_count_23 (fun H45 locs u46 hL => ?_)
    have k47 : va_at D vwCl (b, .inr (6, [.int (1), .int (nI n), .ref (b + 1), .ref (b + 2), .ref (b + 3), .ref (b + 4), .ref (b + 5), .ref (b + 6), .ref (b + 7), .ref (b + 8), .ref (b + 9), .ref (b + 10), .ref (b + 11), .ref (b + 12), .ref (b + 13), .ref (b + 14), .ref (b + 15), .ref (b + 16), .ref (b + 17), .ref (b + 18), .ref (b + 19), .ref (b + 20), .ref (b + 21), .ref (b + 22), .ref (b + 23), .ref (b + 24), .ref (b + 25), .ref (b + 26), .ref (b + 27), .ref (b + 28), .ref (b + 29), .ref (b + 30)])) H45 := u46.2.2
    refine lv_aload_n C.1 C.2.1 d_M_count_26 rfl (lv_at hl 0 rfl) ?_
    refine hq_get (v := .int (1)) C f_M_105 k47 rfl d_M_count_27 ?_
    refine lv_if_eq (tgt := 35) C.1 C.2.1 d_M_count_30 (by decide) (fun hn => absurd hn (by decide)) (fun _ => ?_)
    refine lv_iconst (v := 0) C.1 C.2.1 d_M_count_33 (by decide) ?_
    exact hq_iret C hret hlk (Nat.le_of_ble_eq_true rfl) (Nat.le_of_ble_eq_true rfl) hL ⟨rfl, k47, hq_Sput hq_S0 u46 (by omega) (by omega)⟩ d_M_count_34
set_option maxHeartbeats 4000000 in
set_option maxRecDepth 100000 in
theorem m_count_0 (l : Launch) (D : va_G) (cI cZ cN cJ : ClassId) (lo : Nat) (b n : Nat) (th : Int32) (hlo : lo ≤ b) (j : Nat) (hn : n ≤ 4) (hj : j < n) : hq_M l y_M_count b_M_count 3 (some .int) TB { frames := 2, cells := 0, slots := 0, locals := 60 } lo D vwCl (TY cI cZ cN cJ) [.ref (b), .int (nI j), .int (0)] (fun U => hq_B D vwCl b 31 (mdC cI cZ b th (nI n) (fun _ _ => 0)) U.heap) (fun H v H' => v = some (.int 0) ∧ va_at D vwCl (b, .inr (6, [.int (0), .int (nI n), .ref (b + 1), .ref (b + 2), .ref (b + 3), .ref (b + 4), .ref (b + 5), .ref (b + 6), .ref (b + 7), .ref (b + 8), .ref (b + 9), .ref (b + 10), .ref (b + 11), .ref (b + 12), .ref (b + 13), .ref (b + 14), .ref (b + 15), .ref (b + 16), .ref (b + 17), .ref (b + 18), .ref (b + 19), .ref (b + 20), .ref (b + 21), .ref (b + 22), .ref (b + 23), .ref (b + 24), .ref (b + 25), .ref (b + 26), .ref (b + 27), .ref (b + 28), .ref (b + 29), .ref (b + 30)])) H' ∧ hq_S b 31 H H') := by
  refine hq_ofW (by decide) (Nat.le_of_ble_eq_true rfl) ?_
  intro p e s m below meth c ls C hml hret hlk hnm hl hP
  have hL : hq_L lo [] := hq_L0
  have hl : lv_has ls 3 [(0, .ref (b)), (1, .int (nI j)), (2, .int (0))] := hl
  have e0 : va_at D vwCl (b, .inr (6, [.int (th), .int (nI n), .ref (b + 1), .ref (b + 2), .ref (b + 3), .ref (b + 4), .ref (b + 5), .ref (b + 6), .ref (b + 7), .ref (b + 8), .ref (b + 9), .ref (b + 10), .ref (b + 11), .ref (b + 12), .ref (b + 13), .ref (b + 14), .ref (b + 15), .ref (b + 16), .ref (b + 17), .ref (b + 18), .ref (b + 19), .ref (b + 20), .ref (b + 21), .ref (b + 22), .ref (b + 23), .ref (b + 24), .ref (b + 25), .ref (b + 26), .ref (b + 27), .ref (b + 28), .ref (b + 29), .ref (b + 30)])) s.heap := hP 0 (by decide)
  have e5 : va_at D vwCl (b + 5, .inl (cI, 4, .inl (fun _ => 0))) s.heap := hP 5 (by decide)
  have hj4 : j < 4 := by omega
  refine lv_aload_n C.1 C.2.1 d_M_count_0 rfl (lv_at hl 0 rfl) ?_
  refine lv_aload_n C.1 C.2.1 d_M_count_1 rfl (lv_at hl 0 rfl) ?_
  refine lv_iload_n C.1 C.2.1 d_M_count_2 rfl (lv_at hl 1 rfl) ?_
  refine hq_callV (lo := lo) (As := [.int (nI j)]) (rest := [.ref (b)]) C tb_good hml Y_M_108 (c_noNode l D cI cZ cN cJ lo b n th (nI j)) e0 rfl (fun _ _ _ _ h => h) (fun U hU hW => by show va_at D vwCl (b, .inr (6, [.int (th), .int (nI n), .ref (b + 1), .ref (b + 2), .ref (b + 3), .ref (b + 4), .ref (b + 5), .ref (b + 6), .ref (b + 7), .ref (b + 8), .ref (b + 9), .ref (b + 10), .ref (b + 11), .ref (b + 12), .ref (b + 13), .ref (b + 14), .ref (b + 15), .ref (b + 16), .ref (b + 17), .ref (b + 18), .ref (b + 19), .ref (b + 20), .ref (b + 21), .ref (b + 22), .ref (b + 23), .ref (b + 24), .ref (b + 25), .ref (b + 26), .ref (b + 27), .ref (b + 28), .ref (b + 29), .ref (b + 30)])) U.heap; rw [hU]; exact e0) hL hl.1 rfl rfl ⟨⟨Nat.le_of_ble_eq_true rfl, Nat.le_of_ble_eq_true rfl⟩, Nat.le_of_ble_eq_true rfl, Nat.le_of_ble_eq_true rfl⟩ (Nat.le_of_ble_eq_true rfl) d_M_count_3 (fun v H41 locs hp hL => ?_)
  obtain ⟨rfl, rfl⟩ := hp
  refine W.eq (g2 := F0 m 6 ls [.int (nno n (nI j)), .ref (b)]) rfl ?_
  rw [nno_ok hn hj]
  refine lv_if_ne (tgt := 18) C.1 C.2.1 d_M_count_6 (by decide) (fun hn => absurd hn (by decide)) (fun _ => ?_)
  refine lv_iload_n C.1 C.2.1 d_M_count_9 rfl (lv_at hl 2 rfl) ?_
  refine lv_if_lt (tgt := 18) C.1 C.2.1 d_M_count_10 (by decide) (fun hn => absurd hn (by decide)) (fun _ => ?_)
  refine lv_iload_n C.1 C.2.1 d_M_count_13 rfl (lv_at hl 2 rfl) ?_
  refine lv_iconst (v := 4) C.1 C.2.1 d_M_count_14 (by decide) ?_
  refine lv_icmp_le (tgt := 22) C.1 C.2.1 d_M_count_15 (by decide) (fun _ => ?_) (fun hn => absurd (by decide) hn)
  refine lv_iconst (v := 0) C.1 C.2.1 d_M_count_22 (by decide) ?_
  refine hq_put (lo := lo) C f_M_105 e0 rfl rfl (Nat.le_of_ble_eq_true rfl) hL (by omega) d_M_count_23 (fun H42 locs u43 hL => ?_)
  have k44 : va_at D vwCl (b, .inr (6, [.int (0), .int (nI n), .ref (b + 1), .ref (b + 2), .ref (b + 3), .ref (b + 4), .ref (b + 5), .ref (b + 6), .ref (b + 7), .ref (b + 8), .ref (b + 9), .ref (b + 10), .ref (b + 11), .ref (b + 12), .ref (b + 13), .ref (b + 14), .ref (b + 15), .ref (b + 16), .ref (b + 17), .ref (b + 18), .ref (b + 19), .ref (b + 20), .ref (b + 21), .ref (b + 22), .ref (b + 23), .ref (b + 24), .ref (b + 25), .ref (b + 26), .ref (b + 27), .ref (b + 28), .ref (b + 29), .ref (b + 30)])) H42 := u43.2.2
  refine lv_aload_n C.1 C.2.1 d_M_count_26 rfl (lv_at hl 0 rfl) ?_
  refine hq_get (v := .int (0)) C f_M_105 k44 rfl d_M_count_27 ?_
  refine lv_if_eq (tgt := 35) C.1 C.2.1 d_M_count_30 (by decide) (fun _ => ?_) (fun hn => absurd (by decide) hn)
  refine lv_iload_n C.1 C.2.1 d_M_count_35 rfl (lv_at hl 2 rfl) ?_
  refine lv_if_ne (tgt := 48) C.1 C.2.1 d_M_count_36 (by decide) (fun hn => absurd hn (by decide)) (fun _ => ?_)
  refine lv_aload_n C.1 C.2.1 d_M_count_39 rfl (lv_at hl 0 rfl) ?_
  refine hq_get (v := .ref (b + 5)) C f_M_23 k44 rfl d_M_count_40 ?_
  refine lv_iload_n C.1 C.2.1 d_M_count_43 rfl (lv_at hl 1 rfl) ?_
  have k45 := hq_au e5 u43 (by omega)
  refine hq_iald C 0 rfl k45 (vp_in_nI hj4 (by decide)) d_M_count_44 ?_
  refine W.eq (g2 := F0 m 45 ls [.int (0)]) rfl ?_
  refine lv_goto (tgt := 96) C.1 C.2.1 d_M_count_45 (by decide) ?_
  exact hq_iret C hret hlk (Nat.le_of_ble_eq_true rfl) (Nat.le_of_ble_eq_true rfl) hL ⟨rfl, k44, hq_Sput hq_S0 u43 (by omega) (by omega)⟩ d_M_count_96
set_option maxHeartbeats 4000000 in
set_option maxRecDepth 100000 in
theorem m_count_1 (l : Launch) (D : va_G) (cI cZ cN cJ : ClassId) (lo : Nat) (b n : Nat) (th : Int32) (hlo : lo ≤ b) (j : Nat) (hn : n ≤ 4) (hj : j < n) : hq_M l y_M_count b_M_count 3 (some .int) TB { frames := 2, cells := 0, slots := 0, locals := 60 } lo D vwCl (TY cI cZ cN cJ) [.ref (b), .int (nI j), .int (1)] (fun U => hq_B D vwCl b 31 (mdC cI cZ b th (nI n) (fun _ _ => 0)) U.heap) (fun H v H' => v = some (.int 0) ∧ va_at D vwCl (b, .inr (6, [.int (0), .int (nI n), .ref (b + 1), .ref (b + 2), .ref (b + 3), .ref (b + 4), .ref (b + 5), .ref (b + 6), .ref (b + 7), .ref (b + 8), .ref (b + 9), .ref (b + 10), .ref (b + 11), .ref (b + 12), .ref (b + 13), .ref (b + 14), .ref (b + 15), .ref (b + 16), .ref (b + 17), .ref (b + 18), .ref (b + 19), .ref (b + 20), .ref (b + 21), .ref (b + 22), .ref (b + 23), .ref (b + 24), .ref (b + 25), .ref (b + 26), .ref (b + 27), .ref (b + 28), .ref (b + 29), .ref (b + 30)])) H' ∧ hq_S b 31 H H') := by
  refine hq_ofW (by decide) (Nat.le_of_ble_eq_true rfl) ?_
  intro p e s m below meth c ls C hml hret hlk hnm hl hP
  have hL : hq_L lo [] := hq_L0
  have hl : lv_has ls 3 [(0, .ref (b)), (1, .int (nI j)), (2, .int (1))] := hl
  have e0 : va_at D vwCl (b, .inr (6, [.int (th), .int (nI n), .ref (b + 1), .ref (b + 2), .ref (b + 3), .ref (b + 4), .ref (b + 5), .ref (b + 6), .ref (b + 7), .ref (b + 8), .ref (b + 9), .ref (b + 10), .ref (b + 11), .ref (b + 12), .ref (b + 13), .ref (b + 14), .ref (b + 15), .ref (b + 16), .ref (b + 17), .ref (b + 18), .ref (b + 19), .ref (b + 20), .ref (b + 21), .ref (b + 22), .ref (b + 23), .ref (b + 24), .ref (b + 25), .ref (b + 26), .ref (b + 27), .ref (b + 28), .ref (b + 29), .ref (b + 30)])) s.heap := hP 0 (by decide)
  have e6 : va_at D vwCl (b + 6, .inl (cI, 4, .inl (fun _ => 0))) s.heap := hP 6 (by decide)
  have hj4 : j < 4 := by omega
  refine lv_aload_n C.1 C.2.1 d_M_count_0 rfl (lv_at hl 0 rfl) ?_
  refine lv_aload_n C.1 C.2.1 d_M_count_1 rfl (lv_at hl 0 rfl) ?_
  refine lv_iload_n C.1 C.2.1 d_M_count_2 rfl (lv_at hl 1 rfl) ?_
  refine hq_callV (lo := lo) (As := [.int (nI j)]) (rest := [.ref (b)]) C tb_good hml Y_M_108 (c_noNode l D cI cZ cN cJ lo b n th (nI j)) e0 rfl (fun _ _ _ _ h => h) (fun U hU hW => by show va_at D vwCl (b, .inr (6, [.int (th), .int (nI n), .ref (b + 1), .ref (b + 2), .ref (b + 3), .ref (b + 4), .ref (b + 5), .ref (b + 6), .ref (b + 7), .ref (b + 8), .ref (b + 9), .ref (b + 10), .ref (b + 11), .ref (b + 12), .ref (b + 13), .ref (b + 14), .ref (b + 15), .ref (b + 16), .ref (b + 17), .ref (b + 18), .ref (b + 19), .ref (b + 20), .ref (b + 21), .ref (b + 22), .ref (b + 23), .ref (b + 24), .ref (b + 25), .ref (b + 26), .ref (b + 27), .ref (b + 28), .ref (b + 29), .ref (b + 30)])) U.heap; rw [hU]; exact e0) hL hl.1 rfl rfl ⟨⟨Nat.le_of_ble_eq_true rfl, Nat.le_of_ble_eq_true rfl⟩, Nat.le_of_ble_eq_true rfl, Nat.le_of_ble_eq_true rfl⟩ (Nat.le_of_ble_eq_true rfl) d_M_count_3 (fun v H41 locs hp hL => ?_)
  obtain ⟨rfl, rfl⟩ := hp
  refine W.eq (g2 := F0 m 6 ls [.int (nno n (nI j)), .ref (b)]) rfl ?_
  rw [nno_ok hn hj]
  refine lv_if_ne (tgt := 18) C.1 C.2.1 d_M_count_6 (by decide) (fun hn => absurd hn (by decide)) (fun _ => ?_)
  refine lv_iload_n C.1 C.2.1 d_M_count_9 rfl (lv_at hl 2 rfl) ?_
  refine lv_if_lt (tgt := 18) C.1 C.2.1 d_M_count_10 (by decide) (fun hn => absurd hn (by decide)) (fun _ => ?_)
  refine lv_iload_n C.1 C.2.1 d_M_count_13 rfl (lv_at hl 2 rfl) ?_
  refine lv_iconst (v := 4) C.1 C.2.1 d_M_count_14 (by decide) ?_
  refine lv_icmp_le (tgt := 22) C.1 C.2.1 d_M_count_15 (by decide) (fun _ => ?_) (fun hn => absurd (by decide) hn)
  refine lv_iconst (v := 0) C.1 C.2.1 d_M_count_22 (by decide) ?_
  refine hq_put (lo := lo) C f_M_105 e0 rfl rfl (Nat.le_of_ble_eq_true rfl) hL (by omega) d_M_count_23 (fun H42 locs u43 hL => ?_)
  have k44 : va_at D vwCl (b, .inr (6, [.int (0), .int (nI n), .ref (b + 1), .ref (b + 2), .ref (b + 3), .ref (b + 4), .ref (b + 5), .ref (b + 6), .ref (b + 7), .ref (b + 8), .ref (b + 9), .ref (b + 10), .ref (b + 11), .ref (b + 12), .ref (b + 13), .ref (b + 14), .ref (b + 15), .ref (b + 16), .ref (b + 17), .ref (b + 18), .ref (b + 19), .ref (b + 20), .ref (b + 21), .ref (b + 22), .ref (b + 23), .ref (b + 24), .ref (b + 25), .ref (b + 26), .ref (b + 27), .ref (b + 28), .ref (b + 29), .ref (b + 30)])) H42 := u43.2.2
  refine lv_aload_n C.1 C.2.1 d_M_count_26 rfl (lv_at hl 0 rfl) ?_
  refine hq_get (v := .int (0)) C f_M_105 k44 rfl d_M_count_27 ?_
  refine lv_if_eq (tgt := 35) C.1 C.2.1 d_M_count_30 (by decide) (fun _ => ?_) (fun hn => absurd (by decide) hn)
  refine lv_iload_n C.1 C.2.1 d_M_count_35 rfl (lv_at hl 2 rfl) ?_
  refine lv_if_ne (tgt := 48) C.1 C.2.1 d_M_count_36 (by decide) (fun _ => ?_) (fun hn => absurd hn (by decide))
  refine lv_iload_n C.1 C.2.1 d_M_count_48 rfl (lv_at hl 2 rfl) ?_
  refine lv_iconst (v := 1) C.1 C.2.1 d_M_count_49 (by decide) ?_
  refine lv_icmp_ne (tgt := 62) C.1 C.2.1 d_M_count_50 (by decide) (fun hn => absurd hn (by decide)) (fun _ => ?_)
  refine lv_aload_n C.1 C.2.1 d_M_count_53 rfl (lv_at hl 0 rfl) ?_
  refine hq_get (v := .ref (b + 6)) C f_M_26 k44 rfl d_M_count_54 ?_
  refine lv_iload_n C.1 C.2.1 d_M_count_57 rfl (lv_at hl 1 rfl) ?_
  have k45 := hq_au e6 u43 (by omega)
  refine hq_iald C 0 rfl k45 (vp_in_nI hj4 (by decide)) d_M_count_58 ?_
  refine W.eq (g2 := F0 m 59 ls [.int (0)]) rfl ?_
  refine lv_goto (tgt := 96) C.1 C.2.1 d_M_count_59 (by decide) ?_
  exact hq_iret C hret hlk (Nat.le_of_ble_eq_true rfl) (Nat.le_of_ble_eq_true rfl) hL ⟨rfl, k44, hq_Sput hq_S0 u43 (by omega) (by omega)⟩ d_M_count_96
set_option maxHeartbeats 4000000 in
set_option maxRecDepth 100000 in
theorem m_count_2 (l : Launch) (D : va_G) (cI cZ cN cJ : ClassId) (lo : Nat) (b n : Nat) (th : Int32) (hlo : lo ≤ b) (j : Nat) (hn : n ≤ 4) (hj : j < n) : hq_M l y_M_count b_M_count 3 (some .int) TB { frames := 2, cells := 0, slots := 0, locals := 60 } lo D vwCl (TY cI cZ cN cJ) [.ref (b), .int (nI j), .int (2)] (fun U => hq_B D vwCl b 31 (mdC cI cZ b th (nI n) (fun _ _ => 0)) U.heap) (fun H v H' => v = some (.int 0) ∧ va_at D vwCl (b, .inr (6, [.int (0), .int (nI n), .ref (b + 1), .ref (b + 2), .ref (b + 3), .ref (b + 4), .ref (b + 5), .ref (b + 6), .ref (b + 7), .ref (b + 8), .ref (b + 9), .ref (b + 10), .ref (b + 11), .ref (b + 12), .ref (b + 13), .ref (b + 14), .ref (b + 15), .ref (b + 16), .ref (b + 17), .ref (b + 18), .ref (b + 19), .ref (b + 20), .ref (b + 21), .ref (b + 22), .ref (b + 23), .ref (b + 24), .ref (b + 25), .ref (b + 26), .ref (b + 27), .ref (b + 28), .ref (b + 29), .ref (b + 30)])) H' ∧ hq_S b 31 H H') := by
  refine hq_ofW (by decide) (Nat.le_of_ble_eq_true rfl) ?_
  intro p e s m below meth c ls C hml hret hlk hnm hl hP
  have hL : hq_L lo [] := hq_L0
  have hl : lv_has ls 3 [(0, .ref (b)), (1, .int (nI j)), (2, .int (2))] := hl
  have e0 : va_at D vwCl (b, .inr (6, [.int (th), .int (nI n), .ref (b + 1), .ref (b + 2), .ref (b + 3), .ref (b + 4), .ref (b + 5), .ref (b + 6), .ref (b + 7), .ref (b + 8), .ref (b + 9), .ref (b + 10), .ref (b + 11), .ref (b + 12), .ref (b + 13), .ref (b + 14), .ref (b + 15), .ref (b + 16), .ref (b + 17), .ref (b + 18), .ref (b + 19), .ref (b + 20), .ref (b + 21), .ref (b + 22), .ref (b + 23), .ref (b + 24), .ref (b + 25), .ref (b + 26), .ref (b + 27), .ref (b + 28), .ref (b + 29), .ref (b + 30)])) s.heap := hP 0 (by decide)
  have e10 : va_at D vwCl (b + 10, .inl (cI, 4, .inl (fun _ => 0))) s.heap := hP 10 (by decide)
  have hj4 : j < 4 := by omega
  refine lv_aload_n C.1 C.2.1 d_M_count_0 rfl (lv_at hl 0 rfl) ?_
  refine lv_aload_n C.1 C.2.1 d_M_count_1 rfl (lv_at hl 0 rfl) ?_
  refine lv_iload_n C.1 C.2.1 d_M_count_2 rfl (lv_at hl 1 rfl) ?_
  refine hq_callV (lo := lo) (As := [.int (nI j)]) (rest := [.ref (b)]) C tb_good hml Y_M_108 (c_noNode l D cI cZ cN cJ lo b n th (nI j)) e0 rfl (fun _ _ _ _ h => h) (fun U hU hW => by show va_at D vwCl (b, .inr (6, [.int (th), .int (nI n), .ref (b + 1), .ref (b + 2), .ref (b + 3), .ref (b + 4), .ref (b + 5), .ref (b + 6), .ref (b + 7), .ref (b + 8), .ref (b + 9), .ref (b + 10), .ref (b + 11), .ref (b + 12), .ref (b + 13), .ref (b + 14), .ref (b + 15), .ref (b + 16), .ref (b + 17), .ref (b + 18), .ref (b + 19), .ref (b + 20), .ref (b + 21), .ref (b + 22), .ref (b + 23), .ref (b + 24), .ref (b + 25), .ref (b + 26), .ref (b + 27), .ref (b + 28), .ref (b + 29), .ref (b + 30)])) U.heap; rw [hU]; exact e0) hL hl.1 rfl rfl ⟨⟨Nat.le_of_ble_eq_true rfl, Nat.le_of_ble_eq_true rfl⟩, Nat.le_of_ble_eq_true rfl, Nat.le_of_ble_eq_true rfl⟩ (Nat.le_of_ble_eq_true rfl) d_M_count_3 (fun v H41 locs hp hL => ?_)
  obtain ⟨rfl, rfl⟩ := hp
  refine W.eq (g2 := F0 m 6 ls [.int (nno n (nI j)), .ref (b)]) rfl ?_
  rw [nno_ok hn hj]
  refine lv_if_ne (tgt := 18) C.1 C.2.1 d_M_count_6 (by decide) (fun hn => absurd hn (by decide)) (fun _ => ?_)
  refine lv_iload_n C.1 C.2.1 d_M_count_9 rfl (lv_at hl 2 rfl) ?_
  refine lv_if_lt (tgt := 18) C.1 C.2.1 d_M_count_10 (by decide) (fun hn => absurd hn (by decide)) (fun _ => ?_)
  refine lv_iload_n C.1 C.2.1 d_M_count_13 rfl (lv_at hl 2 rfl) ?_
  refine lv_iconst (v := 4) C.1 C.2.1 d_M_count_14 (by decide) ?_
  refine lv_icmp_le (tgt := 22) C.1 C.2.1 d_M_count_15 (by decide) (fun _ => ?_) (fun hn => absurd (by decide) hn)
  refine lv_iconst (v := 0) C.1 C.2.1 d_M_count_22 (by decide) ?_
  refine hq_put (lo := lo) C f_M_105 e0 rfl rfl (Nat.le_of_ble_eq_true rfl) hL (by omega) d_M_count_23 (fun H42 locs u43 hL => ?_)
  have k44 : va_at D vwCl (b, .inr (6, [.int (0), .int (nI n), .ref (b + 1), .ref (b + 2), .ref (b + 3), .ref (b + 4), .ref (b + 5), .ref (b + 6), .ref (b + 7), .ref (b + 8), .ref (b + 9), .ref (b + 10), .ref (b + 11), .ref (b + 12), .ref (b + 13), .ref (b + 14), .ref (b + 15), .ref (b + 16), .ref (b + 17), .ref (b + 18), .ref (b + 19), .ref (b + 20), .ref (b + 21), .ref (b + 22), .ref (b + 23), .ref (b + 24), .ref (b + 25), .ref (b + 26), .ref (b + 27), .ref (b + 28), .ref (b + 29), .ref (b + 30)])) H42 := u43.2.2
  refine lv_aload_n C.1 C.2.1 d_M_count_26 rfl (lv_at hl 0 rfl) ?_
  refine hq_get (v := .int (0)) C f_M_105 k44 rfl d_M_count_27 ?_
  refine lv_if_eq (tgt := 35) C.1 C.2.1 d_M_count_30 (by decide) (fun _ => ?_) (fun hn => absurd (by decide) hn)
  refine lv_iload_n C.1 C.2.1 d_M_count_35 rfl (lv_at hl 2 rfl) ?_
  refine lv_if_ne (tgt := 48) C.1 C.2.1 d_M_count_36 (by decide) (fun _ => ?_) (fun hn => absurd hn (by decide))
  refine lv_iload_n C.1 C.2.1 d_M_count_48 rfl (lv_at hl 2 rfl) ?_
  refine lv_iconst (v := 1) C.1 C.2.1 d_M_count_49 (by decide) ?_
  refine lv_icmp_ne (tgt := 62) C.1 C.2.1 d_M_count_50 (by decide) (fun _ => ?_) (fun hn => absurd hn (by decide))
  refine lv_iload_n C.1 C.2.1 d_M_count_62 rfl (lv_at hl 2 rfl) ?_
  refine lv_iconst (v := 2) C.1 C.2.1 d_M_count_63 (by decide) ?_
  refine lv_icmp_ne (tgt := 76) C.1 C.2.1 d_M_count_64 (by decide) (fun hn => absurd hn (by decide)) (fun _ => ?_)
  refine lv_aload_n C.1 C.2.1 d_M_count_67 rfl (lv_at hl 0 rfl) ?_
  refine hq_get (v := .ref (b + 10)) C f_M_38 k44 rfl d_M_count_68 ?_
  refine lv_iload_n C.1 C.2.1 d_M_count_71 rfl (lv_at hl 1 rfl) ?_
  have k45 := hq_au e10 u43 (by omega)
  refine hq_iald C 0 rfl k45 (vp_in_nI hj4 (by decide)) d_M_count_72 ?_
  refine W.eq (g2 := F0 m 73 ls [.int (0)]) rfl ?_
  refine lv_goto (tgt := 96) C.1 C.2.1 d_M_count_73 (by decide) ?_
  exact hq_iret C hret hlk (Nat.le_of_ble_eq_true rfl) (Nat.le_of_ble_eq_true rfl) hL ⟨rfl, k44, hq_Sput hq_S0 u43 (by omega) (by omega)⟩ d_M_count_96
set_option maxHeartbeats 4000000 in
set_option maxRecDepth 100000 in
theorem m_count_3 (l : Launch) (D : va_G) (cI cZ cN cJ : ClassId) (lo : Nat) (b n : Nat) (th : Int32) (hlo : lo ≤ b) (j : Nat) (hn : n ≤ 4) (hj : j < n) : hq_M l y_M_count b_M_count 3 (some .int) TB { frames := 2, cells := 0, slots := 0, locals := 60 } lo D vwCl (TY cI cZ cN cJ) [.ref (b), .int (nI j), .int (3)] (fun U => hq_B D vwCl b 31 (mdC cI cZ b th (nI n) (fun _ _ => 0)) U.heap) (fun H v H' => v = some (.int 0) ∧ va_at D vwCl (b, .inr (6, [.int (0), .int (nI n), .ref (b + 1), .ref (b + 2), .ref (b + 3), .ref (b + 4), .ref (b + 5), .ref (b + 6), .ref (b + 7), .ref (b + 8), .ref (b + 9), .ref (b + 10), .ref (b + 11), .ref (b + 12), .ref (b + 13), .ref (b + 14), .ref (b + 15), .ref (b + 16), .ref (b + 17), .ref (b + 18), .ref (b + 19), .ref (b + 20), .ref (b + 21), .ref (b + 22), .ref (b + 23), .ref (b + 24), .ref (b + 25), .ref (b + 26), .ref (b + 27), .ref (b + 28), .ref (b + 29), .ref (b + 30)])) H' ∧ hq_S b 31 H H') := by
  refine hq_ofW (by decide) (Nat.le_of_ble_eq_true rfl) ?_
  intro p e s m below meth c ls C hml hret hlk hnm hl hP
  have hL : hq_L lo [] := hq_L0
  have hl : lv_has ls 3 [(0, .ref (b)), (1, .int (nI j)), (2, .int (3))] := hl
  have e0 : va_at D vwCl (b, .inr (6, [.int (th), .int (nI n), .ref (b + 1), .ref (b + 2), .ref (b + 3), .ref (b + 4), .ref (b + 5), .ref (b + 6), .ref (b + 7), .ref (b + 8), .ref (b + 9), .ref (b + 10), .ref (b + 11), .ref (b + 12), .ref (b + 13), .ref (b + 14), .ref (b + 15), .ref (b + 16), .ref (b + 17), .ref (b + 18), .ref (b + 19), .ref (b + 20), .ref (b + 21), .ref (b + 22), .ref (b + 23), .ref (b + 24), .ref (b + 25), .ref (b + 26), .ref (b + 27), .ref (b + 28), .ref (b + 29), .ref (b + 30)])) s.heap := hP 0 (by decide)
  have e15 : va_at D vwCl (b + 15, .inl (cI, 4, .inl (fun _ => 0))) s.heap := hP 15 (by decide)
  have hj4 : j < 4 := by omega
  refine lv_aload_n C.1 C.2.1 d_M_count_0 rfl (lv_at hl 0 rfl) ?_
  refine lv_aload_n C.1 C.2.1 d_M_count_1 rfl (lv_at hl 0 rfl) ?_
  refine lv_iload_n C.1 C.2.1 d_M_count_2 rfl (lv_at hl 1 rfl) ?_
  refine hq_callV (lo := lo) (As := [.int (nI j)]) (rest := [.ref (b)]) C tb_good hml Y_M_108 (c_noNode l D cI cZ cN cJ lo b n th (nI j)) e0 rfl (fun _ _ _ _ h => h) (fun U hU hW => by show va_at D vwCl (b, .inr (6, [.int (th), .int (nI n), .ref (b + 1), .ref (b + 2), .ref (b + 3), .ref (b + 4), .ref (b + 5), .ref (b + 6), .ref (b + 7), .ref (b + 8), .ref (b + 9), .ref (b + 10), .ref (b + 11), .ref (b + 12), .ref (b + 13), .ref (b + 14), .ref (b + 15), .ref (b + 16), .ref (b + 17), .ref (b + 18), .ref (b + 19), .ref (b + 20), .ref (b + 21), .ref (b + 22), .ref (b + 23), .ref (b + 24), .ref (b + 25), .ref (b + 26), .ref (b + 27), .ref (b + 28), .ref (b + 29), .ref (b + 30)])) U.heap; rw [hU]; exact e0) hL hl.1 rfl rfl ⟨⟨Nat.le_of_ble_eq_true rfl, Nat.le_of_ble_eq_true rfl⟩, Nat.le_of_ble_eq_true rfl, Nat.le_of_ble_eq_true rfl⟩ (Nat.le_of_ble_eq_true rfl) d_M_count_3 (fun v H41 locs hp hL => ?_)
  obtain ⟨rfl, rfl⟩ := hp
  refine W.eq (g2 := F0 m 6 ls [.int (nno n (nI j)), .ref (b)]) rfl ?_
  rw [nno_ok hn hj]
  refine lv_if_ne (tgt := 18) C.1 C.2.1 d_M_count_6 (by decide) (fun hn => absurd hn (by decide)) (fun _ => ?_)
  refine lv_iload_n C.1 C.2.1 d_M_count_9 rfl (lv_at hl 2 rfl) ?_
  refine lv_if_lt (tgt := 18) C.1 C.2.1 d_M_count_10 (by decide) (fun hn => absurd hn (by decide)) (fun _ => ?_)
  refine lv_iload_n C.1 C.2.1 d_M_count_13 rfl (lv_at hl 2 rfl) ?_
  refine lv_iconst (v := 4) C.1 C.2.1 d_M_count_14 (by decide) ?_
  refine lv_icmp_le (tgt := 22) C.1 C.2.1 d_M_count_15 (by decide) (fun _ => ?_) (fun hn => absurd (by decide) hn)
  refine lv_iconst (v := 0) C.1 C.2.1 d_M_count_22 (by decide) ?_
  refine hq_put (lo := lo) C f_M_105 e0 rfl rfl (Nat.le_of_ble_eq_true rfl) hL (by omega) d_M_count_23 (fun H42 locs u43 hL => ?_)
  have k44 : va_at D vwCl (b, .inr (6, [.int (0), .int (nI n), .ref (b + 1), .ref (b + 2), .ref (b + 3), .ref (b + 4), .ref (b + 5), .ref (b + 6), .ref (b + 7), .ref (b + 8), .ref (b + 9), .ref (b + 10), .ref (b + 11), .ref (b + 12), .ref (b + 13), .ref (b + 14), .ref (b + 15), .ref (b + 16), .ref (b + 17), .ref (b + 18), .ref (b + 19), .ref (b + 20), .ref (b + 21), .ref (b + 22), .ref (b + 23), .ref (b + 24), .ref (b + 25), .ref (b + 26), .ref (b + 27), .ref (b + 28), .ref (b + 29), .ref (b + 30)])) H42 := u43.2.2
  refine lv_aload_n C.1 C.2.1 d_M_count_26 rfl (lv_at hl 0 rfl) ?_
  refine hq_get (v := .int (0)) C f_M_105 k44 rfl d_M_count_27 ?_
  refine lv_if_eq (tgt := 35) C.1 C.2.1 d_M_count_30 (by decide) (fun _ => ?_) (fun hn => absurd (by decide) hn)
  refine lv_iload_n C.1 C.2.1 d_M_count_35 rfl (lv_at hl 2 rfl) ?_
  refine lv_if_ne (tgt := 48) C.1 C.2.1 d_M_count_36 (by decide) (fun _ => ?_) (fun hn => absurd hn (by decide))
  refine lv_iload_n C.1 C.2.1 d_M_count_48 rfl (lv_at hl 2 rfl) ?_
  refine lv_iconst (v := 1) C.1 C.2.1 d_M_count_49 (by decide) ?_
  refine lv_icmp_ne (tgt := 62) C.1 C.2.1 d_M_count_50 (by decide) (fun _ => ?_) (fun hn => absurd hn (by decide))
  refine lv_iload_n C.1 C.2.1 d_M_count_62 rfl (lv_at hl 2 rfl) ?_
  refine lv_iconst (v := 2) C.1 C.2.1 d_M_count_63 (by decide) ?_
  refine lv_icmp_ne (tgt := 76) C.1 C.2.1 d_M_count_64 (by decide) (fun _ => ?_) (fun hn => absurd hn (by decide))
  refine lv_iload_n C.1 C.2.1 d_M_count_76 rfl (lv_at hl 2 rfl) ?_
  refine lv_iconst (v := 3) C.1 C.2.1 d_M_count_77 (by decide) ?_
  refine lv_icmp_ne (tgt := 90) C.1 C.2.1 d_M_count_78 (by decide) (fun hn => absurd hn (by decide)) (fun _ => ?_)
  refine lv_aload_n C.1 C.2.1 d_M_count_81 rfl (lv_at hl 0 rfl) ?_
  refine hq_get (v := .ref (b + 15)) C f_M_53 k44 rfl d_M_count_82 ?_
  refine lv_iload_n C.1 C.2.1 d_M_count_85 rfl (lv_at hl 1 rfl) ?_
  have k45 := hq_au e15 u43 (by omega)
  refine hq_iald C 0 rfl k45 (vp_in_nI hj4 (by decide)) d_M_count_86 ?_
  refine W.eq (g2 := F0 m 87 ls [.int (0)]) rfl ?_
  refine lv_goto (tgt := 96) C.1 C.2.1 d_M_count_87 (by decide) ?_
  exact hq_iret C hret hlk (Nat.le_of_ble_eq_true rfl) (Nat.le_of_ble_eq_true rfl) hL ⟨rfl, k44, hq_Sput hq_S0 u43 (by omega) (by omega)⟩ d_M_count_96
set_option maxHeartbeats 4000000 in
set_option maxRecDepth 100000 in
theorem m_count_4 (l : Launch) (D : va_G) (cI cZ cN cJ : ClassId) (lo : Nat) (b n : Nat) (th : Int32) (hlo : lo ≤ b) (j : Nat) (hn : n ≤ 4) (hj : j < n) : hq_M l y_M_count b_M_count 3 (some .int) TB { frames := 2, cells := 0, slots := 0, locals := 60 } lo D vwCl (TY cI cZ cN cJ) [.ref (b), .int (nI j), .int (4)] (fun U => hq_B D vwCl b 31 (mdC cI cZ b th (nI n) (fun _ _ => 0)) U.heap) (fun H v H' => v = some (.int 0) ∧ va_at D vwCl (b, .inr (6, [.int (0), .int (nI n), .ref (b + 1), .ref (b + 2), .ref (b + 3), .ref (b + 4), .ref (b + 5), .ref (b + 6), .ref (b + 7), .ref (b + 8), .ref (b + 9), .ref (b + 10), .ref (b + 11), .ref (b + 12), .ref (b + 13), .ref (b + 14), .ref (b + 15), .ref (b + 16), .ref (b + 17), .ref (b + 18), .ref (b + 19), .ref (b + 20), .ref (b + 21), .ref (b + 22), .ref (b + 23), .ref (b + 24), .ref (b + 25), .ref (b + 26), .ref (b + 27), .ref (b + 28), .ref (b + 29), .ref (b + 30)])) H' ∧ hq_S b 31 H H') := by
  refine hq_ofW (by decide) (Nat.le_of_ble_eq_true rfl) ?_
  intro p e s m below meth c ls C hml hret hlk hnm hl hP
  have hL : hq_L lo [] := hq_L0
  have hl : lv_has ls 3 [(0, .ref (b)), (1, .int (nI j)), (2, .int (4))] := hl
  have e0 : va_at D vwCl (b, .inr (6, [.int (th), .int (nI n), .ref (b + 1), .ref (b + 2), .ref (b + 3), .ref (b + 4), .ref (b + 5), .ref (b + 6), .ref (b + 7), .ref (b + 8), .ref (b + 9), .ref (b + 10), .ref (b + 11), .ref (b + 12), .ref (b + 13), .ref (b + 14), .ref (b + 15), .ref (b + 16), .ref (b + 17), .ref (b + 18), .ref (b + 19), .ref (b + 20), .ref (b + 21), .ref (b + 22), .ref (b + 23), .ref (b + 24), .ref (b + 25), .ref (b + 26), .ref (b + 27), .ref (b + 28), .ref (b + 29), .ref (b + 30)])) s.heap := hP 0 (by decide)
  have e9 : va_at D vwCl (b + 9, .inl (cI, 4, .inl (fun _ => 0))) s.heap := hP 9 (by decide)
  have hj4 : j < 4 := by omega
  refine lv_aload_n C.1 C.2.1 d_M_count_0 rfl (lv_at hl 0 rfl) ?_
  refine lv_aload_n C.1 C.2.1 d_M_count_1 rfl (lv_at hl 0 rfl) ?_
  refine lv_iload_n C.1 C.2.1 d_M_count_2 rfl (lv_at hl 1 rfl) ?_
  refine hq_callV (lo := lo) (As := [.int (nI j)]) (rest := [.ref (b)]) C tb_good hml Y_M_108 (c_noNode l D cI cZ cN cJ lo b n th (nI j)) e0 rfl (fun _ _ _ _ h => h) (fun U hU hW => by show va_at D vwCl (b, .inr (6, [.int (th), .int (nI n), .ref (b + 1), .ref (b + 2), .ref (b + 3), .ref (b + 4), .ref (b + 5), .ref (b + 6), .ref (b + 7), .ref (b + 8), .ref (b + 9), .ref (b + 10), .ref (b + 11), .ref (b + 12), .ref (b + 13), .ref (b + 14), .ref (b + 15), .ref (b + 16), .ref (b + 17), .ref (b + 18), .ref (b + 19), .ref (b + 20), .ref (b + 21), .ref (b + 22), .ref (b + 23), .ref (b + 24), .ref (b + 25), .ref (b + 26), .ref (b + 27), .ref (b + 28), .ref (b + 29), .ref (b + 30)])) U.heap; rw [hU]; exact e0) hL hl.1 rfl rfl ⟨⟨Nat.le_of_ble_eq_true rfl, Nat.le_of_ble_eq_true rfl⟩, Nat.le_of_ble_eq_true rfl, Nat.le_of_ble_eq_true rfl⟩ (Nat.le_of_ble_eq_true rfl) d_M_count_3 (fun v H41 locs hp hL => ?_)
  obtain ⟨rfl, rfl⟩ := hp
  refine W.eq (g2 := F0 m 6 ls [.int (nno n (nI j)), .ref (b)]) rfl ?_
  rw [nno_ok hn hj]
  refine lv_if_ne (tgt := 18) C.1 C.2.1 d_M_count_6 (by decide) (fun hn => absurd hn (by decide)) (fun _ => ?_)
  refine lv_iload_n C.1 C.2.1 d_M_count_9 rfl (lv_at hl 2 rfl) ?_
  refine lv_if_lt (tgt := 18) C.1 C.2.1 d_M_count_10 (by decide) (fun hn => absurd hn (by decide)) (fun _ => ?_)
  refine lv_iload_n C.1 C.2.1 d_M_count_13 rfl (lv_at hl 2 rfl) ?_
  refine lv_iconst (v := 4) C.1 C.2.1 d_M_count_14 (by decide) ?_
  refine lv_icmp_le (tgt := 22) C.1 C.2.1 d_M_count_15 (by decide) (fun _ => ?_) (fun hn => absurd (by decide) hn)
  refine lv_iconst (v := 0) C.1 C.2.1 d_M_count_22 (by decide) ?_
  refine hq_put (lo := lo) C f_M_105 e0 rfl rfl (Nat.le_of_ble_eq_true rfl) hL (by omega) d_M_count_23 (fun H42 locs u43 hL => ?_)
  have k44 : va_at D vwCl (b, .inr (6, [.int (0), .int (nI n), .ref (b + 1), .ref (b + 2), .ref (b + 3), .ref (b + 4), .ref (b + 5), .ref (b + 6), .ref (b + 7), .ref (b + 8), .ref (b + 9), .ref (b + 10), .ref (b + 11), .ref (b + 12), .ref (b + 13), .ref (b + 14), .ref (b + 15), .ref (b + 16), .ref (b + 17), .ref (b + 18), .ref (b + 19), .ref (b + 20), .ref (b + 21), .ref (b + 22), .ref (b + 23), .ref (b + 24), .ref (b + 25), .ref (b + 26), .ref (b + 27), .ref (b + 28), .ref (b + 29), .ref (b + 30)])) H42 := u43.2.2
  refine lv_aload_n C.1 C.2.1 d_M_count_26 rfl (lv_at hl 0 rfl) ?_
  refine hq_get (v := .int (0)) C f_M_105 k44 rfl d_M_count_27 ?_
  refine lv_if_eq (tgt := 35) C.1 C.2.1 d_M_count_30 (by decide) (fun _ => ?_) (fun hn => absurd (by decide) hn)
  refine lv_iload_n C.1 C.2.1 d_M_count_35 rfl (lv_at hl 2 rfl) ?_
  refine lv_if_ne (tgt := 48) C.1 C.2.1 d_M_count_36 (by decide) (fun _ => ?_) (fun hn => absurd hn (by decide))
  refine lv_iload_n C.1 C.2.1 d_M_count_48 rfl (lv_at hl 2 rfl) ?_
  refine lv_iconst (v := 1) C.1 C.2.1 d_M_count_49 (by decide) ?_
  refine lv_icmp_ne (tgt := 62) C.1 C.2.1 d_M_count_50 (by decide) (fun _ => ?_) (fun hn => absurd hn (by decide))
  refine lv_iload_n C.1 C.2.1 d_M_count_62 rfl (lv_at hl 2 rfl) ?_
  refine lv_iconst (v := 2) C.1 C.2.1 d_M_count_63 (by decide) ?_
  refine lv_icmp_ne (tgt := 76) C.1 C.2.1 d_M_count_64 (by decide) (fun _ => ?_) (fun hn => absurd hn (by decide))
  refine lv_iload_n C.1 C.2.1 d_M_count_76 rfl (lv_at hl 2 rfl) ?_
  refine lv_iconst (v := 3) C.1 C.2.1 d_M_count_77 (by decide) ?_
  refine lv_icmp_ne (tgt := 90) C.1 C.2.1 d_M_count_78 (by decide) (fun _ => ?_) (fun hn => absurd hn (by decide))
  refine lv_aload_n C.1 C.2.1 d_M_count_90 rfl (lv_at hl 0 rfl) ?_
  refine hq_get (v := .ref (b + 9)) C f_M_35 k44 rfl d_M_count_91 ?_
  refine lv_iload_n C.1 C.2.1 d_M_count_94 rfl (lv_at hl 1 rfl) ?_
  have k45 := hq_au e9 u43 (by omega)
  refine hq_iald C 0 rfl k45 (vp_in_nI hj4 (by decide)) d_M_count_95 ?_
  refine W.eq (g2 := F0 m 96 ls [.int (0)]) rfl ?_
  exact hq_iret C hret hlk (Nat.le_of_ble_eq_true rfl) (Nat.le_of_ble_eq_true rfl) hL ⟨rfl, k44, hq_Sput hq_S0 u43 (by omega) (by omega)⟩ d_M_count_96
set_option maxHeartbeats 4000000 in
set_option maxRecDepth 100000 in
theorem m_total_f (l : Launch) (D : va_G) (cI cZ cN cJ : ClassId) (lo : Nat) (b n : Nat) (th : Int32) (hlo : lo ≤ b) (a : Int32) (hb : a < 0 ∨ ¬ a ≤ 7) : hq_M l y_M_total b_M_total 2 (some .int) TB { frames := 2, cells := 0, slots := 0, locals := 60 } lo D vwCl (TY cI cZ cN cJ) [.ref (b), .int (a)] (fun U => hq_B D vwCl b 31 (mdC cI cZ b th (nI n) (fun _ _ => 0)) U.heap) (fun H v H' => v = some (.int 0) ∧ va_at D vwCl (b, .inr (6, [.int (1), .int (nI n), .ref (b + 1), .ref (b + 2), .ref (b + 3), .ref (b + 4), .ref (b + 5), .ref (b + 6), .ref (b + 7), .ref (b + 8), .ref (b + 9), .ref (b + 10), .ref (b + 11), .ref (b + 12), .ref (b + 13), .ref (b + 14), .ref (b + 15), .ref (b + 16), .ref (b + 17), .ref (b + 18), .ref (b + 19), .ref (b + 20), .ref (b + 21), .ref (b + 22), .ref (b + 23), .ref (b + 24), .ref (b + 25), .ref (b + 26), .ref (b + 27), .ref (b + 28), .ref (b + 29), .ref (b + 30)])) H' ∧ hq_S b 31 H H') := by
  refine hq_ofW (by decide) (Nat.le_of_ble_eq_true rfl) ?_
  intro p e s m below meth c ls C hml hret hlk hnm hl hP
  have hL : hq_L lo [] := hq_L0
  have hl : lv_has ls 2 [(0, .ref (b)), (1, .int (a))] := hl
  have e0 : va_at D vwCl (b, .inr (6, [.int (th), .int (nI n), .ref (b + 1), .ref (b + 2), .ref (b + 3), .ref (b + 4), .ref (b + 5), .ref (b + 6), .ref (b + 7), .ref (b + 8), .ref (b + 9), .ref (b + 10), .ref (b + 11), .ref (b + 12), .ref (b + 13), .ref (b + 14), .ref (b + 15), .ref (b + 16), .ref (b + 17), .ref (b + 18), .ref (b + 19), .ref (b + 20), .ref (b + 21), .ref (b + 22), .ref (b + 23), .ref (b + 24), .ref (b + 25), .ref (b + 26), .ref (b + 27), .ref (b + 28), .ref (b + 29), .ref (b + 30)])) s.heap := hP 0 (by decide)
  refine lv_aload_n C.1 C.2.1 d_M_total_0 rfl (lv_at hl 0 rfl) ?_
  refine lv_iload_n C.1 C.2.1 d_M_total_1 rfl (lv_at hl 1 rfl) ?_
  refine lv_if_lt (tgt := 11) C.1 C.2.1 d_M_total_2 (by decide) ?_ ?_
  · intro c0
    refine lv_iconst (v := 1) C.1 C.2.1 d_M_total_11 (by decide) ?_
    refine lv_goto (tgt := 16) C.1 C.2.1 d_M_total_12 (by decide) ?_
    refine hq_put (lo := lo) C f_M_105 e0 rfl rfl (Nat.le_of_ble_eq_true rfl) hL (by omega) d_M_total_16 (fun H41 locs u42 hL => ?_)
    have k43 : va_at D vwCl (b, .inr (6, [.int (1), .int (nI n), .ref (b + 1), .ref (b + 2), .ref (b + 3), .ref (b + 4), .ref (b + 5), .ref (b + 6), .ref (b + 7), .ref (b + 8), .ref (b + 9), .ref (b + 10), .ref (b + 11), .ref (b + 12), .ref (b + 13), .ref (b + 14), .ref (b + 15), .ref (b + 16), .ref (b + 17), .ref (b + 18), .ref (b + 19), .ref (b + 20), .ref (b + 21), .ref (b + 22), .ref (b + 23), .ref (b + 24), .ref (b + 25), .ref (b + 26), .ref (b + 27), .ref (b + 28), .ref (b + 29), .ref (b + 30)])) H41 := u42.2.2
    refine lv_aload_n C.1 C.2.1 d_M_total_19 rfl (lv_at hl 0 rfl) ?_
    refine hq_get (v := .int (1)) C f_M_105 k43 rfl d_M_total_20 ?_
    refine lv_if_ne (tgt := 35) C.1 C.2.1 d_M_total_23 (by decide) (fun _ => ?_) (fun hn => absurd hn (by decide))
    refine lv_iconst (v := 0) C.1 C.2.1 d_M_total_35 (by decide) ?_
    exact hq_iret C hret hlk (Nat.le_of_ble_eq_true rfl) (Nat.le_of_ble_eq_true rfl) hL ⟨rfl, k43, hq_Sput hq_S0 u42 (by omega) (by omega)⟩ d_M_total_36
  · intro c0
    refine lv_iload_n C.1 C.2.1 d_M_total_5 rfl (lv_at hl 1 rfl) ?_
    refine lv_bipush (v := 7) C.1 C.2.1 d_M_total_6 (by decide) ?_
    refine lv_icmp_le (tgt := 15) C.1 C.2.1 d_M_total_8 (by decide) (fun hn => absurd hn (fun h9 => hb.elim c0 (fun z => z h9))) (fun _ => ?_)
    refine lv_iconst (v := 1) C.1 C.2.1 d_M_total_11 (by decide) ?_
    refine lv_goto (tgt := 16) C.1 C.2.1 d_M_total_12 (by decide) ?_
    refine hq_put (lo := lo) C f_M_105 e0 rfl rfl (Nat.le_of_ble_eq_true rfl) hL (by omega) d_M_total_16 (fun H44 locs u45 hL => ?_)
    have k46 : va_at D vwCl (b, .inr (6, [.int (1), .int (nI n), .ref (b + 1), .ref (b + 2), .ref (b + 3), .ref (b + 4), .ref (b + 5), .ref (b + 6), .ref (b + 7), .ref (b + 8), .ref (b + 9), .ref (b + 10), .ref (b + 11), .ref (b + 12), .ref (b + 13), .ref (b + 14), .ref (b + 15), .ref (b + 16), .ref (b + 17), .ref (b + 18), .ref (b + 19), .ref (b + 20), .ref (b + 21), .ref (b + 22), .ref (b + 23), .ref (b + 24), .ref (b + 25), .ref (b + 26), .ref (b + 27), .ref (b + 28), .ref (b + 29), .ref (b + 30)])) H44 := u45.2.2
    refine lv_aload_n C.1 C.2.1 d_M_total_19 rfl (lv_at hl 0 rfl) ?_
    refine hq_get (v := .int (1)) C f_M_105 k46 rfl d_M_total_20 ?_
    refine lv_if_ne (tgt := 35) C.1 C.2.1 d_M_total_23 (by decide) (fun _ => ?_) (fun hn => absurd hn (by decide))
    refine lv_iconst (v := 0) C.1 C.2.1 d_M_total_35 (by decide) ?_
    exact hq_iret C hret hlk (Nat.le_of_ble_eq_true rfl) (Nat.le_of_ble_eq_true rfl) hL ⟨rfl, k46, hq_Sput hq_S0 u45 (by omega) (by omega)⟩ d_M_total_36
set_option maxHeartbeats 4000000 in
set_option maxRecDepth 100000 in
theorem m_total_g (l : Launch) (D : va_G) (cI cZ cN cJ : ClassId) (lo : Nat) (b n : Nat) (th : Int32) (hlo : lo ≤ b) (k : Nat) (hk : k < 8) : hq_M l y_M_total b_M_total 2 (some .int) TB { frames := 2, cells := 0, slots := 0, locals := 60 } lo D vwCl (TY cI cZ cN cJ) [.ref (b), .int (nI k)] (fun U => hq_B D vwCl b 31 (mdC cI cZ b th (nI n) (fun _ _ => 0)) U.heap) (fun H v H' => v = some (.int 0) ∧ va_at D vwCl (b, .inr (6, [.int (0), .int (nI n), .ref (b + 1), .ref (b + 2), .ref (b + 3), .ref (b + 4), .ref (b + 5), .ref (b + 6), .ref (b + 7), .ref (b + 8), .ref (b + 9), .ref (b + 10), .ref (b + 11), .ref (b + 12), .ref (b + 13), .ref (b + 14), .ref (b + 15), .ref (b + 16), .ref (b + 17), .ref (b + 18), .ref (b + 19), .ref (b + 20), .ref (b + 21), .ref (b + 22), .ref (b + 23), .ref (b + 24), .ref (b + 25), .ref (b + 26), .ref (b + 27), .ref (b + 28), .ref (b + 29), .ref (b + 30)])) H' ∧ hq_S b 31 H H') := by
  refine hq_ofW (by decide) (Nat.le_of_ble_eq_true rfl) ?_
  intro p e s m below meth c ls C hml hret hlk hnm hl hP
  have hL : hq_L lo [] := hq_L0
  have hl : lv_has ls 2 [(0, .ref (b)), (1, .int (nI k))] := hl
  have e0 : va_at D vwCl (b, .inr (6, [.int (th), .int (nI n), .ref (b + 1), .ref (b + 2), .ref (b + 3), .ref (b + 4), .ref (b + 5), .ref (b + 6), .ref (b + 7), .ref (b + 8), .ref (b + 9), .ref (b + 10), .ref (b + 11), .ref (b + 12), .ref (b + 13), .ref (b + 14), .ref (b + 15), .ref (b + 16), .ref (b + 17), .ref (b + 18), .ref (b + 19), .ref (b + 20), .ref (b + 21), .ref (b + 22), .ref (b + 23), .ref (b + 24), .ref (b + 25), .ref (b + 26), .ref (b + 27), .ref (b + 28), .ref (b + 29), .ref (b + 30)])) s.heap := hP 0 (by decide)
  have e1 : va_at D vwCl (b + 1, .inl (cI, 8, .inl (fun _ => 0))) s.heap := hP 1 (by decide)
  refine lv_aload_n C.1 C.2.1 d_M_total_0 rfl (lv_at hl 0 rfl) ?_
  refine lv_iload_n C.1 C.2.1 d_M_total_1 rfl (lv_at hl 1 rfl) ?_
  refine lv_if_lt (tgt := 11) C.1 C.2.1 d_M_total_2 (by decide) (fun hn => absurd hn (nI_pos (by omega))) (fun _ => ?_)
  refine lv_iload_n C.1 C.2.1 d_M_total_5 rfl (lv_at hl 1 rfl) ?_
  refine lv_bipush (v := 7) C.1 C.2.1 d_M_total_6 (by decide) ?_
  refine lv_icmp_le (tgt := 15) C.1 C.2.1 d_M_total_8 (by decide) (fun _ => ?_) (fun hn => absurd (nI_le (b := 7) (show k ≤ 7 by omega) (by decide)) hn)
  refine lv_iconst (v := 0) C.1 C.2.1 d_M_total_15 (by decide) ?_
  refine hq_put (lo := lo) C f_M_105 e0 rfl rfl (Nat.le_of_ble_eq_true rfl) hL (by omega) d_M_total_16 (fun H41 locs u42 hL => ?_)
  have k43 : va_at D vwCl (b, .inr (6, [.int (0), .int (nI n), .ref (b + 1), .ref (b + 2), .ref (b + 3), .ref (b + 4), .ref (b + 5), .ref (b + 6), .ref (b + 7), .ref (b + 8), .ref (b + 9), .ref (b + 10), .ref (b + 11), .ref (b + 12), .ref (b + 13), .ref (b + 14), .ref (b + 15), .ref (b + 16), .ref (b + 17), .ref (b + 18), .ref (b + 19), .ref (b + 20), .ref (b + 21), .ref (b + 22), .ref (b + 23), .ref (b + 24), .ref (b + 25), .ref (b + 26), .ref (b + 27), .ref (b + 28), .ref (b + 29), .ref (b + 30)])) H41 := u42.2.2
  refine lv_aload_n C.1 C.2.1 d_M_total_19 rfl (lv_at hl 0 rfl) ?_
  refine hq_get (v := .int (0)) C f_M_105 k43 rfl d_M_total_20 ?_
  refine lv_if_ne (tgt := 35) C.1 C.2.1 d_M_total_23 (by decide) (fun hn => absurd hn (by decide)) (fun _ => ?_)
  refine lv_aload_n C.1 C.2.1 d_M_total_26 rfl (lv_at hl 0 rfl) ?_
  refine hq_get (v := .ref (b + 1)) C f_M_7 k43 rfl d_M_total_27 ?_
  refine lv_iload_n C.1 C.2.1 d_M_total_30 rfl (lv_at hl 1 rfl) ?_
  have k44 := hq_au e1 u42 (by omega)
  refine hq_iald C 0 rfl k44 (vp_in_nI hk (by decide)) d_M_total_31 ?_
  refine W.eq (g2 := F0 m 32 ls [.int (0)]) rfl ?_
  refine lv_goto (tgt := 36) C.1 C.2.1 d_M_total_32 (by decide) ?_
  exact hq_iret C hret hlk (Nat.le_of_ble_eq_true rfl) (Nat.le_of_ble_eq_true rfl) hL ⟨rfl, k43, hq_Sput hq_S0 u42 (by omega) (by omega)⟩ d_M_total_36
set_option maxHeartbeats 4000000 in
set_option maxRecDepth 100000 in
theorem m_level (l : Launch) (D : va_G) (cI cZ cN cJ : ClassId) (lo : Nat) (b n : Nat) (th : Int32) (hlo : lo ≤ b) (a : Int32) : hq_M l y_M_level b_M_level 2 (some .int) TB { frames := 2, cells := 0, slots := 0, locals := 60 } lo D vwCl (TY cI cZ cN cJ) [.ref (b), .int (a)] (fun U => hq_B D vwCl b 31 (mdC cI cZ b th (nI n) (fun _ _ => 0)) U.heap) (fun H v H' => v = some (.int (-1)) ∧ va_at D vwCl (b, .inr (6, [.int (0), .int (nI n), .ref (b + 1), .ref (b + 2), .ref (b + 3), .ref (b + 4), .ref (b + 5), .ref (b + 6), .ref (b + 7), .ref (b + 8), .ref (b + 9), .ref (b + 10), .ref (b + 11), .ref (b + 12), .ref (b + 13), .ref (b + 14), .ref (b + 15), .ref (b + 16), .ref (b + 17), .ref (b + 18), .ref (b + 19), .ref (b + 20), .ref (b + 21), .ref (b + 22), .ref (b + 23), .ref (b + 24), .ref (b + 25), .ref (b + 26), .ref (b + 27), .ref (b + 28), .ref (b + 29), .ref (b + 30)])) H' ∧ hq_S b 31 H H') := by
  refine hq_ofW (by decide) (Nat.le_of_ble_eq_true rfl) ?_
  intro p e s m below meth c ls C hml hret hlk hnm hl hP
  have hL : hq_L lo [] := hq_L0
  have hl : lv_has ls 2 [(0, .ref (b)), (1, .int (a))] := hl
  have e0 : va_at D vwCl (b, .inr (6, [.int (th), .int (nI n), .ref (b + 1), .ref (b + 2), .ref (b + 3), .ref (b + 4), .ref (b + 5), .ref (b + 6), .ref (b + 7), .ref (b + 8), .ref (b + 9), .ref (b + 10), .ref (b + 11), .ref (b + 12), .ref (b + 13), .ref (b + 14), .ref (b + 15), .ref (b + 16), .ref (b + 17), .ref (b + 18), .ref (b + 19), .ref (b + 20), .ref (b + 21), .ref (b + 22), .ref (b + 23), .ref (b + 24), .ref (b + 25), .ref (b + 26), .ref (b + 27), .ref (b + 28), .ref (b + 29), .ref (b + 30)])) s.heap := hP 0 (by decide)
  have e1 : va_at D vwCl (b + 1, .inl (cI, 8, .inl (fun _ => 0))) s.heap := hP 1 (by decide)
  refine lv_aload_n C.1 C.2.1 d_M_level_0 rfl (lv_at hl 0 rfl) ?_
  refine lv_iconst (v := 0) C.1 C.2.1 d_M_level_1 (by decide) ?_
  refine hq_put (lo := lo) C f_M_105 e0 rfl rfl (Nat.le_of_ble_eq_true rfl) hL (by omega) d_M_level_2 (fun H41 locs u42 hL => ?_)
  have k43 : va_at D vwCl (b, .inr (6, [.int (0), .int (nI n), .ref (b + 1), .ref (b + 2), .ref (b + 3), .ref (b + 4), .ref (b + 5), .ref (b + 6), .ref (b + 7), .ref (b + 8), .ref (b + 9), .ref (b + 10), .ref (b + 11), .ref (b + 12), .ref (b + 13), .ref (b + 14), .ref (b + 15), .ref (b + 16), .ref (b + 17), .ref (b + 18), .ref (b + 19), .ref (b + 20), .ref (b + 21), .ref (b + 22), .ref (b + 23), .ref (b + 24), .ref (b + 25), .ref (b + 26), .ref (b + 27), .ref (b + 28), .ref (b + 29), .ref (b + 30)])) H41 := u42.2.2
  refine lv_iload_n C.1 C.2.1 d_M_level_5 rfl (lv_at hl 1 rfl) ?_
  refine lv_if_lt (tgt := 25) C.1 C.2.1 d_M_level_6 (by decide) ?_ ?_
  · intro c0
    refine lv_iconst (v := -1) C.1 C.2.1 d_M_level_25 (by decide) ?_
    refine lv_goto (tgt := 45) C.1 C.2.1 d_M_level_26 (by decide) ?_
    exact hq_iret C hret hlk (Nat.le_of_ble_eq_true rfl) (Nat.le_of_ble_eq_true rfl) hL ⟨rfl, k43, hq_Sput hq_S0 u42 (by omega) (by omega)⟩ d_M_level_45
  · intro c0
    refine lv_iload_n C.1 C.2.1 d_M_level_9 rfl (lv_at hl 1 rfl) ?_
    refine lv_bipush (v := 63) C.1 C.2.1 d_M_level_10 (by decide) ?_
    refine lv_icmp_gt (tgt := 25) C.1 C.2.1 d_M_level_12 (by decide) ?_ ?_
    · intro c1
      refine lv_iconst (v := -1) C.1 C.2.1 d_M_level_25 (by decide) ?_
      refine lv_goto (tgt := 45) C.1 C.2.1 d_M_level_26 (by decide) ?_
      exact hq_iret C hret hlk (Nat.le_of_ble_eq_true rfl) (Nat.le_of_ble_eq_true rfl) hL ⟨rfl, k43, hq_Sput hq_S0 u42 (by omega) (by omega)⟩ d_M_level_45
    · intro c1
      refine lv_iload_n C.1 C.2.1 d_M_level_15 rfl (lv_at hl 1 rfl) ?_
      refine lv_aload_n C.1 C.2.1 d_M_level_16 rfl (lv_at hl 0 rfl) ?_
      refine hq_get (v := .ref (b + 1)) C f_M_7 k43 rfl d_M_level_17 ?_
      refine lv_iconst (v := 0) C.1 C.2.1 d_M_level_20 (by decide) ?_
      have k44 := hq_au e1 u42 (by omega)
      refine hq_iald C 0 rfl k44 (show vp_in (nI 0) 8 from vp_in_nI (by decide) (by decide)) d_M_level_21 ?_
      refine W.eq (g2 := F0 m 22 ls [.int (0), .int (a)]) rfl ?_
      refine lv_icmp_lt (tgt := 29) C.1 C.2.1 d_M_level_22 (by decide) (fun hn => absurd hn (c0)) (fun _ => ?_)
      refine lv_iconst (v := -1) C.1 C.2.1 d_M_level_25 (by decide) ?_
      refine lv_goto (tgt := 45) C.1 C.2.1 d_M_level_26 (by decide) ?_
      exact hq_iret C hret hlk (Nat.le_of_ble_eq_true rfl) (Nat.le_of_ble_eq_true rfl) hL ⟨rfl, k43, hq_Sput hq_S0 u42 (by omega) (by omega)⟩ d_M_level_45
