/-! The reference's pass, where no node has anything to do. -/
abbrev mpRm : Room := { frames := 1, cells := 0, slots := 0, locals := 40 }
abbrev mqRm : Room := { frames := 2, cells := 0, slots := 0, locals := 70 }
def mI (tt wi dr : Nat → Int32) : Nat → Nat → Int32 := fun j => match j with
  | 0 => tt
  | 1 => wi
  | 29 => dr
  | _ => fun _ => 0
theorem hq_Bput {D : va_G} {cl : List vw_C} {b n i a : Nat} {e : va_E} {C C' : Nat → va_E} {H H1 : Heap} (h : hq_B D cl b n C H) (hU : hq_U D cl a e H H1) (ha : a = b + i) (he : C' i = e) (hC : ∀ j, j < n → j ≠ i → C' j = C j) : hq_B D cl b n C' H1 := by
  intro j hj
  by_cases hji : j = i
  · subst hji
    rw [he, ← ha]
    exact hU.2.2
  · rw [hC j hj hji]
    exact hq_au (h j hj) hU (by omega)
theorem md_tt {cI cZ : ClassId} {b : Nat} {th nn : Int32} {tt wi dr tt' : Nat → Int32} (j : Nat) (hj : j < 31) (h : j ≠ 1) : mdC cI cZ b th nn (mI tt' wi dr) j = mdC cI cZ b th nn (mI tt wi dr) j := by
  match j, hj, h with
  | 0, _, h => rfl
  | 1, _, h => exact absurd rfl h
  | 2, _, h => rfl
  | 3, _, h => rfl
  | 4, _, h => rfl
  | 5, _, h => rfl
  | 6, _, h => rfl
  | 7, _, h => rfl
  | 8, _, h => rfl
  | 9, _, h => rfl
  | 10, _, h => rfl
  | 11, _, h => rfl
  | 12, _, h => rfl
  | 13, _, h => rfl
  | 14, _, h => rfl
  | 15, _, h => rfl
  | 16, _, h => rfl
  | 17, _, h => rfl
  | 18, _, h => rfl
  | 19, _, h => rfl
  | 20, _, h => rfl
  | 21, _, h => rfl
  | 22, _, h => rfl
  | 23, _, h => rfl
  | 24, _, h => rfl
  | 25, _, h => rfl
  | 26, _, h => rfl
  | 27, _, h => rfl
  | 28, _, h => rfl
  | 29, _, h => rfl
  | 30, _, h => rfl
  | q + 31, hj, _ => exact absurd hj (by omega)
theorem md_wi {cI cZ : ClassId} {b : Nat} {th nn : Int32} {tt wi dr wi' : Nat → Int32} (j : Nat) (hj : j < 31) (h : j ≠ 2) : mdC cI cZ b th nn (mI tt wi' dr) j = mdC cI cZ b th nn (mI tt wi dr) j := by
  match j, hj, h with
  | 0, _, h => rfl
  | 1, _, h => rfl
  | 2, _, h => exact absurd rfl h
  | 3, _, h => rfl
  | 4, _, h => rfl
  | 5, _, h => rfl
  | 6, _, h => rfl
  | 7, _, h => rfl
  | 8, _, h => rfl
  | 9, _, h => rfl
  | 10, _, h => rfl
  | 11, _, h => rfl
  | 12, _, h => rfl
  | 13, _, h => rfl
  | 14, _, h => rfl
  | 15, _, h => rfl
  | 16, _, h => rfl
  | 17, _, h => rfl
  | 18, _, h => rfl
  | 19, _, h => rfl
  | 20, _, h => rfl
  | 21, _, h => rfl
  | 22, _, h => rfl
  | 23, _, h => rfl
  | 24, _, h => rfl
  | 25, _, h => rfl
  | 26, _, h => rfl
  | 27, _, h => rfl
  | 28, _, h => rfl
  | 29, _, h => rfl
  | 30, _, h => rfl
  | q + 31, hj, _ => exact absurd hj (by omega)
theorem md_dr {cI cZ : ClassId} {b : Nat} {th nn : Int32} {tt wi dr dr' : Nat → Int32} (j : Nat) (hj : j < 31) (h : j ≠ 30) : mdC cI cZ b th nn (mI tt wi dr') j = mdC cI cZ b th nn (mI tt wi dr) j := by
  match j, hj, h with
  | 0, _, h => rfl
  | 1, _, h => rfl
  | 2, _, h => rfl
  | 3, _, h => rfl
  | 4, _, h => rfl
  | 5, _, h => rfl
  | 6, _, h => rfl
  | 7, _, h => rfl
  | 8, _, h => rfl
  | 9, _, h => rfl
  | 10, _, h => rfl
  | 11, _, h => rfl
  | 12, _, h => rfl
  | 13, _, h => rfl
  | 14, _, h => rfl
  | 15, _, h => rfl
  | 16, _, h => rfl
  | 17, _, h => rfl
  | 18, _, h => rfl
  | 19, _, h => rfl
  | 20, _, h => rfl
  | 21, _, h => rfl
  | 22, _, h => rfl
  | 23, _, h => rfl
  | 24, _, h => rfl
  | 25, _, h => rfl
  | 26, _, h => rfl
  | 27, _, h => rfl
  | 28, _, h => rfl
  | 29, _, h => rfl
  | 30, _, h => exact absurd rfl h
  | q + 31, hj, _ => exact absurd hj (by omega)
theorem md_i0 {cI cZ : ClassId} {b : Nat} {th nn : Int32} (j : Nat) (hj : j < 31) : mdC cI cZ b th nn (mI (fun _ => 0) (fun _ => 0) (fun _ => 0)) j = mdC cI cZ b th nn (fun _ _ => 0) j := by
  match j, hj with
  | 0, _ => rfl
  | 1, _ => rfl
  | 2, _ => rfl
  | 3, _ => rfl
  | 4, _ => rfl
  | 5, _ => rfl
  | 6, _ => rfl
  | 7, _ => rfl
  | 8, _ => rfl
  | 9, _ => rfl
  | 10, _ => rfl
  | 11, _ => rfl
  | 12, _ => rfl
  | 13, _ => rfl
  | 14, _ => rfl
  | 15, _ => rfl
  | 16, _ => rfl
  | 17, _ => rfl
  | 18, _ => rfl
  | 19, _ => rfl
  | 20, _ => rfl
  | 21, _ => rfl
  | 22, _ => rfl
  | 23, _ => rfl
  | 24, _ => rfl
  | 25, _ => rfl
  | 26, _ => rfl
  | 27, _ => rfl
  | 28, _ => rfl
  | 29, _ => rfl
  | 30, _ => rfl
  | q + 31, hj => exact absurd hj (by omega)
theorem md_th {cI cZ : ClassId} {b : Nat} {th th' nn : Int32} {A : Nat → Nat → Int32} (j : Nat) (hj : j < 31) (h : j ≠ 0) : mdC cI cZ b th' nn A j = mdC cI cZ b th nn A j := by
  match j, hj, h with
  | 0, _, h => exact absurd rfl h
  | 1, _, _ => rfl
  | 2, _, _ => rfl
  | 3, _, _ => rfl
  | 4, _, _ => rfl
  | 5, _, _ => rfl
  | 6, _, _ => rfl
  | 7, _, _ => rfl
  | 8, _, _ => rfl
  | 9, _, _ => rfl
  | 10, _, _ => rfl
  | 11, _, _ => rfl
  | 12, _, _ => rfl
  | 13, _, _ => rfl
  | 14, _, _ => rfl
  | 15, _, _ => rfl
  | 16, _, _ => rfl
  | 17, _, _ => rfl
  | 18, _, _ => rfl
  | 19, _, _ => rfl
  | 20, _, _ => rfl
  | 21, _, _ => rfl
  | 22, _, _ => rfl
  | 23, _, _ => rfl
  | 24, _, _ => rfl
  | 25, _, _ => rfl
  | 26, _, _ => rfl
  | 27, _, _ => rfl
  | 28, _, _ => rfl
  | 29, _, _ => rfl
  | 30, _, _ => rfl
  | q + 31, hj, _ => exact absurd hj (by omega)
set_option maxHeartbeats 4000000 in
set_option maxRecDepth 100000 in
theorem c_mdriven (l : Launch) (D : va_G) (cI cZ cN cJ : ClassId) (lo : Nat) (b n j : Nat) (th : Int32) (hj : j < 4) : hq_M l y_M_driven b_M_driven 2 (some .int) TB { frames := 0, cells := 0, slots := 0, locals := 0 } lo D vwCl (TY cI cZ cN cJ) [.ref (b), .int (nI j)] (fun U => va_at D vwCl (b, .inr (6, [.int (th), .int (nI n), .ref (b + 1), .ref (b + 2), .ref (b + 3), .ref (b + 4), .ref (b + 5), .ref (b + 6), .ref (b + 7), .ref (b + 8), .ref (b + 9), .ref (b + 10), .ref (b + 11), .ref (b + 12), .ref (b + 13), .ref (b + 14), .ref (b + 15), .ref (b + 16), .ref (b + 17), .ref (b + 18), .ref (b + 19), .ref (b + 20), .ref (b + 21), .ref (b + 22), .ref (b + 23), .ref (b + 24), .ref (b + 25), .ref (b + 26), .ref (b + 27), .ref (b + 28), .ref (b + 29), .ref (b + 30)])) U.heap ∧ va_at D vwCl (b + 4, .inl (cI, 4, .inl (fun _ => 0))) U.heap) (fun H v H' => v = some (.int 1) ∧ H' = H) := by
  refine hq_ofW (by decide) (Nat.le_of_ble_eq_true rfl) ?_
  intro p e s m below meth c ls C hml hret hlk hnm hl hP
  obtain ⟨e0, e4⟩ := hP
  have hL : hq_L lo [] := hq_L0
  have hl : lv_has ls 2 [(0, .ref (b)), (1, .int (nI j))] := hl
  have hj4 := hj
  refine lv_aload_n C.1 C.2.1 d_M_driven_0 rfl (lv_at hl 0 rfl) ?_
  refine hq_get (v := .ref (b + 4)) C f_M_20 e0 rfl d_M_driven_1 ?_
  refine lv_iload_n C.1 C.2.1 d_M_driven_4 rfl (lv_at hl 1 rfl) ?_
  refine hq_iald C 0 rfl e4 (vp_in_nI hj4 (by decide)) d_M_driven_5 ?_
  refine W.eq (g2 := F0 m 6 ls [.int (0)]) rfl ?_
  refine lv_tableOut (tgt := 112) C.1 C.2.1 d_M_driven_6 (Or.inl (by decide)) (by decide) ?_
  refine lv_iconst (v := 1) C.1 C.2.1 d_M_driven_112 (by decide) ?_
  exact hq_iret C hret hlk (Nat.le_of_ble_eq_true rfl) (Nat.le_of_ble_eq_true rfl) hL ⟨rfl, rfl⟩ d_M_driven_113
set_option maxHeartbeats 4000000 in
set_option maxRecDepth 100000 in
theorem c_msee (l : Launch) (D : va_G) (cI cZ cN cJ : ClassId) (lo : Nat) (b n j : Nat) (th : Int32) (hj : j < 4) : hq_M l y_M_see b_M_see 3 none TB { frames := 0, cells := 0, slots := 0, locals := 0 } lo D vwCl (TY cI cZ cN cJ) [.ref (b), .int (nI j), .int (1)] (fun U => va_at D vwCl (b, .inr (6, [.int (th), .int (nI n), .ref (b + 1), .ref (b + 2), .ref (b + 3), .ref (b + 4), .ref (b + 5), .ref (b + 6), .ref (b + 7), .ref (b + 8), .ref (b + 9), .ref (b + 10), .ref (b + 11), .ref (b + 12), .ref (b + 13), .ref (b + 14), .ref (b + 15), .ref (b + 16), .ref (b + 17), .ref (b + 18), .ref (b + 19), .ref (b + 20), .ref (b + 21), .ref (b + 22), .ref (b + 23), .ref (b + 24), .ref (b + 25), .ref (b + 26), .ref (b + 27), .ref (b + 28), .ref (b + 29), .ref (b + 30)])) U.heap ∧ va_at D vwCl (b + 4, .inl (cI, 4, .inl (fun _ => 0))) U.heap) (fun H v H' => v = none ∧ H' = H) := by
  refine hq_ofW (by decide) (Nat.le_of_ble_eq_true rfl) ?_
  intro p e s m below meth c ls C hml hret hlk hnm hl hP
  obtain ⟨e0, e4⟩ := hP
  have hL : hq_L lo [] := hq_L0
  have hl : lv_has ls 3 [(0, .ref (b)), (1, .int (nI j)), (2, .int (1))] := hl
  have hj4 := hj
  refine lv_aload_n C.1 C.2.1 d_M_see_0 rfl (lv_at hl 0 rfl) ?_
  refine hq_get (v := .ref (b + 4)) C f_M_20 e0 rfl d_M_see_1 ?_
  refine lv_iload_n C.1 C.2.1 d_M_see_4 rfl (lv_at hl 1 rfl) ?_
  refine hq_iald C 0 rfl e4 (vp_in_nI hj4 (by decide)) d_M_see_5 ?_
  refine W.eq (g2 := F0 m 6 ls [.int (0)]) rfl ?_
  refine lv_tableOut (tgt := 102) C.1 C.2.1 d_M_see_6 (Or.inl (by decide)) (by decide) ?_
  refine lv_iload_n C.1 C.2.1 d_M_see_102 rfl (lv_at hl 2 rfl) ?_
  refine lv_if_ne (tgt := 114) C.1 C.2.1 d_M_see_103 (by decide) (fun _ => ?_) (fun hn => absurd hn (by decide))
  refine lv_aload_n C.1 C.2.1 d_M_see_114 rfl (lv_at hl 0 rfl) ?_
  refine hq_get (v := .ref (b + 4)) C f_M_20 e0 rfl d_M_see_115 ?_
  refine lv_iload_n C.1 C.2.1 d_M_see_118 rfl (lv_at hl 1 rfl) ?_
  refine hq_iald C 0 rfl e4 (vp_in_nI hj4 (by decide)) d_M_see_119 ?_
  refine W.eq (g2 := F0 m 120 ls [.int (0)]) rfl ?_
  refine lv_bipush (v := 6) C.1 C.2.1 d_M_see_120 (by decide) ?_
  refine lv_icmp_ne (tgt := 158) C.1 C.2.1 d_M_see_122 (by decide) (fun _ => ?_) (fun hn => absurd hn (by decide))
  exact hq_vret C hret hlk (Nat.le_of_ble_eq_true rfl) (Nat.le_of_ble_eq_true rfl) hL ⟨rfl, rfl⟩ d_M_see_158
def mpPost (D : va_G) (cI cZ : ClassId) (b n k : Nat) (tt : Nat → Int32) : Heap → Option Value → Heap → Prop := fun H v H' => v = none ∧ (∃ wi dr : Nat → Int32, hq_B D vwCl b 31 (mdC cI cZ b 0 (nI n) (mI (upd tt 0 (nI (k + 1))) wi dr)) H') ∧ hq_S b 31 H H'
set_option maxHeartbeats 4000000 in
set_option maxRecDepth 100000 in
theorem mp_loop2 {p : Program} {l : Launch} {e : Env} {s : State} {m : MethodId} {args : Array Value} {below : List Frame} {meth : Method} {c : Code} (D : va_G) (cI cZ cN cJ : ClassId) (lo b n k : Nat) (tt : Nat → Int32) (hlo : lo ≤ b) (hn4 : n ≤ 4) (hk2 : k ≤ 200) (C : hq_C p c s m args R_M b_M_bitTime TB D vwCl (TY cI cZ cN cJ)) (hml : c.maxLocals = 6) (hret : meth.sig.returnType = none) (hlk : meth.locks = false) :
    ∀ (d i : Nat) (H : Heap) (locs : List Loc) (ls : Array Slot), i + d = n → (∃ wi dr : Nat → Int32, hq_B D vwCl b 31 (mdC cI cZ b 0 (nI n) (mI tt wi dr)) H) → hq_S b 31 s.heap H → hq_L lo locs → lv_has ls 6 [(3, .int (nI i)), (2, .int 1), (1, .int (nI (k + 1))), (0, .ref b)] →
      W p l e mpRm s m args below meth c H locs 0 0 (MQ below (hq_Q (mpPost D cI cZ b n k tt)) args s mpRm.cells mpRm.slots (fun q => lo ≤ q)) (F0 m 72 ls []) := by
  intro d
  induction d with
  | zero =>
    intro i H locs ls hd hM hS hL hl
    obtain ⟨wi, dr, hM⟩ := hM
    have hin : i = n := by omega
    have e0 : va_at D vwCl (b, .inr (6, [.int (0), .int (nI n), .ref (b + 1), .ref (b + 2), .ref (b + 3), .ref (b + 4), .ref (b + 5), .ref (b + 6), .ref (b + 7), .ref (b + 8), .ref (b + 9), .ref (b + 10), .ref (b + 11), .ref (b + 12), .ref (b + 13), .ref (b + 14), .ref (b + 15), .ref (b + 16), .ref (b + 17), .ref (b + 18), .ref (b + 19), .ref (b + 20), .ref (b + 21), .ref (b + 22), .ref (b + 23), .ref (b + 24), .ref (b + 25), .ref (b + 26), .ref (b + 27), .ref (b + 28), .ref (b + 29), .ref (b + 30)])) H := hM 0 (by decide)
    have e1 : va_at D vwCl (b + 1, .inl (cI, 8, .inl (tt))) H := hM 1 (by decide)
    have e2 : va_at D vwCl (b + 2, .inl (cI, 64, .inl (wi))) H := hM 2 (by decide)
    have e3 : va_at D vwCl (b + 3, .inl (cZ, 1024, .inl (fun _ => 0))) H := hM 3 (by decide)
    have e4 : va_at D vwCl (b + 4, .inl (cI, 4, .inl (fun _ => 0))) H := hM 4 (by decide)
    have e10 : va_at D vwCl (b + 10, .inl (cI, 4, .inl (fun _ => 0))) H := hM 10 (by decide)
    have e30 : va_at D vwCl (b + 30, .inl (cI, 4, .inl (dr))) H := hM 30 (by decide)
    refine lv_iload_n C.1 C.2.1 d_M_bitTime_72 rfl (lv_at hl 0 rfl) ?_
    refine lv_aload_n C.1 C.2.1 d_M_bitTime_73 rfl (lv_at hl 3 rfl) ?_
    refine hq_get (v := .int (nI n)) C f_M_101 e0 rfl d_M_bitTime_74 ?_
    refine lv_icmp_ge (tgt := 133) C.1 C.2.1 d_M_bitTime_77 (by decide) (fun _ => ?_) (fun hn => absurd (by rw [hin]; exact Int32.le_refl _) hn)
    refine lv_aload_n C.1 C.2.1 d_M_bitTime_133 rfl (lv_at hl 3 rfl) ?_
    refine hq_get (v := .ref (b + 2)) C f_M_13 e0 rfl d_M_bitTime_134 ?_
    refine lv_iload_n C.1 C.2.1 d_M_bitTime_137 rfl (lv_at hl 2 rfl) ?_
    refine lv_bipush (v := 64) C.1 C.2.1 d_M_bitTime_138 (by decide) ?_
    refine lv_irem C.1 C.2.1 d_M_bitTime_140 (by decide) ?_
    rw [show nI (k + 1) - nI (k + 1) / 64 * 64 = nI ((k + 1) % 64) from pk_rem (d := 64) (by omega) (by decide) (by decide)]
    refine lv_iload_n C.1 C.2.1 d_M_bitTime_141 rfl (lv_at hl 1 rfl) ?_
    refine hq_iast (lo := lo) C 0 rfl e2 (vp_in_nI (Nat.mod_lt _ (by decide)) (by decide)) hL (by omega) d_M_bitTime_142 (fun H1 locs u1 hL => ?_)
    have hM1 := hq_Bput (i := 2) (C' := mdC cI cZ b 0 (nI n) (mI tt (upd wi (nI ((k + 1) % 64)).toNatClampNeg 1) dr)) hM u1 rfl rfl md_wi
    refine lv_aload_n C.1 C.2.1 d_M_bitTime_143 rfl (lv_at hl 3 rfl) ?_
    have k41 := hq_au e0 u1 (by omega)
    refine hq_get (v := .ref (b + 1)) C f_M_7 k41 rfl d_M_bitTime_144 ?_
    refine lv_iconst (v := 0) C.1 C.2.1 d_M_bitTime_147 (by decide) ?_
    refine lv_iload_n C.1 C.2.1 d_M_bitTime_148 rfl (lv_at hl 2 rfl) ?_
    have k42 := hq_au e1 u1 (by omega)
    refine hq_iast (lo := lo) C 0 rfl k42 (show vp_in (nI 0) 8 from vp_in_nI (by decide) (by decide)) hL (by omega) d_M_bitTime_149 (fun H2 locs u2 hL => ?_)
    have hM2 := hq_Bput (i := 1) (C' := mdC cI cZ b 0 (nI n) (mI (upd tt 0 (nI (k + 1))) (upd wi (nI ((k + 1) % 64)).toNatClampNeg 1) dr)) hM1 u2 rfl rfl md_tt
    exact hq_vret C hret hlk (Nat.le_of_ble_eq_true rfl) (Nat.le_of_ble_eq_true rfl) hL ⟨rfl, ⟨_, _, hM2⟩, hq_Sput (hq_Sput hS u1 (by omega) (by omega)) u2 (by omega) (by omega)⟩ d_M_bitTime_150
  | succ d ih =>
    intro i H locs ls hd hM hS hL hl
    obtain ⟨wi, dr, hM⟩ := hM
    have hin : i < n := by omega
    have hj4 : i < 4 := by omega
    have e0 : va_at D vwCl (b, .inr (6, [.int (0), .int (nI n), .ref (b + 1), .ref (b + 2), .ref (b + 3), .ref (b + 4), .ref (b + 5), .ref (b + 6), .ref (b + 7), .ref (b + 8), .ref (b + 9), .ref (b + 10), .ref (b + 11), .ref (b + 12), .ref (b + 13), .ref (b + 14), .ref (b + 15), .ref (b + 16), .ref (b + 17), .ref (b + 18), .ref (b + 19), .ref (b + 20), .ref (b + 21), .ref (b + 22), .ref (b + 23), .ref (b + 24), .ref (b + 25), .ref (b + 26), .ref (b + 27), .ref (b + 28), .ref (b + 29), .ref (b + 30)])) H := hM 0 (by decide)
    have e1 : va_at D vwCl (b + 1, .inl (cI, 8, .inl (tt))) H := hM 1 (by decide)
    have e2 : va_at D vwCl (b + 2, .inl (cI, 64, .inl (wi))) H := hM 2 (by decide)
    have e3 : va_at D vwCl (b + 3, .inl (cZ, 1024, .inl (fun _ => 0))) H := hM 3 (by decide)
    have e4 : va_at D vwCl (b + 4, .inl (cI, 4, .inl (fun _ => 0))) H := hM 4 (by decide)
    have e10 : va_at D vwCl (b + 10, .inl (cI, 4, .inl (fun _ => 0))) H := hM 10 (by decide)
    have e30 : va_at D vwCl (b + 30, .inl (cI, 4, .inl (dr))) H := hM 30 (by decide)
    refine lv_iload_n C.1 C.2.1 d_M_bitTime_72 rfl (lv_at hl 0 rfl) ?_
    refine lv_aload_n C.1 C.2.1 d_M_bitTime_73 rfl (lv_at hl 3 rfl) ?_
    refine hq_get (v := .int (nI n)) C f_M_101 e0 rfl d_M_bitTime_74 ?_
    refine lv_icmp_ge (tgt := 133) C.1 C.2.1 d_M_bitTime_77 (by decide) (fun hn => absurd hn (nI_ge hin (by omega))) (fun _ => ?_)
    refine lv_sipush (v := 256) C.1 C.2.1 d_M_bitTime_80 (by decide) ?_
    refine lv_iload_n C.1 C.2.1 d_M_bitTime_83 rfl (lv_at hl 0 rfl) ?_
    refine lv_imul C.1 C.2.1 d_M_bitTime_84 ?_
    refine lv_iload_n C.1 C.2.1 d_M_bitTime_85 rfl (lv_at hl 2 rfl) ?_
    refine lv_sipush (v := 256) C.1 C.2.1 d_M_bitTime_86 (by decide) ?_
    refine lv_irem C.1 C.2.1 d_M_bitTime_89 (by decide) ?_
    rw [show nI (k + 1) - nI (k + 1) / 256 * 256 = nI ((k + 1) % 256) from pk_rem (d := 256) (by omega) (by decide) (by decide)]
    refine lv_iadd C.1 C.2.1 d_M_bitTime_90 ?_
    rw [show (256 : Int32) * nI i + nI ((k + 1) % 256) = nI (256 * i + (k + 1) % 256) from by rw [show (256 : Int32) * nI i = nI (256 * i) from pk_mul 256 i, nI_add]]
    refine lv_istore C.1 C.2.1 d_M_bitTime_91 hl (by decide) rfl (lv' := [(4, .int (nI (256 * i + (k + 1) % 256))), (3, .int (nI i)), (2, .int (1)), (1, .int (nI (k + 1))), (0, .ref (b))]) (fun ls hl => ?_)
    refine lv_aload_n C.1 C.2.1 d_M_bitTime_93 rfl (lv_at hl 4 rfl) ?_
    refine hq_get (v := .ref (b + 3)) C f_M_16 e0 rfl d_M_bitTime_94 ?_
    refine lv_iload C.1 C.2.1 d_M_bitTime_97 (lv_at hl 0 rfl) ?_
    refine hq_zald C 1 rfl e3 (vp_in_nI (by omega) (by decide)) d_M_bitTime_99 ?_
    refine W.eq (g2 := F0 m 100 ls [.int (0)]) rfl ?_
    refine lv_if_eq (tgt := 109) C.1 C.2.1 d_M_bitTime_100 (by decide) (fun _ => ?_) (fun hn => absurd (rfl) hn)
    refine lv_iload_n C.1 C.2.1 d_M_bitTime_109 rfl (lv_at hl 2 rfl) ?_
    refine lv_istore C.1 C.2.1 d_M_bitTime_110 hl (by decide) rfl (lv' := [(5, .int (1)), (4, .int (nI (256 * i + (k + 1) % 256))), (3, .int (nI i)), (2, .int (1)), (1, .int (nI (k + 1))), (0, .ref (b))]) (fun ls hl => ?_)
    refine lv_aload_n C.1 C.2.1 d_M_bitTime_112 rfl (lv_at hl 5 rfl) ?_
    refine hq_get (v := .ref (b + 3)) C f_M_16 e0 rfl d_M_bitTime_113 ?_
    refine lv_iload C.1 C.2.1 d_M_bitTime_116 (lv_at hl 1 rfl) ?_
    refine lv_iconst (v := 0) C.1 C.2.1 d_M_bitTime_118 (by decide) ?_
    refine hq_zast (lo := lo) C 1 rfl e3 (vp_in_nI (by omega) (by decide)) hL (by omega) d_M_bitTime_119 (fun H1 locs u1 hL => ?_)
    rw [upd0] at u1
    have hM1 := hq_Bput (i := 3) (C' := mdC cI cZ b 0 (nI n) (mI tt wi dr)) hM u1 rfl rfl (fun _ _ _ => rfl)
    refine lv_aload_n C.1 C.2.1 d_M_bitTime_120 rfl (lv_at hl 5 rfl) ?_
    refine lv_iload_n C.1 C.2.1 d_M_bitTime_121 rfl (lv_at hl 2 rfl) ?_
    refine lv_iload C.1 C.2.1 d_M_bitTime_122 (lv_at hl 0 rfl) ?_
    refine hq_callV (lo := lo) (As := [.int (nI i), .int (1)]) (rest := []) C tb_good hml Y_M_184 (c_msee l D cI cZ cN cJ lo b n i 0 hj4) (hM1 0 (by decide)) rfl (fun _ _ _ _ h => h) (fun U hU hW => ⟨by rw [hU]; exact hM1 0 (by decide), by rw [hU]; exact hM1 4 (by decide)⟩) hL hl.1 rfl rfl ⟨⟨Nat.le_of_ble_eq_true rfl, Nat.le_of_ble_eq_true rfl⟩, Nat.le_of_ble_eq_true rfl, Nat.le_of_ble_eq_true rfl⟩ (Nat.le_of_ble_eq_true rfl) d_M_bitTime_124 (fun v H41 locs hp hL => ?_)
    obtain ⟨rfl, rfl⟩ := hp
    refine W.eq (g2 := F0 m 127 ls []) rfl ?_
    refine lv_iinc (k := 2) (v := nI (i + 1)) C.1 C.2.1 d_M_bitTime_127 hl rfl (nI_1 i) (by decide) (lv' := [(3, .int (nI (i + 1))), (5, .int (1)), (4, .int (nI (256 * i + (k + 1) % 256))), (2, .int (1)), (1, .int (nI (k + 1))), (0, .ref (b))]) rfl (fun ls hl => ?_)
    refine lv_goto (tgt := 72) C.1 C.2.1 d_M_bitTime_130 (by decide) ?_
    have hl := lv_sub hl [0, 3, 4, 5] (l' := [(3, .int (nI (i + 1))), (2, .int 1), (1, .int (nI (k + 1))), (0, .ref b)]) rfl
    exact ih (i + 1) _ _ _ (by omega) ⟨wi, dr, hM1⟩ (hq_Sput hS u1 (by omega) (by omega)) hL hl
set_option maxHeartbeats 4000000 in
set_option maxRecDepth 100000 in
theorem mp_loop1 {p : Program} {l : Launch} {e : Env} {s : State} {m : MethodId} {args : Array Value} {below : List Frame} {meth : Method} {c : Code} (D : va_G) (cI cZ cN cJ : ClassId) (lo b n k : Nat) (tt : Nat → Int32) (hlo : lo ≤ b) (hn4 : n ≤ 4) (hk2 : k ≤ 200) (C : hq_C p c s m args R_M b_M_bitTime TB D vwCl (TY cI cZ cN cJ)) (hml : c.maxLocals = 6) (hret : meth.sig.returnType = none) (hlk : meth.locks = false) :
    ∀ (d i : Nat) (H : Heap) (locs : List Loc) (ls : Array Slot), i + d = n → (∃ wi dr : Nat → Int32, hq_B D vwCl b 31 (mdC cI cZ b 0 (nI n) (mI tt wi dr)) H) → hq_S b 31 s.heap H → hq_L lo locs → lv_has ls 6 [(3, .int (nI i)), (2, .int 1), (1, .int (nI (k + 1))), (0, .ref b)] →
      W p l e mpRm s m args below meth c H locs 0 0 (MQ below (hq_Q (mpPost D cI cZ b n k tt)) args s mpRm.cells mpRm.slots (fun q => lo ≤ q)) (F0 m 13 ls []) := by
  intro d
  induction d with
  | zero =>
    intro i H locs ls hd hM hS hL hl
    obtain ⟨wi, dr, hM⟩ := hM
    have hin : i = n := by omega
    have e0 : va_at D vwCl (b, .inr (6, [.int (0), .int (nI n), .ref (b + 1), .ref (b + 2), .ref (b + 3), .ref (b + 4), .ref (b + 5), .ref (b + 6), .ref (b + 7), .ref (b + 8), .ref (b + 9), .ref (b + 10), .ref (b + 11), .ref (b + 12), .ref (b + 13), .ref (b + 14), .ref (b + 15), .ref (b + 16), .ref (b + 17), .ref (b + 18), .ref (b + 19), .ref (b + 20), .ref (b + 21), .ref (b + 22), .ref (b + 23), .ref (b + 24), .ref (b + 25), .ref (b + 26), .ref (b + 27), .ref (b + 28), .ref (b + 29), .ref (b + 30)])) H := hM 0 (by decide)
    have e1 : va_at D vwCl (b + 1, .inl (cI, 8, .inl (tt))) H := hM 1 (by decide)
    have e2 : va_at D vwCl (b + 2, .inl (cI, 64, .inl (wi))) H := hM 2 (by decide)
    have e3 : va_at D vwCl (b + 3, .inl (cZ, 1024, .inl (fun _ => 0))) H := hM 3 (by decide)
    have e4 : va_at D vwCl (b + 4, .inl (cI, 4, .inl (fun _ => 0))) H := hM 4 (by decide)
    have e10 : va_at D vwCl (b + 10, .inl (cI, 4, .inl (fun _ => 0))) H := hM 10 (by decide)
    have e30 : va_at D vwCl (b + 30, .inl (cI, 4, .inl (dr))) H := hM 30 (by decide)
    refine lv_iload_n C.1 C.2.1 d_M_bitTime_13 rfl (lv_at hl 0 rfl) ?_
    refine lv_aload_n C.1 C.2.1 d_M_bitTime_14 rfl (lv_at hl 3 rfl) ?_
    refine hq_get (v := .int (nI n)) C f_M_101 e0 rfl d_M_bitTime_15 ?_
    refine lv_icmp_ge (tgt := 70) C.1 C.2.1 d_M_bitTime_18 (by decide) (fun _ => ?_) (fun hn => absurd (by rw [hin]; exact Int32.le_refl _) hn)
    refine lv_iconst (v := 0) C.1 C.2.1 d_M_bitTime_70 (by decide) ?_
    refine lv_istore_n C.1 C.2.1 d_M_bitTime_71 rfl hl (by decide) (lv' := [(3, .int (nI 0)), (2, .int 1), (1, .int (nI (k + 1))), (0, .ref b)]) rfl (fun ls hl => ?_)
    exact mp_loop2 D cI cZ cN cJ lo b n k tt hlo hn4 hk2 C hml hret hlk n 0 H locs ls (by omega) ⟨wi, dr, hM⟩ hS hL hl
  | succ d ih =>
    intro i H locs ls hd hM hS hL hl
    obtain ⟨wi, dr, hM⟩ := hM
    have hin : i < n := by omega
    have hj4 : i < 4 := by omega
    have e0 : va_at D vwCl (b, .inr (6, [.int (0), .int (nI n), .ref (b + 1), .ref (b + 2), .ref (b + 3), .ref (b + 4), .ref (b + 5), .ref (b + 6), .ref (b + 7), .ref (b + 8), .ref (b + 9), .ref (b + 10), .ref (b + 11), .ref (b + 12), .ref (b + 13), .ref (b + 14), .ref (b + 15), .ref (b + 16), .ref (b + 17), .ref (b + 18), .ref (b + 19), .ref (b + 20), .ref (b + 21), .ref (b + 22), .ref (b + 23), .ref (b + 24), .ref (b + 25), .ref (b + 26), .ref (b + 27), .ref (b + 28), .ref (b + 29), .ref (b + 30)])) H := hM 0 (by decide)
    have e1 : va_at D vwCl (b + 1, .inl (cI, 8, .inl (tt))) H := hM 1 (by decide)
    have e2 : va_at D vwCl (b + 2, .inl (cI, 64, .inl (wi))) H := hM 2 (by decide)
    have e3 : va_at D vwCl (b + 3, .inl (cZ, 1024, .inl (fun _ => 0))) H := hM 3 (by decide)
    have e4 : va_at D vwCl (b + 4, .inl (cI, 4, .inl (fun _ => 0))) H := hM 4 (by decide)
    have e10 : va_at D vwCl (b + 10, .inl (cI, 4, .inl (fun _ => 0))) H := hM 10 (by decide)
    have e30 : va_at D vwCl (b + 30, .inl (cI, 4, .inl (dr))) H := hM 30 (by decide)
    refine lv_iload_n C.1 C.2.1 d_M_bitTime_13 rfl (lv_at hl 0 rfl) ?_
    refine lv_aload_n C.1 C.2.1 d_M_bitTime_14 rfl (lv_at hl 3 rfl) ?_
    refine hq_get (v := .int (nI n)) C f_M_101 e0 rfl d_M_bitTime_15 ?_
    refine lv_icmp_ge (tgt := 70) C.1 C.2.1 d_M_bitTime_18 (by decide) (fun hn => absurd hn (nI_ge hin (by omega))) (fun _ => ?_)
    refine lv_aload_n C.1 C.2.1 d_M_bitTime_21 rfl (lv_at hl 3 rfl) ?_
    refine hq_get (v := .ref (b + 4)) C f_M_20 e0 rfl d_M_bitTime_22 ?_
    refine lv_iload_n C.1 C.2.1 d_M_bitTime_25 rfl (lv_at hl 0 rfl) ?_
    refine hq_iald C 0 rfl e4 (vp_in_nI hj4 (by decide)) d_M_bitTime_26 ?_
    refine W.eq (g2 := F0 m 27 ls [.int (0)]) rfl ?_
    refine lv_if_ne (tgt := 44) C.1 C.2.1 d_M_bitTime_27 (by decide) (fun hn => absurd hn (by decide)) (fun _ => ?_)
    refine lv_aload_n C.1 C.2.1 d_M_bitTime_30 rfl (lv_at hl 3 rfl) ?_
    refine hq_get (v := .ref (b + 10)) C f_M_38 e0 rfl d_M_bitTime_31 ?_
    refine lv_iload_n C.1 C.2.1 d_M_bitTime_34 rfl (lv_at hl 0 rfl) ?_
    refine hq_iald C 0 rfl e10 (vp_in_nI hj4 (by decide)) d_M_bitTime_35 ?_
    refine W.eq (g2 := F0 m 36 ls [.int (0)]) rfl ?_
    refine lv_if_le (tgt := 44) C.1 C.2.1 d_M_bitTime_36 (by decide) (fun _ => ?_) (fun hn => absurd (by decide) hn)
    refine lv_aload_n C.1 C.2.1 d_M_bitTime_44 rfl (lv_at hl 3 rfl) ?_
    refine hq_get (v := .ref (b + 30)) C f_M_98 e0 rfl d_M_bitTime_45 ?_
    refine lv_iload_n C.1 C.2.1 d_M_bitTime_48 rfl (lv_at hl 0 rfl) ?_
    refine lv_aload_n C.1 C.2.1 d_M_bitTime_49 rfl (lv_at hl 3 rfl) ?_
    refine lv_iload_n C.1 C.2.1 d_M_bitTime_50 rfl (lv_at hl 0 rfl) ?_
    refine hq_callV (lo := lo) (As := [.int (nI i)]) (rest := [.int (nI i), .ref (b + 30)]) C tb_good hml Y_M_181 (c_mdriven l D cI cZ cN cJ lo b n i 0 hj4) e0 rfl (fun _ _ _ _ h => h) (fun U hU hW => ⟨by rw [hU]; exact e0, by rw [hU]; exact e4⟩) hL hl.1 rfl rfl ⟨⟨Nat.le_of_ble_eq_true rfl, Nat.le_of_ble_eq_true rfl⟩, Nat.le_of_ble_eq_true rfl, Nat.le_of_ble_eq_true rfl⟩ (Nat.le_of_ble_eq_true rfl) d_M_bitTime_51 (fun v H41 locs hp hL => ?_)
    obtain ⟨rfl, rfl⟩ := hp
    refine W.eq (g2 := F0 m 54 ls [.int (1), .int (nI i), .ref (b + 30)]) rfl ?_
    refine hq_iast (lo := lo) C 0 rfl e30 (vp_in_nI hj4 (by decide)) hL (by omega) d_M_bitTime_54 (fun H1 locs u1 hL => ?_)
    have hM1 := hq_Bput (i := 30) (C' := mdC cI cZ b 0 (nI n) (mI tt wi (upd dr (nI i).toNatClampNeg 1))) hM u1 rfl rfl md_dr
    have k42 : va_at D vwCl (b + 30, .inl (cI, 4, .inl (upd dr (nI i).toNatClampNeg 1))) H1 := u1.2.2
    refine lv_iload_n C.1 C.2.1 d_M_bitTime_55 rfl (lv_at hl 1 rfl) ?_
    refine lv_aload_n C.1 C.2.1 d_M_bitTime_56 rfl (lv_at hl 3 rfl) ?_
    have k43 := hq_au e0 u1 (by omega)
    refine hq_get (v := .ref (b + 30)) C f_M_98 k43 rfl d_M_bitTime_57 ?_
    refine lv_iload_n C.1 C.2.1 d_M_bitTime_60 rfl (lv_at hl 0 rfl) ?_
    refine hq_iald C 0 rfl k42 (vp_in_nI hj4 (by decide)) d_M_bitTime_61 ?_
    rw [show upd dr (nI i).toNatClampNeg 1 (nI i).toNatClampNeg = 1 from pk_us]
    refine W.eq (g2 := F0 m 62 ls [.int (1), .int (1)]) rfl ?_
    refine lv_iand C.1 C.2.1 d_M_bitTime_62 ?_
    rw [show (1 : Int32) &&& 1 = 1 from by decide]
    refine lv_istore_n C.1 C.2.1 d_M_bitTime_63 rfl hl (by decide) rfl (lv' := [(2, .int (1)), (3, .int (nI i)), (1, .int (nI (k + 1))), (0, .ref (b))]) (fun ls hl => ?_)
    refine lv_iinc (k := 1) (v := nI (i + 1)) C.1 C.2.1 d_M_bitTime_64 hl rfl (nI_1 i) (by decide) (lv' := [(3, .int (nI (i + 1))), (2, .int (1)), (1, .int (nI (k + 1))), (0, .ref (b))]) rfl (fun ls hl => ?_)
    refine lv_goto (tgt := 13) C.1 C.2.1 d_M_bitTime_67 (by decide) ?_
    have hl := lv_sub hl [0, 1, 2, 3] (l' := [(3, .int (nI (i + 1))), (2, .int 1), (1, .int (nI (k + 1))), (0, .ref b)]) rfl
    exact ih (i + 1) _ _ _ (by omega) ⟨wi, _, hM1⟩ (hq_Sput hS u1 (by omega) (by omega)) hL hl
set_option maxHeartbeats 4000000 in
set_option maxRecDepth 100000 in
theorem c_bitTime (l : Launch) (D : va_G) (cI cZ cN cJ : ClassId) (lo : Nat) (b n k : Nat) (tt : Nat → Int32) (hlo : lo ≤ b) (hn4 : n ≤ 4) (hk : tt 0 = nI k) (hk2 : k ≤ 200) : hq_M l y_M_bitTime b_M_bitTime 6 none TB mpRm lo D vwCl (TY cI cZ cN cJ) [.ref b] (fun U => ∃ wi dr : Nat → Int32, hq_B D vwCl b 31 (mdC cI cZ b 0 (nI n) (mI tt wi dr)) U.heap) (mpPost D cI cZ b n k tt) := by
  refine hq_ofW (by decide) (Nat.le_of_ble_eq_true rfl) ?_
  intro p e s m below meth c ls C hml hret hlk hnm hl hP
  have hL : hq_L lo [] := hq_L0
  have hl : lv_has ls 6 [(0, .ref b)] := hl
  have hI := hP
  obtain ⟨wi, dr, hM⟩ := hP
  have e0 : va_at D vwCl (b, .inr (6, [.int (0), .int (nI n), .ref (b + 1), .ref (b + 2), .ref (b + 3), .ref (b + 4), .ref (b + 5), .ref (b + 6), .ref (b + 7), .ref (b + 8), .ref (b + 9), .ref (b + 10), .ref (b + 11), .ref (b + 12), .ref (b + 13), .ref (b + 14), .ref (b + 15), .ref (b + 16), .ref (b + 17), .ref (b + 18), .ref (b + 19), .ref (b + 20), .ref (b + 21), .ref (b + 22), .ref (b + 23), .ref (b + 24), .ref (b + 25), .ref (b + 26), .ref (b + 27), .ref (b + 28), .ref (b + 29), .ref (b + 30)])) s.heap := hM 0 (by decide)
  have e1 : va_at D vwCl (b + 1, .inl (cI, 8, .inl (tt))) s.heap := hM 1 (by decide)
  have e2 : va_at D vwCl (b + 2, .inl (cI, 64, .inl (wi))) s.heap := hM 2 (by decide)
  have e3 : va_at D vwCl (b + 3, .inl (cZ, 1024, .inl (fun _ => 0))) s.heap := hM 3 (by decide)
  have e4 : va_at D vwCl (b + 4, .inl (cI, 4, .inl (fun _ => 0))) s.heap := hM 4 (by decide)
  have e10 : va_at D vwCl (b + 10, .inl (cI, 4, .inl (fun _ => 0))) s.heap := hM 10 (by decide)
  have e30 : va_at D vwCl (b + 30, .inl (cI, 4, .inl (dr))) s.heap := hM 30 (by decide)
  refine lv_aload_n C.1 C.2.1 d_M_bitTime_0 rfl (lv_at hl 0 rfl) ?_
  refine hq_get (v := .ref (b + 1)) C f_M_7 e0 rfl d_M_bitTime_1 ?_
  refine lv_iconst (v := 0) C.1 C.2.1 d_M_bitTime_4 (by decide) ?_
  refine hq_iald C 0 rfl e1 (show vp_in (nI 0) 8 from vp_in_nI (by decide) (by decide)) d_M_bitTime_5 ?_
  rw [show tt (Int32.toNatClampNeg 0) = nI k from hk]
  refine W.eq (g2 := F0 m 6 ls [.int (nI k)]) rfl ?_
  refine lv_iconst (v := 1) C.1 C.2.1 d_M_bitTime_6 (by decide) ?_
  refine lv_iadd C.1 C.2.1 d_M_bitTime_7 ?_
  rw [nI_1 k]
  refine lv_istore_n C.1 C.2.1 d_M_bitTime_8 rfl hl (by decide) rfl (lv' := [(1, .int (nI (k + 1))), (0, .ref (b))]) (fun ls hl => ?_)
  refine lv_iconst (v := 1) C.1 C.2.1 d_M_bitTime_9 (by decide) ?_
  refine lv_istore_n C.1 C.2.1 d_M_bitTime_10 rfl hl (by decide) rfl (lv' := [(2, .int (1)), (1, .int (nI (k + 1))), (0, .ref (b))]) (fun ls hl => ?_)
  refine lv_iconst (v := 0) C.1 C.2.1 d_M_bitTime_11 (by decide) ?_
  refine lv_istore_n C.1 C.2.1 d_M_bitTime_12 rfl hl (by decide) (lv' := [(3, .int (nI 0)), (2, .int 1), (1, .int (nI (k + 1))), (0, .ref b)]) rfl (fun ls hl => ?_)
  exact mp_loop1 D cI cZ cN cJ lo b n k tt hlo hn4 hk2 C hml hret hlk n 0 _ _ _ (by omega) hI hq_S0 hL hl
def mqPost (D : va_G) (b n : Nat) (th : Int32) : Heap → Option Value → Heap → Prop := fun H v H' => v = some (.int 0) ∧ va_at D vwCl (b, .inr (6, [.int (th), .int (nI n), .ref (b + 1), .ref (b + 2), .ref (b + 3), .ref (b + 4), .ref (b + 5), .ref (b + 6), .ref (b + 7), .ref (b + 8), .ref (b + 9), .ref (b + 10), .ref (b + 11), .ref (b + 12), .ref (b + 13), .ref (b + 14), .ref (b + 15), .ref (b + 16), .ref (b + 17), .ref (b + 18), .ref (b + 19), .ref (b + 20), .ref (b + 21), .ref (b + 22), .ref (b + 23), .ref (b + 24), .ref (b + 25), .ref (b + 26), .ref (b + 27), .ref (b + 28), .ref (b + 29), .ref (b + 30)])) H' ∧ hq_S b 31 H H'
set_option maxHeartbeats 4000000 in
set_option maxRecDepth 100000 in
theorem mq_loop {p : Program} {l : Launch} {e : Env} {s : State} {m : MethodId} {args : Array Value} {below : List Frame} {meth : Method} {c : Code} (D : va_G) (cI cZ cN cJ : ClassId) (lo b n a : Nat) (hlo : lo ≤ b) (hn4 : n ≤ 4) (ha : a ≤ 200) (C : hq_C p c s m args R_M b_M_pass TB D vwCl (TY cI cZ cN cJ)) (hml : c.maxLocals = 4) (hret : meth.sig.returnType = some .int) (hlk : meth.locks = false) :
    ∀ (d i : Nat) (H : Heap) (locs : List Loc) (ls : Array Slot), i + d = a → (∃ tt wi dr : Nat → Int32, tt 0 = nI i ∧ tt 1 = 0 ∧ hq_B D vwCl b 31 (mdC cI cZ b 0 (nI n) (mI tt wi dr)) H) → hq_S b 31 s.heap H → hq_L lo locs → lv_has ls 4 [(3, .int (nI i)), (2, .int 0), (0, .ref b), (1, .int (nI a))] →
      W p l e mqRm s m args below meth c H locs 0 0 (MQ below (hq_Q (mqPost D b n 0)) args s mqRm.cells mqRm.slots (fun q => lo ≤ q)) (F0 m 30 ls []) := by
  intro d
  induction d with
  | zero =>
    intro i H locs ls hd hI hS hL hl
    obtain ⟨tt, wi, dr, t0, t1, hM⟩ := hI
    have hin : i = a := by omega
    have e0 : va_at D vwCl (b, .inr (6, [.int (0), .int (nI n), .ref (b + 1), .ref (b + 2), .ref (b + 3), .ref (b + 4), .ref (b + 5), .ref (b + 6), .ref (b + 7), .ref (b + 8), .ref (b + 9), .ref (b + 10), .ref (b + 11), .ref (b + 12), .ref (b + 13), .ref (b + 14), .ref (b + 15), .ref (b + 16), .ref (b + 17), .ref (b + 18), .ref (b + 19), .ref (b + 20), .ref (b + 21), .ref (b + 22), .ref (b + 23), .ref (b + 24), .ref (b + 25), .ref (b + 26), .ref (b + 27), .ref (b + 28), .ref (b + 29), .ref (b + 30)])) H := hM 0 (by decide)
    have e1 : va_at D vwCl (b + 1, .inl (cI, 8, .inl (tt))) H := hM 1 (by decide)
    have e2 : va_at D vwCl (b + 2, .inl (cI, 64, .inl (wi))) H := hM 2 (by decide)
    have e3 : va_at D vwCl (b + 3, .inl (cZ, 1024, .inl (fun _ => 0))) H := hM 3 (by decide)
    have e4 : va_at D vwCl (b + 4, .inl (cI, 4, .inl (fun _ => 0))) H := hM 4 (by decide)
    have e10 : va_at D vwCl (b + 10, .inl (cI, 4, .inl (fun _ => 0))) H := hM 10 (by decide)
    have e30 : va_at D vwCl (b + 30, .inl (cI, 4, .inl (dr))) H := hM 30 (by decide)
    refine lv_iload_n C.1 C.2.1 d_M_pass_30 rfl (lv_at hl 0 rfl) ?_
    refine lv_iload_n C.1 C.2.1 d_M_pass_31 rfl (lv_at hl 3 rfl) ?_
    refine lv_icmp_ge (tgt := 52) C.1 C.2.1 d_M_pass_32 (by decide) (fun _ => ?_) (fun hn => absurd (by rw [hin]; exact Int32.le_refl _) hn)
    refine lv_aload_n C.1 C.2.1 d_M_pass_52 rfl (lv_at hl 2 rfl) ?_
    refine hq_get (v := .ref (b + 1)) C f_M_7 e0 rfl d_M_pass_53 ?_
    refine lv_iconst (v := 1) C.1 C.2.1 d_M_pass_56 (by decide) ?_
    refine hq_iald C 0 rfl e1 (show vp_in (nI 1) 8 from vp_in_nI (by decide) (by decide)) d_M_pass_57 ?_
    rw [show tt (Int32.toNatClampNeg 1) = 0 from t1]
    refine W.eq (g2 := F0 m 58 ls [.int (0)]) rfl ?_
    refine lv_iload_n C.1 C.2.1 d_M_pass_58 rfl (lv_at hl 1 rfl) ?_
    refine lv_isub C.1 C.2.1 d_M_pass_59 ?_
    exact hq_iret C hret hlk (Nat.le_of_ble_eq_true rfl) (Nat.le_of_ble_eq_true rfl) hL ⟨rfl, e0, hS⟩ d_M_pass_60
  | succ d ih =>
    intro i H locs ls hd hI hS hL hl
    obtain ⟨tt, wi, dr, t0, t1, hM⟩ := hI
    have hin : i < a := by omega
    have e0 : va_at D vwCl (b, .inr (6, [.int (0), .int (nI n), .ref (b + 1), .ref (b + 2), .ref (b + 3), .ref (b + 4), .ref (b + 5), .ref (b + 6), .ref (b + 7), .ref (b + 8), .ref (b + 9), .ref (b + 10), .ref (b + 11), .ref (b + 12), .ref (b + 13), .ref (b + 14), .ref (b + 15), .ref (b + 16), .ref (b + 17), .ref (b + 18), .ref (b + 19), .ref (b + 20), .ref (b + 21), .ref (b + 22), .ref (b + 23), .ref (b + 24), .ref (b + 25), .ref (b + 26), .ref (b + 27), .ref (b + 28), .ref (b + 29), .ref (b + 30)])) H := hM 0 (by decide)
    have e1 : va_at D vwCl (b + 1, .inl (cI, 8, .inl (tt))) H := hM 1 (by decide)
    have e2 : va_at D vwCl (b + 2, .inl (cI, 64, .inl (wi))) H := hM 2 (by decide)
    have e3 : va_at D vwCl (b + 3, .inl (cZ, 1024, .inl (fun _ => 0))) H := hM 3 (by decide)
    have e4 : va_at D vwCl (b + 4, .inl (cI, 4, .inl (fun _ => 0))) H := hM 4 (by decide)
    have e10 : va_at D vwCl (b + 10, .inl (cI, 4, .inl (fun _ => 0))) H := hM 10 (by decide)
    have e30 : va_at D vwCl (b + 30, .inl (cI, 4, .inl (dr))) H := hM 30 (by decide)
    refine lv_iload_n C.1 C.2.1 d_M_pass_30 rfl (lv_at hl 0 rfl) ?_
    refine lv_iload_n C.1 C.2.1 d_M_pass_31 rfl (lv_at hl 3 rfl) ?_
    refine lv_icmp_ge (tgt := 52) C.1 C.2.1 d_M_pass_32 (by decide) (fun hn => absurd hn (nI_ge hin (by omega))) (fun _ => ?_)
    refine lv_aload_n C.1 C.2.1 d_M_pass_35 rfl (lv_at hl 2 rfl) ?_
    refine hq_get (v := .int (0)) C f_M_105 e0 rfl d_M_pass_36 ?_
    refine lv_if_ne (tgt := 52) C.1 C.2.1 d_M_pass_39 (by decide) (fun hn => absurd hn (by decide)) (fun _ => ?_)
    refine lv_aload_n C.1 C.2.1 d_M_pass_42 rfl (lv_at hl 2 rfl) ?_
    refine hq_callV (lo := lo) (As := []) (rest := []) C tb_good hml Y_M_187 (c_bitTime l D cI cZ cN cJ lo b n i tt hlo hn4 t0 (by omega)) e0 rfl (fun _ _ _ _ h => h) (fun U hU hW => ⟨wi, dr, by rw [hU]; exact hM⟩) hL hl.1 rfl rfl ⟨⟨Nat.le_of_ble_eq_true rfl, Nat.le_of_ble_eq_true rfl⟩, Nat.le_of_ble_eq_true rfl, Nat.le_of_ble_eq_true rfl⟩ (Nat.le_of_ble_eq_true rfl) d_M_pass_43 (fun v H41 locs hp hL => ?_)
    obtain ⟨rfl, ⟨wi', dr', hM1⟩, hS1⟩ := hp
    refine W.eq (g2 := F0 m 46 ls []) rfl ?_
    refine lv_iinc (k := 0) (v := nI (i + 1)) C.1 C.2.1 d_M_pass_46 hl rfl (nI_1 i) (by decide) (lv' := [(3, .int (nI (i + 1))), (2, .int 0), (0, .ref b), (1, .int (nI a))]) rfl (fun ls hl => ?_)
    refine lv_goto (tgt := 30) C.1 C.2.1 d_M_pass_49 (by decide) ?_
    exact ih (i + 1) H41 _ _ (by omega) ⟨upd tt 0 (nI (i + 1)), wi', dr', pk_us, (pk_un (by decide)).trans t1, hM1⟩ (hq_Scall hS hS1 (by omega) (by omega)) hL hl
set_option maxHeartbeats 4000000 in
set_option maxRecDepth 100000 in
theorem m_pass_g (l : Launch) (D : va_G) (cI cZ cN cJ : ClassId) (lo : Nat) (b n a : Nat) (hlo : lo ≤ b) (hn4 : n ≤ 4) (h1 : 1 ≤ a) (h2 : a ≤ 200) : hq_M l y_M_pass b_M_pass 4 (some .int) TB mqRm lo D vwCl (TY cI cZ cN cJ) [.ref b, .int (nI a)] (fun U => hq_B D vwCl b 31 (mdC cI cZ b 0 (nI n) (fun _ _ => 0)) U.heap) (mqPost D b n 0) := by
  refine hq_ofW (by decide) (Nat.le_of_ble_eq_true rfl) ?_
  intro p e s m below meth c ls C hml hret hlk hnm hl hP
  have hL : hq_L lo [] := hq_L0
  have hl : lv_has ls 4 [(0, .ref (b)), (1, .int (nI a))] := hl
  have e0 : va_at D vwCl (b, .inr (6, [.int (0), .int (nI n), .ref (b + 1), .ref (b + 2), .ref (b + 3), .ref (b + 4), .ref (b + 5), .ref (b + 6), .ref (b + 7), .ref (b + 8), .ref (b + 9), .ref (b + 10), .ref (b + 11), .ref (b + 12), .ref (b + 13), .ref (b + 14), .ref (b + 15), .ref (b + 16), .ref (b + 17), .ref (b + 18), .ref (b + 19), .ref (b + 20), .ref (b + 21), .ref (b + 22), .ref (b + 23), .ref (b + 24), .ref (b + 25), .ref (b + 26), .ref (b + 27), .ref (b + 28), .ref (b + 29), .ref (b + 30)])) s.heap := hP 0 (by decide)
  have e1 : va_at D vwCl (b + 1, .inl (cI, 8, .inl (fun _ => 0))) s.heap := hP 1 (by decide)
  refine lv_aload_n C.1 C.2.1 d_M_pass_0 rfl (lv_at hl 0 rfl) ?_
  refine lv_iload_n C.1 C.2.1 d_M_pass_1 rfl (lv_at hl 1 rfl) ?_
  refine lv_iconst (v := 1) C.1 C.2.1 d_M_pass_2 (by decide) ?_
  refine lv_icmp_lt (tgt := 13) C.1 C.2.1 d_M_pass_3 (by decide) (fun hn => absurd hn (nI_nlt (a := a) (b := 1) h1 (by omega))) (fun _ => ?_)
  refine lv_iload_n C.1 C.2.1 d_M_pass_6 rfl (lv_at hl 1 rfl) ?_
  refine lv_sipush (v := 200) C.1 C.2.1 d_M_pass_7 (by decide) ?_
  refine lv_icmp_le (tgt := 17) C.1 C.2.1 d_M_pass_10 (by decide) (fun _ => ?_) (fun hn => absurd (nI_le (b := 200) h2 (by decide)) hn)
  refine lv_iconst (v := 0) C.1 C.2.1 d_M_pass_17 (by decide) ?_
  refine hq_put (lo := lo) C f_M_105 e0 rfl rfl (Nat.le_of_ble_eq_true rfl) hL (by omega) d_M_pass_18 (fun H41 locs u42 hL => ?_)
  have k43 : va_at D vwCl (b, .inr (6, [.int (0), .int (nI n), .ref (b + 1), .ref (b + 2), .ref (b + 3), .ref (b + 4), .ref (b + 5), .ref (b + 6), .ref (b + 7), .ref (b + 8), .ref (b + 9), .ref (b + 10), .ref (b + 11), .ref (b + 12), .ref (b + 13), .ref (b + 14), .ref (b + 15), .ref (b + 16), .ref (b + 17), .ref (b + 18), .ref (b + 19), .ref (b + 20), .ref (b + 21), .ref (b + 22), .ref (b + 23), .ref (b + 24), .ref (b + 25), .ref (b + 26), .ref (b + 27), .ref (b + 28), .ref (b + 29), .ref (b + 30)])) H41 := u42.2.2
  refine lv_aload_n C.1 C.2.1 d_M_pass_21 rfl (lv_at hl 0 rfl) ?_
  refine hq_get (v := .ref (b + 1)) C f_M_7 k43 rfl d_M_pass_22 ?_
  refine lv_iconst (v := 1) C.1 C.2.1 d_M_pass_25 (by decide) ?_
  have k44 := hq_au e1 u42 (by omega)
  refine hq_iald C 0 rfl k44 (show vp_in (nI 1) 8 from vp_in_nI (by decide) (by decide)) d_M_pass_26 ?_
  refine W.eq (g2 := F0 m 27 ls [.int (0)]) rfl ?_
  refine lv_istore_n C.1 C.2.1 d_M_pass_27 rfl hl (by decide) rfl (lv' := [(2, .int (0)), (0, .ref (b)), (1, .int (nI a))]) (fun ls hl => ?_)
  refine lv_iconst (v := 0) C.1 C.2.1 d_M_pass_28 (by decide) ?_
  refine lv_istore_n C.1 C.2.1 d_M_pass_29 rfl hl (by decide) (lv' := [(3, .int (nI 0)), (2, .int 0), (0, .ref b), (1, .int (nI a))]) rfl (fun ls hl => ?_)
  have hM : hq_B D vwCl b 31 (mdC cI cZ b 0 (nI n) (mI (fun _ => 0) (fun _ => 0) (fun _ => 0))) H41 := hq_Bput (i := 0) (hq_Bm hP md_i0) u42 rfl rfl (fun _ _ _ => rfl)
  exact mq_loop D cI cZ cN cJ lo b n a hlo hn4 h2 C hml hret hlk a 0 _ _ _ (by omega) ⟨fun _ => 0, fun _ => 0, fun _ => 0, rfl, rfl, hM⟩ (hq_Sput hq_S0 u42 (by omega) (by omega)) hL hl
set_option maxHeartbeats 4000000 in
set_option maxRecDepth 100000 in
theorem m_pass_f (l : Launch) (D : va_G) (cI cZ cN cJ : ClassId) (lo : Nat) (b n : Nat) (a : Int32) (hlo : lo ≤ b) (hb : a < 1 ∨ ¬ a ≤ 200) : hq_M l y_M_pass b_M_pass 4 (some .int) TB mqRm lo D vwCl (TY cI cZ cN cJ) [.ref b, .int a] (fun U => hq_B D vwCl b 31 (mdC cI cZ b 0 (nI n) (fun _ _ => 0)) U.heap) (mqPost D b n 1) := by
  refine hq_ofW (by decide) (Nat.le_of_ble_eq_true rfl) ?_
  intro p e s m below meth c ls C hml hret hlk hnm hl hP
  have hL : hq_L lo [] := hq_L0
  have hl : lv_has ls 4 [(0, .ref (b)), (1, .int (a))] := hl
  have e0 : va_at D vwCl (b, .inr (6, [.int (0), .int (nI n), .ref (b + 1), .ref (b + 2), .ref (b + 3), .ref (b + 4), .ref (b + 5), .ref (b + 6), .ref (b + 7), .ref (b + 8), .ref (b + 9), .ref (b + 10), .ref (b + 11), .ref (b + 12), .ref (b + 13), .ref (b + 14), .ref (b + 15), .ref (b + 16), .ref (b + 17), .ref (b + 18), .ref (b + 19), .ref (b + 20), .ref (b + 21), .ref (b + 22), .ref (b + 23), .ref (b + 24), .ref (b + 25), .ref (b + 26), .ref (b + 27), .ref (b + 28), .ref (b + 29), .ref (b + 30)])) s.heap := hP 0 (by decide)
  have e1 : va_at D vwCl (b + 1, .inl (cI, 8, .inl (fun _ => 0))) s.heap := hP 1 (by decide)
  refine lv_aload_n C.1 C.2.1 d_M_pass_0 rfl (lv_at hl 0 rfl) ?_
  refine lv_iload_n C.1 C.2.1 d_M_pass_1 rfl (lv_at hl 1 rfl) ?_
  refine lv_iconst (v := 1) C.1 C.2.1 d_M_pass_2 (by decide) ?_
  refine lv_icmp_lt (tgt := 13) C.1 C.2.1 d_M_pass_3 (by decide) ?_ ?_
  · intro c0
    refine lv_iconst (v := 1) C.1 C.2.1 d_M_pass_13 (by decide) ?_
    refine lv_goto (tgt := 18) C.1 C.2.1 d_M_pass_14 (by decide) ?_
    refine hq_put (lo := lo) C f_M_105 e0 rfl rfl (Nat.le_of_ble_eq_true rfl) hL (by omega) d_M_pass_18 (fun H41 locs u42 hL => ?_)
    have k43 : va_at D vwCl (b, .inr (6, [.int (1), .int (nI n), .ref (b + 1), .ref (b + 2), .ref (b + 3), .ref (b + 4), .ref (b + 5), .ref (b + 6), .ref (b + 7), .ref (b + 8), .ref (b + 9), .ref (b + 10), .ref (b + 11), .ref (b + 12), .ref (b + 13), .ref (b + 14), .ref (b + 15), .ref (b + 16), .ref (b + 17), .ref (b + 18), .ref (b + 19), .ref (b + 20), .ref (b + 21), .ref (b + 22), .ref (b + 23), .ref (b + 24), .ref (b + 25), .ref (b + 26), .ref (b + 27), .ref (b + 28), .ref (b + 29), .ref (b + 30)])) H41 := u42.2.2
    refine lv_aload_n C.1 C.2.1 d_M_pass_21 rfl (lv_at hl 0 rfl) ?_
    refine hq_get (v := .ref (b + 1)) C f_M_7 k43 rfl d_M_pass_22 ?_
    refine lv_iconst (v := 1) C.1 C.2.1 d_M_pass_25 (by decide) ?_
    have k44 := hq_au e1 u42 (by omega)
    refine hq_iald C 0 rfl k44 (show vp_in (nI 1) 8 from vp_in_nI (by decide) (by decide)) d_M_pass_26 ?_
    refine W.eq (g2 := F0 m 27 ls [.int (0)]) rfl ?_
    refine lv_istore_n C.1 C.2.1 d_M_pass_27 rfl hl (by decide) rfl (lv' := [(2, .int (0)), (0, .ref (b)), (1, .int (a))]) (fun ls hl => ?_)
    refine lv_iconst (v := 0) C.1 C.2.1 d_M_pass_28 (by decide) ?_
    refine lv_istore_n C.1 C.2.1 d_M_pass_29 rfl hl (by decide) rfl (lv' := [(3, .int (0)), (2, .int (0)), (0, .ref (b)), (1, .int (a))]) (fun ls hl => ?_)
    refine lv_iload_n C.1 C.2.1 d_M_pass_30 rfl (lv_at hl 0 rfl) ?_
    refine lv_iload_n C.1 C.2.1 d_M_pass_31 rfl (lv_at hl 3 rfl) ?_
    refine lv_icmp_ge (tgt := 52) C.1 C.2.1 d_M_pass_32 (by decide) ?_ ?_
    · intro c9
      refine lv_aload_n C.1 C.2.1 d_M_pass_52 rfl (lv_at hl 2 rfl) ?_
      refine hq_get (v := .ref (b + 1)) C f_M_7 k43 rfl d_M_pass_53 ?_
      refine lv_iconst (v := 1) C.1 C.2.1 d_M_pass_56 (by decide) ?_
      refine hq_iald C 0 rfl k44 (show vp_in (nI 1) 8 from vp_in_nI (by decide) (by decide)) d_M_pass_57 ?_
      refine W.eq (g2 := F0 m 58 ls [.int (0)]) rfl ?_
      refine lv_iload_n C.1 C.2.1 d_M_pass_58 rfl (lv_at hl 1 rfl) ?_
      refine lv_isub C.1 C.2.1 d_M_pass_59 ?_
      exact hq_iret C hret hlk (Nat.le_of_ble_eq_true rfl) (Nat.le_of_ble_eq_true rfl) hL ⟨rfl, k43, hq_Sput hq_S0 u42 (by omega) (by omega)⟩ d_M_pass_60
    · intro c9
      refine lv_aload_n C.1 C.2.1 d_M_pass_35 rfl (lv_at hl 2 rfl) ?_
      refine hq_get (v := .int (1)) C f_M_105 k43 rfl d_M_pass_36 ?_
      refine lv_if_ne (tgt := 52) C.1 C.2.1 d_M_pass_39 (by decide) (fun _ => ?_) (fun hn => absurd hn (by decide))
      refine lv_aload_n C.1 C.2.1 d_M_pass_52 rfl (lv_at hl 2 rfl) ?_
      refine hq_get (v := .ref (b + 1)) C f_M_7 k43 rfl d_M_pass_53 ?_
      refine lv_iconst (v := 1) C.1 C.2.1 d_M_pass_56 (by decide) ?_
      refine hq_iald C 0 rfl k44 (show vp_in (nI 1) 8 from vp_in_nI (by decide) (by decide)) d_M_pass_57 ?_
      refine W.eq (g2 := F0 m 58 ls [.int (0)]) rfl ?_
      refine lv_iload_n C.1 C.2.1 d_M_pass_58 rfl (lv_at hl 1 rfl) ?_
      refine lv_isub C.1 C.2.1 d_M_pass_59 ?_
      exact hq_iret C hret hlk (Nat.le_of_ble_eq_true rfl) (Nat.le_of_ble_eq_true rfl) hL ⟨rfl, k43, hq_Sput hq_S0 u42 (by omega) (by omega)⟩ d_M_pass_60
  · intro c0
    refine lv_iload_n C.1 C.2.1 d_M_pass_6 rfl (lv_at hl 1 rfl) ?_
    refine lv_sipush (v := 200) C.1 C.2.1 d_M_pass_7 (by decide) ?_
    refine lv_icmp_le (tgt := 17) C.1 C.2.1 d_M_pass_10 (by decide) (fun hn => absurd hn (fun h9 => hb.elim c0 (fun z => z h9))) (fun _ => ?_)
    refine lv_iconst (v := 1) C.1 C.2.1 d_M_pass_13 (by decide) ?_
    refine lv_goto (tgt := 18) C.1 C.2.1 d_M_pass_14 (by decide) ?_
    refine hq_put (lo := lo) C f_M_105 e0 rfl rfl (Nat.le_of_ble_eq_true rfl) hL (by omega) d_M_pass_18 (fun H45 locs u46 hL => ?_)
    have k47 : va_at D vwCl (b, .inr (6, [.int (1), .int (nI n), .ref (b + 1), .ref (b + 2), .ref (b + 3), .ref (b + 4), .ref (b + 5), .ref (b + 6), .ref (b + 7), .ref (b + 8), .ref (b + 9), .ref (b + 10), .ref (b + 11), .ref (b + 12), .ref (b + 13), .ref (b + 14), .ref (b + 15), .ref (b + 16), .ref (b + 17), .ref (b + 18), .ref (b + 19), .ref (b + 20), .ref (b + 21), .ref (b + 22), .ref (b + 23), .ref (b + 24), .ref (b + 25), .ref (b + 26), .ref (b + 27), .ref (b + 28), .ref (b + 29), .ref (b + 30)])) H45 := u46.2.2
    refine lv_aload_n C.1 C.2.1 d_M_pass_21 rfl (lv_at hl 0 rfl) ?_
    refine hq_get (v := .ref (b + 1)) C f_M_7 k47 rfl d_M_pass_22 ?_
    refine lv_iconst (v := 1) C.1 C.2.1 d_M_pass_25 (by decide) ?_
    have k48 := hq_au e1 u46 (by omega)
    refine hq_iald C 0 rfl k48 (show vp_in (nI 1) 8 from vp_in_nI (by decide) (by decide)) d_M_pass_26 ?_
    refine W.eq (g2 := F0 m 27 ls [.int (0)]) rfl ?_
    refine lv_istore_n C.1 C.2.1 d_M_pass_27 rfl hl (by decide) rfl (lv' := [(2, .int (0)), (0, .ref (b)), (1, .int (a))]) (fun ls hl => ?_)
    refine lv_iconst (v := 0) C.1 C.2.1 d_M_pass_28 (by decide) ?_
    refine lv_istore_n C.1 C.2.1 d_M_pass_29 rfl hl (by decide) rfl (lv' := [(3, .int (0)), (2, .int (0)), (0, .ref (b)), (1, .int (a))]) (fun ls hl => ?_)
    refine lv_iload_n C.1 C.2.1 d_M_pass_30 rfl (lv_at hl 0 rfl) ?_
    refine lv_iload_n C.1 C.2.1 d_M_pass_31 rfl (lv_at hl 3 rfl) ?_
    refine lv_icmp_ge (tgt := 52) C.1 C.2.1 d_M_pass_32 (by decide) ?_ ?_
    · intro c9
      refine lv_aload_n C.1 C.2.1 d_M_pass_52 rfl (lv_at hl 2 rfl) ?_
      refine hq_get (v := .ref (b + 1)) C f_M_7 k47 rfl d_M_pass_53 ?_
      refine lv_iconst (v := 1) C.1 C.2.1 d_M_pass_56 (by decide) ?_
      refine hq_iald C 0 rfl k48 (show vp_in (nI 1) 8 from vp_in_nI (by decide) (by decide)) d_M_pass_57 ?_
      refine W.eq (g2 := F0 m 58 ls [.int (0)]) rfl ?_
      refine lv_iload_n C.1 C.2.1 d_M_pass_58 rfl (lv_at hl 1 rfl) ?_
      refine lv_isub C.1 C.2.1 d_M_pass_59 ?_
      exact hq_iret C hret hlk (Nat.le_of_ble_eq_true rfl) (Nat.le_of_ble_eq_true rfl) hL ⟨rfl, k47, hq_Sput hq_S0 u46 (by omega) (by omega)⟩ d_M_pass_60
    · intro c9
      refine lv_aload_n C.1 C.2.1 d_M_pass_35 rfl (lv_at hl 2 rfl) ?_
      refine hq_get (v := .int (1)) C f_M_105 k47 rfl d_M_pass_36 ?_
      refine lv_if_ne (tgt := 52) C.1 C.2.1 d_M_pass_39 (by decide) (fun _ => ?_) (fun hn => absurd hn (by decide))
      refine lv_aload_n C.1 C.2.1 d_M_pass_52 rfl (lv_at hl 2 rfl) ?_
      refine hq_get (v := .ref (b + 1)) C f_M_7 k47 rfl d_M_pass_53 ?_
      refine lv_iconst (v := 1) C.1 C.2.1 d_M_pass_56 (by decide) ?_
      refine hq_iald C 0 rfl k48 (show vp_in (nI 1) 8 from vp_in_nI (by decide) (by decide)) d_M_pass_57 ?_
      refine W.eq (g2 := F0 m 58 ls [.int (0)]) rfl ?_
      refine lv_iload_n C.1 C.2.1 d_M_pass_58 rfl (lv_at hl 1 rfl) ?_
      refine lv_isub C.1 C.2.1 d_M_pass_59 ?_
      exact hq_iret C hret hlk (Nat.le_of_ble_eq_true rfl) (Nat.le_of_ble_eq_true rfl) hL ⟨rfl, k47, hq_Sput hq_S0 u46 (by omega) (by omega)⟩ d_M_pass_60
