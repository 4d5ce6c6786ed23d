/-! pass, where no node has anything to do. -/
/-- an idle node's numbers: t is the place in its ring -/
def NI (t : Nat) : Nat → Int32 := fun k => match k with
  | 8 => 1
  | 15 => nI t
  | 19 => 50
  | 20 => 1
  | _ => 0
theorem busP_set {D : va_G} {cI cZ cN : ClassId} {x n i : Nat} {N N' : Nat → Nat → Int32} {R : Nat → Nat → Nat → Int32} {lev tot : Nat → Int32} {H H1 : Heap} (h : busP D cI cZ cN x n N R lev tot H) (hB : hq_B D vwCl (x + 4 + 10 * i) 10 (ndC cI cZ (x + 4 + 10 * i) (N' i) (R i)) H1) (hS : hq_S (x + 4 + 10 * i) 10 H H1) (hN : ∀ k, k ≠ i → N' k = N k) : busP D cI cZ cN x n N' R lev tot H1 := by
  refine ⟨hq_Bs h.1 hS (by omega), fun k hk => ?_⟩
  by_cases hki : k = i
  · subst hki; exact hB
  · rw [hN k hki]
    exact hq_Bs (h.2 k hk) hS (by omega)
theorem upd0 (k : Nat) : upd (fun _ => (0 : Int32)) k (vp_nar .boolean 0) = fun _ => 0 := by
  funext j
  unfold upd
  by_cases h : j = k
  · rw [if_pos h]; rfl
  · rw [if_neg h]
set_option maxHeartbeats 4000000 in
set_option maxRecDepth 100000 in
theorem c_next (l : Launch) (D : va_G) (cI cZ cN cJ : ClassId) (lo : Nat) (b t : Nat) (hlo : lo ≤ b) (ht : t < 201) : hq_M l y_Di_next b_Di_next 2 (some .boolean) TB { frames := 0, cells := 0, slots := 0, locals := 0 } lo D vwCl (TY cI cZ cN cJ) [.ref (b)] (fun U => va_at D vwCl (b, .inr (1, [.ref (b + 1), .int (nI t)])) U.heap ∧ va_at D vwCl (b + 1, .inl (cZ, 201, .inl (fun _ => 0))) U.heap) (fun H v H' => v = some (.int 0) ∧ va_at D vwCl (b, .inr (1, [.ref (b + 1), .int (nI ((t + 1) % 201))])) H' ∧ va_at D vwCl (b + 1, .inl (cZ, 201, .inl (fun _ => 0))) H' ∧ hq_S b 2 H H') := by
  refine hq_ofW (by decide) (Nat.le_of_ble_eq_true rfl) ?_
  intro p e s m below meth c ls C hml hret hlk hnm hl hP
  obtain ⟨k0, k1⟩ := hP
  have hL : hq_L lo [] := hq_L0
  have hl : lv_has ls 2 [(0, .ref (b))] := hl
  refine lv_aload_n C.1 C.2.1 d_Di_next_0 rfl (lv_at hl 0 rfl) ?_
  refine lv_aload_n C.1 C.2.1 d_Di_next_1 rfl (lv_at hl 0 rfl) ?_
  refine hq_get (v := .int (nI t)) C f_Di_15 k0 rfl d_Di_next_2 ?_
  refine lv_iconst (v := 1) C.1 C.2.1 d_Di_next_5 (by decide) ?_
  refine lv_iadd C.1 C.2.1 d_Di_next_6 ?_
  rw [nI_1 t]
  refine lv_aload_n C.1 C.2.1 d_Di_next_7 rfl (lv_at hl 0 rfl) ?_
  refine hq_get (v := .ref (b + 1)) C f_Di_9 k0 rfl d_Di_next_8 ?_
  refine hq_alen C 1 rfl k1 (v := nI 201) rfl d_Di_next_11 ?_
  refine lv_irem C.1 C.2.1 d_Di_next_12 (nI_ne0 (by decide) (by decide)) ?_
  rw [pk_rem (show t + 1 < 2 ^ 31 by omega) (by decide) (by decide)]
  refine hq_put (lo := lo) C f_Di_15 k0 rfl rfl (Nat.le_of_ble_eq_true rfl) hL (by omega) d_Di_next_13 (fun H41 locs u42 hL => ?_)
  have k43 : va_at D vwCl (b, .inr (1, [.ref (b + 1), .int (nI ((t + 1) % 201))])) H41 := u42.2.2
  refine lv_aload_n C.1 C.2.1 d_Di_next_16 rfl (lv_at hl 0 rfl) ?_
  refine hq_get (v := .ref (b + 1)) C f_Di_9 k43 rfl d_Di_next_17 ?_
  refine lv_aload_n C.1 C.2.1 d_Di_next_20 rfl (lv_at hl 0 rfl) ?_
  refine hq_get (v := .int (nI ((t + 1) % 201))) C f_Di_15 k43 rfl d_Di_next_21 ?_
  have k44 := hq_au k1 u42 (by omega)
  refine hq_zald C 1 rfl k44 (vp_in_nI (Nat.mod_lt _ (by decide)) (by decide)) d_Di_next_24 ?_
  refine W.eq (g2 := F0 m 25 ls [.int (0)]) rfl ?_
  refine lv_istore_n C.1 C.2.1 d_Di_next_25 rfl hl (by decide) rfl (lv' := [(1, .int (0)), (0, .ref (b))]) (fun ls hl => ?_)
  refine lv_aload_n C.1 C.2.1 d_Di_next_26 rfl (lv_at hl 1 rfl) ?_
  refine hq_get (v := .ref (b + 1)) C f_Di_9 k43 rfl d_Di_next_27 ?_
  refine lv_aload_n C.1 C.2.1 d_Di_next_30 rfl (lv_at hl 1 rfl) ?_
  refine hq_get (v := .int (nI ((t + 1) % 201))) C f_Di_15 k43 rfl d_Di_next_31 ?_
  refine lv_iconst (v := 0) C.1 C.2.1 d_Di_next_34 (by decide) ?_
  refine hq_zast (lo := lo) C 1 rfl k44 (vp_in_nI (Nat.mod_lt _ (by decide)) (by decide)) hL (by omega) d_Di_next_35 (fun H45 locs u46 hL => ?_)
  have k47 : va_at D vwCl (b + 1, .inl (cZ, 201, .inl (upd (fun _ => 0) (nI ((t + 1) % 201)).toNatClampNeg (vp_nar .boolean 0)))) H45 := u46.2.2
  refine lv_iload_n C.1 C.2.1 d_Di_next_36 rfl (lv_at hl 0 rfl) ?_
  have k48 := hq_au k43 u46 (by omega)
  rw [upd0] at k47
  exact hq_zret C hret hlk (by decide) (Nat.le_of_ble_eq_true rfl) (Nat.le_of_ble_eq_true rfl) hL ⟨rfl, k48, k47, hq_Sput (hq_Sput hq_S0 u42 (by omega) (by omega)) u46 (by omega) (by omega)⟩ d_Di_next_37
set_option maxHeartbeats 4000000 in
set_option maxRecDepth 100000 in
theorem c_levelToDrive (l : Launch) (D : va_G) (cI cZ cN cJ : ClassId) (lo : Nat) (b : Nat) : hq_M l y_No_levelToDrive b_No_levelToDrive 1 (some .int) TB { frames := 0, cells := 0, slots := 0, locals := 0 } lo D vwCl (TY cI cZ cN cJ) [.ref (b)] (fun U => va_at D vwCl (b, .inr (3, [.ref (b + 1), .ref (b + 3), .ref (b + 5), .ref (b + 7), .ref (b + 9), .int (0), .int (0), .int (0), .int (0), .int (0), .int (0), .int (0), .int (0), .int (1), .int (0), .int (0), .int (0), .int (0)])) U.heap) (fun H v H' => v = some (.int 1) ∧ H' = H) := by
  refine hq_ofW (by decide) (Nat.le_of_ble_eq_true rfl) ?_
  intro p e s m below meth c ls C hml hret hlk hnm hl hP
  have hL : hq_L lo [] := hq_L0
  have hl : lv_has ls 1 [(0, .ref (b))] := hl
  have m0 := hP
  refine lv_aload_n C.1 C.2.1 d_No_levelToDrive_0 rfl (lv_at hl 0 rfl) ?_
  refine hq_get (v := .int (0)) C f_No_42 m0 rfl d_No_levelToDrive_1 ?_
  refine lv_tableOut (tgt := 76) C.1 C.2.1 d_No_levelToDrive_4 (Or.inl (by decide)) (by decide) ?_
  refine lv_iconst (v := 1) C.1 C.2.1 d_No_levelToDrive_76 (by decide) ?_
  exact hq_iret C hret hlk (Nat.le_of_ble_eq_true rfl) (Nat.le_of_ble_eq_true rfl) hL ⟨rfl, rfl⟩ d_No_levelToDrive_77
set_option maxHeartbeats 4000000 in
set_option maxRecDepth 100000 in
theorem c_drive (l : Launch) (D : va_G) (cI cZ cN cJ : ClassId) (lo : Nat) (b t : Nat) (hlo : lo ≤ b) : hq_M l y_No_drive b_No_drive 1 (some .int) TB { frames := 1, cells := 0, slots := 0, locals := 30 } lo D vwCl (TY cI cZ cN cJ) [.ref (b)] (fun U => hq_B D vwCl b 10 (ndC cI cZ b (NI t) R0) U.heap) (fun H v H' => v = some (.int 1) ∧ hq_B D vwCl b 10 (ndC cI cZ b (NI t) R0) H' ∧ hq_S b 10 H H') := by
  refine hq_ofW (by decide) (Nat.le_of_ble_eq_true rfl) ?_
  intro p e s m below meth c ls C hml hret hlk hnm hl hP
  have hL : hq_L lo [] := hq_L0
  have hl : lv_has ls 1 [(0, .ref (b))] := hl
  have kX := hP
  have m0 : va_at D vwCl (b, .inr (3, [.ref (b + 1), .ref (b + 3), .ref (b + 5), .ref (b + 7), .ref (b + 9), .int (0), .int (0), .int (0), .int (0), .int (0), .int (0), .int (0), .int (0), .int (1), .int (0), .int (0), .int (0), .int (0)])) s.heap := hP 0 (by decide)
  have m1 : va_at D vwCl (b + 1, .inr (2, [.ref (b + 2), .int 0])) s.heap := hP 1 (by decide)
  have m5 : va_at D vwCl (b + 5, .inr (1, [.ref (b + 5 + 1), .int (nI t)])) s.heap := hP 5 (by decide)
  have m6 : va_at D vwCl (b + 5 + 1, .inl (cZ, 201, .inl (fun _ => 0))) s.heap := hP 6 (by decide)
  refine lv_aload_n C.1 C.2.1 d_No_drive_0 rfl (lv_at hl 0 rfl) ?_
  refine hq_get (v := .int (0)) C f_No_42 m0 rfl d_No_drive_1 ?_
  refine lv_if_ne (tgt := 21) C.1 C.2.1 d_No_drive_4 (by decide) (fun hn => absurd hn (by decide)) (fun _ => ?_)
  refine lv_aload_n C.1 C.2.1 d_No_drive_7 rfl (lv_at hl 0 rfl) ?_
  refine hq_get (v := .ref (b + 1)) C f_No_12 m0 rfl d_No_drive_8 ?_
  refine hq_get (v := .int (0)) C f_No_83 m1 rfl d_No_drive_11 ?_
  refine lv_if_le (tgt := 21) C.1 C.2.1 d_No_drive_14 (by decide) (fun _ => ?_) (fun hn => absurd (by decide) hn)
  refine lv_aload_n C.1 C.2.1 d_No_drive_21 rfl (lv_at hl 0 rfl) ?_
  refine lv_aload_n C.1 C.2.1 d_No_drive_22 rfl (lv_at hl 0 rfl) ?_
  refine hq_callV (lo := lo) (As := []) (rest := [.ref (b)]) C tb_good hml Y_No_89 (c_levelToDrive l D cI cZ cN cJ lo b) m0 rfl (fun _ _ _ _ h => h) (fun U hU hW => by show va_at D vwCl (b, .inr (3, [.ref (b + 1), .ref (b + 3), .ref (b + 5), .ref (b + 7), .ref (b + 9), .int (0), .int (0), .int (0), .int (0), .int (0), .int (0), .int (0), .int (0), .int (1), .int (0), .int (0), .int (0), .int (0)])) U.heap; rw [hU]; exact m0) hL hl.1 rfl rfl ⟨⟨Nat.le_of_ble_eq_true rfl, Nat.le_of_ble_eq_true rfl⟩, Nat.le_of_ble_eq_true rfl, Nat.le_of_ble_eq_true rfl⟩ (Nat.le_of_ble_eq_true rfl) d_No_drive_23 (fun v H41 locs hp hL => ?_)
  obtain ⟨rfl, rfl⟩ := hp
  refine W.eq (g2 := F0 m 26 ls [.int (1), .ref (b)]) rfl ?_
  refine hq_put (lo := lo) C f_No_67 m0 rfl rfl (Nat.le_of_ble_eq_true rfl) hL (by omega) d_No_drive_26 (fun H42 locs u43 hL => ?_)
  have k44 : va_at D vwCl (b, .inr (3, [.ref (b + 1), .ref (b + 3), .ref (b + 5), .ref (b + 7), .ref (b + 9), .int (0), .int (0), .int (0), .int (0), .int (0), .int (0), .int (0), .int (0), .int (1), .int (0), .int (0), .int (0), .int (0)])) H42 := u43.2.2
  refine lv_aload_n C.1 C.2.1 d_No_drive_29 rfl (lv_at hl 0 rfl) ?_
  refine hq_get (v := .int (1)) C f_No_67 k44 rfl d_No_drive_30 ?_
  have hB : hq_B D vwCl b 10 (ndC cI cZ b (NI t) R0) H42 := by
    intro j hj
    by_cases h9 : j = 0
    · subst h9; exact k44
    · exact hq_au (kX j hj) u43 (by omega)
  exact hq_iret C hret hlk (Nat.le_of_ble_eq_true rfl) (Nat.le_of_ble_eq_true rfl) hL ⟨rfl, hB, hq_Sput hq_S0 u43 (by omega) (by omega)⟩ d_No_drive_33
set_option maxHeartbeats 4000000 in
set_option maxRecDepth 100000 in
theorem c_see (l : Launch) (D : va_G) (cI cZ cN cJ : ClassId) (lo : Nat) (b t : Nat) (hlo : lo ≤ b) (ht : t < 201) : hq_M l y_No_see b_No_see 3 (some .int) TB { frames := 1, cells := 0, slots := 0, locals := 30 } lo D vwCl (TY cI cZ cN cJ) [.ref (b), .int (1)] (fun U => hq_B D vwCl b 10 (ndC cI cZ b (NI t) R0) U.heap) (fun H v H' => v = some (.int 0) ∧ hq_B D vwCl b 10 (ndC cI cZ b (NI ((t + 1) % 201)) R0) H' ∧ hq_S b 10 H H') := by
  refine hq_ofW (by decide) (Nat.le_of_ble_eq_true rfl) ?_
  intro p e s m below meth c ls C hml hret hlk hnm hl hP
  have hL : hq_L lo [] := hq_L0
  have hl : lv_has ls 3 [(0, .ref (b)), (1, .int (1))] := hl
  have kX := hP
  have m0 : va_at D vwCl (b, .inr (3, [.ref (b + 1), .ref (b + 3), .ref (b + 5), .ref (b + 7), .ref (b + 9), .int (0), .int (0), .int (0), .int (0), .int (0), .int (0), .int (0), .int (0), .int (1), .int (0), .int (0), .int (0), .int (0)])) s.heap := hP 0 (by decide)
  have m1 : va_at D vwCl (b + 1, .inr (2, [.ref (b + 2), .int 0])) s.heap := hP 1 (by decide)
  have m5 : va_at D vwCl (b + 5, .inr (1, [.ref (b + 5 + 1), .int (nI t)])) s.heap := hP 5 (by decide)
  have m6 : va_at D vwCl (b + 5 + 1, .inl (cZ, 201, .inl (fun _ => 0))) s.heap := hP 6 (by decide)
  refine lv_aload_n C.1 C.2.1 d_No_see_0 rfl (lv_at hl 0 rfl) ?_
  refine hq_get (v := .ref (b + 5)) C f_No_24 m0 rfl d_No_see_1 ?_
  refine hq_callV (lo := lo) (As := []) (rest := []) C tb_good hml Y_No_116 (c_next l D cI cZ cN cJ lo (b + 5) t (by omega) ht) m5 rfl (fun _ _ _ _ h => h) (fun U hU hW => ⟨by rw [hU]; exact m5, by rw [hU]; exact m6⟩) hL hl.1 rfl rfl ⟨⟨Nat.le_of_ble_eq_true rfl, Nat.le_of_ble_eq_true rfl⟩, Nat.le_of_ble_eq_true rfl, Nat.le_of_ble_eq_true rfl⟩ (Nat.le_of_ble_eq_true rfl) d_No_see_4 (fun v H41 locs hp hL => ?_)
  obtain ⟨rfl, n5, n6, hS⟩ := hp
  refine W.eq (g2 := F0 m 7 ls [.int (0)]) rfl ?_
  refine lv_if_eq (tgt := 16) C.1 C.2.1 d_No_see_7 (by decide) (fun _ => ?_) (fun hn => absurd (by decide) hn)
  refine lv_iload_n C.1 C.2.1 d_No_see_16 rfl (lv_at hl 1 rfl) ?_
  refine lv_istore_n C.1 C.2.1 d_No_see_17 rfl hl (by decide) rfl (lv' := [(2, .int (1)), (0, .ref (b)), (1, .int (1))]) (fun ls hl => ?_)
  refine lv_aload_n C.1 C.2.1 d_No_see_18 rfl (lv_at hl 1 rfl) ?_
  have k42 := hq_as m0 hS (by omega)
  refine hq_get (v := .int (0)) C f_No_42 k42 rfl d_No_see_19 ?_
  refine lv_tableOut (tgt := 106) C.1 C.2.1 d_No_see_22 (Or.inl (by decide)) (by decide) ?_
  refine lv_iload_n C.1 C.2.1 d_No_see_106 rfl (lv_at hl 0 rfl) ?_
  refine lv_if_ne (tgt := 117) C.1 C.2.1 d_No_see_107 (by decide) (fun _ => ?_) (fun hn => absurd hn (by decide))
  refine lv_iconst (v := 0) C.1 C.2.1 d_No_see_117 (by decide) ?_
  have hB : hq_B D vwCl b 10 (ndC cI cZ b (NI ((t + 1) % 201)) R0) H41 := by
    intro j hj
    by_cases h5 : j = 5
    · subst h5; exact n5
    · by_cases h6 : j = 6
      · subst h6; exact n6
      · have hk := hq_as (kX j hj) hS (by omega)
        have he : ndC cI cZ b (NI ((t + 1) % 201)) R0 j = ndC cI cZ b (NI t) R0 j := by
          match j, hj, h5 with
          | 0, _, _ => rfl
          | 1, _, _ => rfl
          | 2, _, _ => rfl
          | 3, _, _ => rfl
          | 4, _, _ => rfl
          | 6, _, _ => rfl
          | 7, _, _ => rfl
          | 8, _, _ => rfl
          | 9, _, _ => rfl
        rw [he]; exact hk
  exact hq_iret C hret hlk (Nat.le_of_ble_eq_true rfl) (Nat.le_of_ble_eq_true rfl) hL ⟨rfl, hB, hq_Scall hq_S0 hS (by omega) (by omega)⟩ d_No_see_118
