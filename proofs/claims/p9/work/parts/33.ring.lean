/-! The ring of disturbances, as functions. -/
abbrev sDi := (Nat → Int32) × Nat
abbrev sDi.ring (d : sDi) : Nat → Int32 := d.1
abbrev sDi.t (d : sDi) : Nat := d.2
def DiP (D : va_G) (cZ : ClassId) (a : Nat) (d : sDi) (H : Heap) : Prop := va_at D vwCl (a, .inr (1, [.ref (a + 1), .int (nI d.t)])) H ∧ va_at D vwCl (a + 1, .inl (cZ, 201, .inl d.ring)) H
def okDi (d : sDi) : Prop := d.t < 201 ∧ ∀ j, d.ring j = 0 ∨ d.ring j = 1
def f_Di_next (d : sDi) : sDi × Int32 := (⟨upd d.ring ((d.t + 1) % 201) 0, (d.t + 1) % 201⟩, d.ring ((d.t + 1) % 201))
def f_Di_mark (d : sDi) (i : Nat) : sDi := ⟨upd d.ring ((d.t + i) % 201) 1, d.t⟩
theorem nar01 {v : Int32} (h : v = 0 ∨ v = 1) : narrow .boolean (.int v) = .int v := by
  rcases h with rfl | rfl <;> decide
theorem okDi_next {d : sDi} (h : okDi d) : okDi (f_Di_next d).1 := by
  refine ⟨Nat.mod_lt _ (by decide), fun j => ?_⟩
  show upd d.ring ((d.t + 1) % 201) 0 j = 0 ∨ upd d.ring ((d.t + 1) % 201) 0 j = 1
  unfold upd
  by_cases hj : j = (d.t + 1) % 201
  · rw [if_pos hj]; exact Or.inl rfl
  · rw [if_neg hj]; exact h.2 j
theorem okDi_mark {d : sDi} {i : Nat} (h : okDi d) : okDi (f_Di_mark d i) := by
  refine ⟨h.1, fun j => ?_⟩
  show upd d.ring ((d.t + i) % 201) 1 j = 0 ∨ upd d.ring ((d.t + i) % 201) 1 j = 1
  unfold upd
  by_cases hj : j = (d.t + i) % 201
  · rw [if_pos hj]; exact Or.inr rfl
  · rw [if_neg hj]; exact h.2 j
set_option maxHeartbeats 4000000 in
set_option maxRecDepth 100000 in
theorem c_Di_next (l : Launch) (D : va_G) (cI cZ cN cJ : ClassId) (lo : Nat) (a : Nat) (hlo : lo ≤ a) (d : sDi) (hd : okDi d) : hq_M l y_Di_next b_Di_next 2 (some .boolean) TB { frames := 0, cells := 0, slots := 0, locals := 0 } lo D vwCl (TY cI cZ cN cJ) [.ref (a)] (fun U => DiP D cZ a d U.heap) (fun H v H' => v = some (.int (f_Di_next d).2) ∧ DiP D cZ a (f_Di_next d).1 H' ∧ hq_S a 2 H H') := by
  refine hq_ofW (by decide) (Nat.le_of_ble_eq_true rfl) ?_
  intro p e s m below meth c ls C hml hret hlk hnm hl hP
  obtain ⟨k0, k1⟩ := hP
  have hL : hq_L lo [] := hq_L0
  have hl : lv_has ls 2 [(0, .ref (a))] := hl
  have ht := hd.1
  refine lv_aload_n C.1 C.2.1 d_Di_next_0 rfl (lv_at hl 0 rfl) ?_
  refine lv_aload_n C.1 C.2.1 d_Di_next_1 rfl (lv_at hl 0 rfl) ?_
  refine hq_get (v := .int (nI d.t)) C f_Di_15 k0 rfl d_Di_next_2 ?_
  refine lv_iconst (v := 1) C.1 C.2.1 d_Di_next_5 (by decide) ?_
  refine lv_iadd C.1 C.2.1 d_Di_next_6 ?_
  rw [nI_1 d.t]
  refine lv_aload_n C.1 C.2.1 d_Di_next_7 rfl (lv_at hl 0 rfl) ?_
  refine hq_get (v := .ref (a + 1)) C f_Di_9 k0 rfl d_Di_next_8 ?_
  refine hq_alen C 1 rfl k1 (v := nI 201) rfl d_Di_next_11 ?_
  refine lv_irem C.1 C.2.1 d_Di_next_12 (nI_ne0 (by decide) (by decide)) ?_
  rw [pk_rem (show d.t + 1 < 2 ^ 31 by omega) (by decide) (by decide)]
  refine hq_put (lo := lo) C f_Di_15 k0 rfl rfl (Nat.le_of_ble_eq_true rfl) hL (by omega) d_Di_next_13 (fun H41 locs u42 hL => ?_)
  have k43 : va_at D vwCl (a, .inr (1, [.ref (a + 1), .int (nI ((d.t + 1) % 201))])) H41 := u42.2.2
  refine lv_aload_n C.1 C.2.1 d_Di_next_16 rfl (lv_at hl 0 rfl) ?_
  refine hq_get (v := .ref (a + 1)) C f_Di_9 k43 rfl d_Di_next_17 ?_
  refine lv_aload_n C.1 C.2.1 d_Di_next_20 rfl (lv_at hl 0 rfl) ?_
  refine hq_get (v := .int (nI ((d.t + 1) % 201))) C f_Di_15 k43 rfl d_Di_next_21 ?_
  have k44 := hq_au k1 u42 (by omega)
  refine hq_zald C 1 rfl k44 (vp_in_nI (Nat.mod_lt _ (by decide)) (by decide)) d_Di_next_24 ?_
  rw [nI_clamp (show (d.t + 1) % 201 < 2 ^ 31 by omega)]
  refine W.eq (g2 := F0 m 25 ls [.int (d.ring ((d.t + 1) % 201))]) rfl ?_
  refine lv_istore_n C.1 C.2.1 d_Di_next_25 rfl hl (by decide) rfl (lv' := [(1, .int (d.ring ((d.t + 1) % 201))), (0, .ref (a))]) (fun ls hl => ?_)
  refine lv_aload_n C.1 C.2.1 d_Di_next_26 rfl (lv_at hl 1 rfl) ?_
  refine hq_get (v := .ref (a + 1)) C f_Di_9 k43 rfl d_Di_next_27 ?_
  refine lv_aload_n C.1 C.2.1 d_Di_next_30 rfl (lv_at hl 1 rfl) ?_
  refine hq_get (v := .int (nI ((d.t + 1) % 201))) C f_Di_15 k43 rfl d_Di_next_31 ?_
  refine lv_iconst (v := 0) C.1 C.2.1 d_Di_next_34 (by decide) ?_
  refine hq_zast (lo := lo) C 1 rfl k44 (vp_in_nI (Nat.mod_lt _ (by decide)) (by decide)) hL (by omega) d_Di_next_35 (fun H45 locs u46 hL => ?_)
  have k47 : va_at D vwCl (a + 1, .inl (cZ, 201, .inl (upd d.ring (nI ((d.t + 1) % 201)).toNatClampNeg (vp_nar .boolean 0)))) H45 := u46.2.2
  rw [nI_clamp (show (d.t + 1) % 201 < 2 ^ 31 by omega)] at k47
  refine lv_iload_n C.1 C.2.1 d_Di_next_36 rfl (lv_at hl 0 rfl) ?_
  have k48 := hq_au k43 u46 (by omega)
  exact hq_zret C hret hlk (nar01 (hd.2 _)) (Nat.le_of_ble_eq_true rfl) (Nat.le_of_ble_eq_true rfl) hL ⟨rfl, ⟨k48, k47⟩, hq_Sput (hq_Sput hq_S0 u42 (by omega) (by omega)) u46 (by omega) (by omega)⟩ d_Di_next_37
set_option maxHeartbeats 4000000 in
set_option maxRecDepth 100000 in
theorem c_Di_mark (l : Launch) (D : va_G) (cI cZ cN cJ : ClassId) (lo : Nat) (a : Nat) (hlo : lo ≤ a) (d : sDi) (hd : okDi d) (i : Nat) (hi : i ≤ 200) : hq_M l y_Di_mark b_Di_mark 2 none TB { frames := 1, cells := 0, slots := 0, locals := 30 } lo D vwCl (TY cI cZ cN cJ) [.ref (a), .int (nI i)] (fun U => DiP D cZ a d U.heap) (fun H v H' => v = none ∧ DiP D cZ a (f_Di_mark d i) H' ∧ hq_S a 2 H H') := by
  refine hq_ofW (by decide) (Nat.le_of_ble_eq_true rfl) ?_
  intro p e s m below meth c ls C hml hret hlk hnm hl hP
  obtain ⟨k0, k1⟩ := hP
  have hL : hq_L lo [] := hq_L0
  have hl : lv_has ls 2 [(0, .ref (a)), (1, .int (nI i))] := hl
  have ht := hd.1
  refine lv_aload_n C.1 C.2.1 d_Di_mark_0 rfl (lv_at hl 0 rfl) ?_
  refine hq_get (v := .ref (a + 1)) C f_Di_9 k0 rfl d_Di_mark_1 ?_
  refine lv_aload_n C.1 C.2.1 d_Di_mark_4 rfl (lv_at hl 0 rfl) ?_
  refine hq_get (v := .int (nI d.t)) C f_Di_15 k0 rfl d_Di_mark_5 ?_
  refine lv_iload_n C.1 C.2.1 d_Di_mark_8 rfl (lv_at hl 1 rfl) ?_
  refine lv_iadd C.1 C.2.1 d_Di_mark_9 ?_
  rw [nI_add d.t i]
  refine lv_aload_n C.1 C.2.1 d_Di_mark_10 rfl (lv_at hl 0 rfl) ?_
  refine hq_get (v := .ref (a + 1)) C f_Di_9 k0 rfl d_Di_mark_11 ?_
  refine hq_alen C 1 rfl k1 (v := nI 201) rfl d_Di_mark_14 ?_
  refine hq_callS (lo := lo) (As := [.int (nI (d.t + i)), .int (nI 201)]) (rest := [.ref (a + 1)]) C tb_good hml Y_Di_19 (c_floorMod l D cI cZ cN cJ lo (d.t + i) 201 (by omega) (by decide) (by decide)) (fun _ _ _ _ h => h) (fun U hU hW => trivial) hL hl.1 rfl rfl ⟨⟨Nat.le_of_ble_eq_true rfl, Nat.le_of_ble_eq_true rfl⟩, Nat.le_of_ble_eq_true rfl, Nat.le_of_ble_eq_true rfl⟩ (Nat.le_of_ble_eq_true rfl) d_Di_mark_15 (fun v H41 locs hp hL => ?_)
  obtain ⟨rfl, rfl⟩ := hp
  refine W.eq (g2 := F0 m 18 ls [.int (nI ((d.t + i) % 201)), .ref (a + 1)]) rfl ?_
  refine lv_iconst (v := 1) C.1 C.2.1 d_Di_mark_18 (by decide) ?_
  refine hq_zast (lo := lo) C 1 rfl k1 (vp_in_nI (Nat.mod_lt _ (by decide)) (by decide)) hL (by omega) d_Di_mark_19 (fun H42 locs u43 hL => ?_)
  have k44 : va_at D vwCl (a + 1, .inl (cZ, 201, .inl (upd d.ring (nI ((d.t + i) % 201)).toNatClampNeg (vp_nar .boolean 1)))) H42 := u43.2.2
  rw [nI_clamp (show (d.t + i) % 201 < 2 ^ 31 by omega)] at k44
  have k45 := hq_au k0 u43 (by omega)
  exact hq_vret C hret hlk (Nat.le_of_ble_eq_true rfl) (Nat.le_of_ble_eq_true rfl) hL ⟨rfl, ⟨k45, k44⟩, hq_Sput hq_S0 u43 (by omega) (by omega)⟩ d_Di_mark_20
