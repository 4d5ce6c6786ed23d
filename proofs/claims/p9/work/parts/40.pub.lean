/-! The public methods that change one node, as functions, where they answer. -/
def f_X_filter (z : sNd) (a g : Int32) : sNd := (sNd.mk z.st z.was z.se z.he z.lo a g z.sp z.dr z.pf z.ss z.on z.ro z.w z.i z.d z.k z.r)
set_option maxHeartbeats 4000000 in
set_option maxRecDepth 100000 in
theorem c_X_filter (l : Launch) (D : va_G) (cI cZ cN cJ : ClassId) (lo : Nat) (x n k : Nat) (u : sBu) (hlo : lo ≤ x) (hn : n ≤ 4) (ok : okB n k u) (j : Nat) (hj : j < n) (a g : Int32) (ha : ¬ el a = 0) (hg : ¬ el g = 0) : hq_M l y_X_filter b_X_filter 5 none TB { frames := 2, cells := 0, slots := 0, locals := 60 } lo D vwCl (TY cI cZ cN cJ) [.ref (x), .int (nI j), .int (a), .int (g)] (fun U => BuP D cI cZ cN x n u U.heap) (fun H v H' => v = none ∧ BuP D cI cZ cN x n (setB u j (f_X_filter (u.1 j) a g)) H' ∧ hq_S x (4 + 10 * n) H H') := by
  refine hq_ofW (by decide) (Nat.le_of_ble_eq_true rfl) ?_
  intro p e s m below meth c ls C hml hret hlk hnm hl hP
  have hL : hq_L lo [] := hq_L0
  have hl : lv_has ls 5 [(0, .ref (x)), (1, .int (nI j)), (2, .int (a)), (3, .int (g))] := hl
  have hB : BuP D cI cZ cN x n u s.heap := hP
  obtain ⟨b, hb⟩ : ∃ b, b = x + 4 + 10 * j := ⟨_, rfl⟩
  have k0 : va_at D vwCl (x, .inr (5, [.ref (x + 3), .ref (x + 1), .ref (x + 2)])) s.heap := hB.1 0 (by decide)
  have kz : NdP D cI cZ b (u.1 j) s.heap := by rw [hb]; exact hB.2 j hj
  refine lv_aload_n C.1 C.2.1 d_X_filter_0 rfl (lv_at hl 0 rfl) ?_
  refine lv_iload_n C.1 C.2.1 d_X_filter_1 rfl (lv_at hl 1 rfl) ?_
  refine hq_callV (lo := lo) (As := [.int (nI j)]) (rest := []) C tb_good hml Y_X_32 (c_nodeOf l D cI cZ cN cJ lo x n j (fun i => nOf (u.1 i)) (fun i => rOf (u.1 i)) u.2.1 u.2.2 hn hj) k0 rfl (fun _ _ _ _ h => h) (fun U hU hW => by show busP D cI cZ cN x n (fun i => nOf (u.1 i)) (fun i => rOf (u.1 i)) u.2.1 u.2.2 U.heap; rw [hU]; exact bus_to hB) hL hl.1 rfl rfl ⟨⟨Nat.le_of_ble_eq_true rfl, Nat.le_of_ble_eq_true rfl⟩, Nat.le_of_ble_eq_true rfl, Nat.le_of_ble_eq_true rfl⟩ (Nat.le_of_ble_eq_true rfl) d_X_filter_2 (fun v H41 locs hp hL => ?_)
  obtain ⟨rfl, rfl⟩ := hp
  rw [← hb]
  refine W.eq (g2 := F0 m 5 ls [.ref (b)]) rfl ?_
  refine lv_astore C.1 C.2.1 d_X_filter_5 hl (by decide) rfl (lv' := [(4, .ref (b)), (0, .ref (x)), (1, .int (nI j)), (2, .int (a)), (3, .int (g))]) (fun ls hl => ?_)
  refine lv_iload_n C.1 C.2.1 d_X_filter_7 rfl (lv_at hl 3 rfl) ?_
  refine hq_callS (lo := lo) (As := [.int (a)]) (rest := []) C tb_good hml Y_X_36 (c_isEleven l D cI cZ cN cJ lo a) (fun _ _ _ _ h => h) (fun U hU hW => trivial) hL hl.1 rfl rfl ⟨⟨Nat.le_of_ble_eq_true rfl, Nat.le_of_ble_eq_true rfl⟩, Nat.le_of_ble_eq_true rfl, Nat.le_of_ble_eq_true rfl⟩ (Nat.le_of_ble_eq_true rfl) d_X_filter_8 (fun v H42 locs hp hL => ?_)
  obtain ⟨rfl, rfl⟩ := hp
  refine W.eq (g2 := F0 m 11 ls [.int (el a)]) rfl ?_
  refine lv_if_eq (tgt := 21) C.1 C.2.1 d_X_filter_11 (by decide) (fun hn => absurd hn (ha)) (fun _ => ?_)
  refine lv_iload_n C.1 C.2.1 d_X_filter_14 rfl (lv_at hl 4 rfl) ?_
  refine hq_callS (lo := lo) (As := [.int (g)]) (rest := []) C tb_good hml Y_X_36 (c_isEleven l D cI cZ cN cJ lo g) (fun _ _ _ _ h => h) (fun U hU hW => trivial) hL hl.1 rfl rfl ⟨⟨Nat.le_of_ble_eq_true rfl, Nat.le_of_ble_eq_true rfl⟩, Nat.le_of_ble_eq_true rfl, Nat.le_of_ble_eq_true rfl⟩ (Nat.le_of_ble_eq_true rfl) d_X_filter_15 (fun v H43 locs hp hL => ?_)
  obtain ⟨rfl, rfl⟩ := hp
  refine W.eq (g2 := F0 m 18 ls [.int (el g)]) rfl ?_
  refine lv_if_ne (tgt := 31) C.1 C.2.1 d_X_filter_18 (by decide) (fun _ => ?_) (fun hn => absurd hn (hg))
  refine lv_aload C.1 C.2.1 d_X_filter_31 (lv_at hl 0 rfl) ?_
  refine lv_iload_n C.1 C.2.1 d_X_filter_33 rfl (lv_at hl 3 rfl) ?_
  refine hq_put (lo := lo) C f_X_79 kz.1 rfl rfl (Nat.le_of_ble_eq_true rfl) hL (by omega) d_X_filter_34 (fun H44 locs u45 hL => ?_)
  have k46 : va_at D vwCl (b, .inr (3, [.ref (b + 1), .ref (b + 3), .ref (b + 5), .ref (b + 7), .ref (b + 9), .int ((u.1 j).st), .int ((u.1 j).was), .int ((u.1 j).se), .int ((u.1 j).he), .int ((u.1 j).lo), .int (a), .int ((u.1 j).va), .int ((u.1 j).sp), .int ((u.1 j).dr), .int ((u.1 j).pf), .int ((u.1 j).ss), .int ((u.1 j).on), .int ((u.1 j).ro)])) H44 := u45.2.2
  refine lv_aload C.1 C.2.1 d_X_filter_37 (lv_at hl 0 rfl) ?_
  refine lv_iload_n C.1 C.2.1 d_X_filter_39 rfl (lv_at hl 4 rfl) ?_
  refine hq_put (lo := lo) C f_X_82 k46 rfl rfl (Nat.le_of_ble_eq_true rfl) hL (by omega) d_X_filter_40 (fun H47 locs u48 hL => ?_)
  have k49 : va_at D vwCl (b, .inr (3, [.ref (b + 1), .ref (b + 3), .ref (b + 5), .ref (b + 7), .ref (b + 9), .int ((u.1 j).st), .int ((u.1 j).was), .int ((u.1 j).se), .int ((u.1 j).he), .int ((u.1 j).lo), .int (a), .int (g), .int ((u.1 j).sp), .int ((u.1 j).dr), .int ((u.1 j).pf), .int ((u.1 j).ss), .int ((u.1 j).on), .int ((u.1 j).ro)])) H47 := u48.2.2
  have k50 := hq_au (hq_au kz.2.1.1 u45 (by omega)) u48 (by omega)
  have k51 := hq_au (hq_au kz.2.1.2 u45 (by omega)) u48 (by omega)
  have k52 := hq_au (hq_au kz.2.2.1.1 u45 (by omega)) u48 (by omega)
  have k53 := hq_au (hq_au kz.2.2.1.2 u45 (by omega)) u48 (by omega)
  have k54 := hq_au (hq_au kz.2.2.2.1.1 u45 (by omega)) u48 (by omega)
  have k55 := hq_au (hq_au kz.2.2.2.1.2 u45 (by omega)) u48 (by omega)
  have k56 := hq_au (hq_au kz.2.2.2.2.1.1 u45 (by omega)) u48 (by omega)
  have k57 := hq_au (hq_au kz.2.2.2.2.1.2 u45 (by omega)) u48 (by omega)
  have k58 := hq_au (hq_au kz.2.2.2.2.2 u45 (by omega)) u48 (by omega)
  have hS9 : hq_S b 10 s.heap _ := hq_Sput (hq_Sput (hq_S0) u45 (by omega) (by omega)) u48 (by omega) (by omega)
  rw [hb] at hS9
  have hB9 := BuP_set (z := f_X_filter (u.1 j) a g) hB (show NdP D cI cZ (x + 4 + 10 * j) (f_X_filter (u.1 j) a g) _ from by rw [← hb]; exact ⟨k49, ⟨k50, k51⟩, ⟨k52, k53⟩, ⟨k54, k55⟩, ⟨k56, k57⟩, k58⟩) hS9
  exact hq_vret C hret hlk (Nat.le_of_ble_eq_true rfl) (Nat.le_of_ble_eq_true rfl) hL ⟨rfl, hB9, hq_Scall hq_S0 hS9 (by omega) (by omega)⟩ d_X_filter_43
def f_X_disturb (z : sNd) (i : Nat) : sNd := (sNd.mk z.st z.was z.se z.he z.lo z.ma z.va z.sp z.dr z.pf z.ss z.on z.ro z.w z.i (f_Di_mark z.d i) z.k z.r)
set_option maxHeartbeats 4000000 in
set_option maxRecDepth 100000 in
theorem c_X_disturb (l : Launch) (D : va_G) (cI cZ cN cJ : ClassId) (lo : Nat) (x n k : Nat) (u : sBu) (hlo : lo ≤ x) (hn : n ≤ 4) (ok : okB n k u) (j : Nat) (hj : j < n) (i : Nat) (h1 : 1 ≤ i) (h2 : i ≤ 200) : hq_M l y_X_disturb b_X_disturb 4 none TB { frames := 3, cells := 0, slots := 0, locals := 80 } lo D vwCl (TY cI cZ cN cJ) [.ref (x), .int (nI j), .int (nI i)] (fun U => BuP D cI cZ cN x n u U.heap) (fun H v H' => v = none ∧ BuP D cI cZ cN x n (setB u j (f_X_disturb (u.1 j) i)) H' ∧ hq_S x (4 + 10 * n) H H') := by
  refine hq_ofW (by decide) (Nat.le_of_ble_eq_true rfl) ?_
  intro p e s m below meth c ls C hml hret hlk hnm hl hP
  have hL : hq_L lo [] := hq_L0
  have hl : lv_has ls 4 [(0, .ref (x)), (1, .int (nI j)), (2, .int (nI i))] := hl
  have hB : BuP D cI cZ cN x n u s.heap := hP
  obtain ⟨b, hb⟩ : ∃ b, b = x + 4 + 10 * j := ⟨_, rfl⟩
  have k0 : va_at D vwCl (x, .inr (5, [.ref (x + 3), .ref (x + 1), .ref (x + 2)])) s.heap := hB.1 0 (by decide)
  have kz : NdP D cI cZ b (u.1 j) s.heap := by rw [hb]; exact hB.2 j hj
  refine lv_aload_n C.1 C.2.1 d_X_disturb_0 rfl (lv_at hl 0 rfl) ?_
  refine lv_iload_n C.1 C.2.1 d_X_disturb_1 rfl (lv_at hl 1 rfl) ?_
  refine hq_callV (lo := lo) (As := [.int (nI j)]) (rest := []) C tb_good hml Y_X_32 (c_nodeOf l D cI cZ cN cJ lo x n j (fun i => nOf (u.1 i)) (fun i => rOf (u.1 i)) u.2.1 u.2.2 hn hj) k0 rfl (fun _ _ _ _ h => h) (fun U hU hW => by show busP D cI cZ cN x n (fun i => nOf (u.1 i)) (fun i => rOf (u.1 i)) u.2.1 u.2.2 U.heap; rw [hU]; exact bus_to hB) hL hl.1 rfl rfl ⟨⟨Nat.le_of_ble_eq_true rfl, Nat.le_of_ble_eq_true rfl⟩, Nat.le_of_ble_eq_true rfl, Nat.le_of_ble_eq_true rfl⟩ (Nat.le_of_ble_eq_true rfl) d_X_disturb_2 (fun v H41 locs hp hL => ?_)
  obtain ⟨rfl, rfl⟩ := hp
  rw [← hb]
  refine W.eq (g2 := F0 m 5 ls [.ref (b)]) rfl ?_
  refine lv_astore_n C.1 C.2.1 d_X_disturb_5 rfl hl (by decide) rfl (lv' := [(3, .ref (b)), (0, .ref (x)), (1, .int (nI j)), (2, .int (nI i))]) (fun ls hl => ?_)
  refine lv_iload_n C.1 C.2.1 d_X_disturb_6 rfl (lv_at hl 3 rfl) ?_
  refine hq_callS (lo := lo) (As := [.int (nI i)]) (rest := []) C tb_good hml Y_X_85 (c_checkBitTimes l D cI cZ cN cJ lo (nI i) (nI_nlt (a := i) (b := 1) h1 (by omega)) (nI_le (b := 200) h2 (by decide))) (fun _ _ _ _ h => h) (fun U hU hW => trivial) hL hl.1 rfl rfl ⟨⟨Nat.le_of_ble_eq_true rfl, Nat.le_of_ble_eq_true rfl⟩, Nat.le_of_ble_eq_true rfl, Nat.le_of_ble_eq_true rfl⟩ (Nat.le_of_ble_eq_true rfl) d_X_disturb_7 (fun v H42 locs hp hL => ?_)
  obtain ⟨rfl, rfl⟩ := hp
  refine W.eq (g2 := F0 m 10 ls []) rfl ?_
  refine lv_aload_n C.1 C.2.1 d_X_disturb_10 rfl (lv_at hl 0 rfl) ?_
  refine hq_get (v := .ref (b + 5)) C f_X_88 kz.1 rfl d_X_disturb_11 ?_
  refine lv_iload_n C.1 C.2.1 d_X_disturb_14 rfl (lv_at hl 3 rfl) ?_
  refine hq_callV (lo := lo) (As := [.int (nI i)]) (rest := []) C tb_good hml Y_X_92 (c_Di_mark l D cI cZ cN cJ lo (b + 5) (by omega) (u.1 j).d (ok.1 j hj).2.2.1 i h2) kz.2.2.2.1.1 rfl (fun _ _ _ _ h => h) (fun U hU hW => by show DiP D cZ (b + 5) (u.1 j).d U.heap; rw [hU]; exact kz.2.2.2.1) hL hl.1 rfl rfl ⟨⟨Nat.le_of_ble_eq_true rfl, Nat.le_of_ble_eq_true rfl⟩, Nat.le_of_ble_eq_true rfl, Nat.le_of_ble_eq_true rfl⟩ (Nat.le_of_ble_eq_true rfl) d_X_disturb_15 (fun v H43 locs hp hL => ?_)
  obtain ⟨rfl, kd, Sd⟩ := hp
  refine W.eq (g2 := F0 m 18 ls []) rfl ?_
  have k44 := hq_as kz.1 Sd (by omega)
  have k45 := hq_as kz.2.1.1 Sd (by omega)
  have k46 := hq_as kz.2.1.2 Sd (by omega)
  have k47 := hq_as kz.2.2.1.1 Sd (by omega)
  have k48 := hq_as kz.2.2.1.2 Sd (by omega)
  have k49 := hq_as kz.2.2.2.2.1.1 Sd (by omega)
  have k50 := hq_as kz.2.2.2.2.1.2 Sd (by omega)
  have k51 := hq_as kz.2.2.2.2.2 Sd (by omega)
  have hS9 : hq_S b 10 s.heap _ := hq_Scall (hq_S0) Sd (by omega) (by omega)
  rw [hb] at hS9
  have hB9 := BuP_set (z := f_X_disturb (u.1 j) i) hB (show NdP D cI cZ (x + 4 + 10 * j) (f_X_disturb (u.1 j) i) _ from by rw [← hb]; exact ⟨k44, ⟨k45, k46⟩, ⟨k47, k48⟩, ⟨kd.1, kd.2⟩, ⟨k49, k50⟩, k51⟩) hS9
  exact hq_vret C hret hlk (Nat.le_of_ble_eq_true rfl) (Nat.le_of_ble_eq_true rfl) hL ⟨rfl, hB9, hq_Scall hq_S0 hS9 (by omega) (by omega)⟩ d_X_disturb_18
def f_X_take (z : sNd) : sNd := (sNd.mk z.st z.was z.se z.he z.lo z.ma z.va z.sp z.dr z.pf z.ss z.on z.ro z.w (f_Fr_remove z.i 0).1 z.d z.k z.r)
set_option maxHeartbeats 4000000 in
set_option maxRecDepth 100000 in
theorem c_X_take (l : Launch) (D : va_G) (cI cZ cN cJ : ClassId) (lo : Nat) (x n k : Nat) (u : sBu) (hlo : lo ≤ x) (hn : n ≤ 4) (ok : okB n k u) (j : Nat) (hj : j < n) (hi : 0 < (u.1 j).i.k) : hq_M l y_X_take b_X_take 3 (some .int) TB { frames := 3, cells := 0, slots := 0, locals := 80 } lo D vwCl (TY cI cZ cN cJ) [.ref (x), .int (nI j)] (fun U => BuP D cI cZ cN x n u U.heap) (fun H v H' => v = some (.int (f_Fr_remove (u.1 j).i 0).2) ∧ BuP D cI cZ cN x n (setB u j (f_X_take (u.1 j))) H' ∧ hq_S x (4 + 10 * n) H H') := by
  refine hq_ofW (by decide) (Nat.le_of_ble_eq_true rfl) ?_
  intro p e s m below meth c ls C hml hret hlk hnm hl hP
  have hL : hq_L lo [] := hq_L0
  have hl : lv_has ls 3 [(0, .ref (x)), (1, .int (nI j))] := hl
  have hB : BuP D cI cZ cN x n u s.heap := hP
  obtain ⟨b, hb⟩ : ∃ b, b = x + 4 + 10 * j := ⟨_, rfl⟩
  have k0 : va_at D vwCl (x, .inr (5, [.ref (x + 3), .ref (x + 1), .ref (x + 2)])) s.heap := hB.1 0 (by decide)
  have kz : NdP D cI cZ b (u.1 j) s.heap := by rw [hb]; exact hB.2 j hj
  refine lv_aload_n C.1 C.2.1 d_X_take_0 rfl (lv_at hl 0 rfl) ?_
  refine lv_iload_n C.1 C.2.1 d_X_take_1 rfl (lv_at hl 1 rfl) ?_
  refine hq_callV (lo := lo) (As := [.int (nI j)]) (rest := []) C tb_good hml Y_X_32 (c_nodeOf l D cI cZ cN cJ lo x n j (fun i => nOf (u.1 i)) (fun i => rOf (u.1 i)) u.2.1 u.2.2 hn hj) k0 rfl (fun _ _ _ _ h => h) (fun U hU hW => by show busP D cI cZ cN x n (fun i => nOf (u.1 i)) (fun i => rOf (u.1 i)) u.2.1 u.2.2 U.heap; rw [hU]; exact bus_to hB) hL hl.1 rfl rfl ⟨⟨Nat.le_of_ble_eq_true rfl, Nat.le_of_ble_eq_true rfl⟩, Nat.le_of_ble_eq_true rfl, Nat.le_of_ble_eq_true rfl⟩ (Nat.le_of_ble_eq_true rfl) d_X_take_2 (fun v H41 locs hp hL => ?_)
  obtain ⟨rfl, rfl⟩ := hp
  rw [← hb]
  refine W.eq (g2 := F0 m 5 ls [.ref (b)]) rfl ?_
  refine lv_astore_n C.1 C.2.1 d_X_take_5 rfl hl (by decide) rfl (lv' := [(2, .ref (b)), (0, .ref (x)), (1, .int (nI j))]) (fun ls hl => ?_)
  refine lv_aload_n C.1 C.2.1 d_X_take_6 rfl (lv_at hl 0 rfl) ?_
  refine hq_get (v := .ref (b + 3)) C f_X_106 kz.1 rfl d_X_take_7 ?_
  refine hq_get (v := .int (nI (u.1 j).i.k)) C f_X_74 kz.2.2.1.1 rfl d_X_take_10 ?_
  refine lv_if_ne (tgt := 26) C.1 C.2.1 d_X_take_13 (by decide) (fun _ => ?_) (fun hn => absurd hn (nI_ne0 hi (by have := (ok.1 j hj).2.1; omega)))
  refine lv_aload_n C.1 C.2.1 d_X_take_26 rfl (lv_at hl 0 rfl) ?_
  refine hq_get (v := .ref (b + 3)) C f_X_106 kz.1 rfl d_X_take_27 ?_
  refine lv_iconst (v := 0) C.1 C.2.1 d_X_take_30 (by decide) ?_
  refine hq_callV (lo := lo) (As := [.int (0)]) (rest := []) C tb_good hml Y_X_116 (c_Fr_remove l D cI cZ cN cJ lo (b + 3) (by omega) (u.1 j).i (ok.1 j hj).2.1 0) kz.2.2.1.1 rfl (fun _ _ _ _ h => h) (fun U hU hW => by show FrP D cI (b + 3) (u.1 j).i U.heap; rw [hU]; exact kz.2.2.1) hL hl.1 rfl rfl ⟨⟨Nat.le_of_ble_eq_true rfl, Nat.le_of_ble_eq_true rfl⟩, Nat.le_of_ble_eq_true rfl, Nat.le_of_ble_eq_true rfl⟩ (Nat.le_of_ble_eq_true rfl) d_X_take_31 (fun v H42 locs hp hL => ?_)
  obtain ⟨rfl, kd, Sd⟩ := hp
  refine W.eq (g2 := F0 m 34 ls [.int ((f_Fr_remove (u.1 j).i 0).2)]) rfl ?_
  have k43 := hq_as kz.1 Sd (by omega)
  have k44 := hq_as kz.2.1.1 Sd (by omega)
  have k45 := hq_as kz.2.1.2 Sd (by omega)
  have k46 := hq_as kz.2.2.2.1.1 Sd (by omega)
  have k47 := hq_as kz.2.2.2.1.2 Sd (by omega)
  have k48 := hq_as kz.2.2.2.2.1.1 Sd (by omega)
  have k49 := hq_as kz.2.2.2.2.1.2 Sd (by omega)
  have k50 := hq_as kz.2.2.2.2.2 Sd (by omega)
  have hS9 : hq_S b 10 s.heap _ := hq_Scall (hq_S0) Sd (by omega) (by omega)
  rw [hb] at hS9
  have hB9 := BuP_set (z := f_X_take (u.1 j)) hB (show NdP D cI cZ (x + 4 + 10 * j) (f_X_take (u.1 j)) _ from by rw [← hb]; exact ⟨k43, ⟨k44, k45⟩, ⟨kd.1, kd.2⟩, ⟨k46, k47⟩, ⟨k48, k49⟩, k50⟩) hS9
  exact hq_iret C hret hlk (Nat.le_of_ble_eq_true rfl) (Nat.le_of_ble_eq_true rfl) hL ⟨rfl, hB9, hq_Scall hq_S0 hS9 (by omega) (by omega)⟩ d_X_take_34
