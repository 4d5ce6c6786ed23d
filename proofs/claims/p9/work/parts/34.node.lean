/-! A node, as functions. -/
abbrev sNd := Int32 × Int32 × Int32 × Int32 × Int32 × Int32 × Int32 × Int32 × Int32 × Int32 × Int32 × Int32 × Int32 × sFr × sFr × sDi × sCo × sRe
abbrev sNd.st (z : sNd) : Int32 := z.1
abbrev sNd.was (z : sNd) : Int32 := z.2.1
abbrev sNd.se (z : sNd) : Int32 := z.2.2.1
abbrev sNd.he (z : sNd) : Int32 := z.2.2.2.1
abbrev sNd.lo (z : sNd) : Int32 := z.2.2.2.2.1
abbrev sNd.ma (z : sNd) : Int32 := z.2.2.2.2.2.1
abbrev sNd.va (z : sNd) : Int32 := z.2.2.2.2.2.2.1
abbrev sNd.sp (z : sNd) : Int32 := z.2.2.2.2.2.2.2.1
abbrev sNd.dr (z : sNd) : Int32 := z.2.2.2.2.2.2.2.2.1
abbrev sNd.pf (z : sNd) : Int32 := z.2.2.2.2.2.2.2.2.2.1
abbrev sNd.ss (z : sNd) : Int32 := z.2.2.2.2.2.2.2.2.2.2.1
abbrev sNd.on (z : sNd) : Int32 := z.2.2.2.2.2.2.2.2.2.2.2.1
abbrev sNd.ro (z : sNd) : Int32 := z.2.2.2.2.2.2.2.2.2.2.2.2.1
abbrev sNd.w (z : sNd) : sFr := z.2.2.2.2.2.2.2.2.2.2.2.2.2.1
abbrev sNd.i (z : sNd) : sFr := z.2.2.2.2.2.2.2.2.2.2.2.2.2.2.1
abbrev sNd.d (z : sNd) : sDi := z.2.2.2.2.2.2.2.2.2.2.2.2.2.2.2.1
abbrev sNd.k (z : sNd) : sCo := z.2.2.2.2.2.2.2.2.2.2.2.2.2.2.2.2.1
abbrev sNd.r (z : sNd) : sRe := z.2.2.2.2.2.2.2.2.2.2.2.2.2.2.2.2.2
abbrev sNd.mk (st was se he lo ma va sp dr pf ss on ro : Int32) (w i : sFr) (d : sDi) (k : sCo) (r : sRe) : sNd := (st, was, se, he, lo, ma, va, sp, dr, pf, ss, on, ro, w, i, d, k, r)
abbrev cNo (b : Nat) (z : sNd) : va_E := .inr (3, [.ref (b + 1), .ref (b + 3), .ref (b + 5), .ref (b + 7), .ref (b + 9), .int (z.st), .int (z.was), .int (z.se), .int (z.he), .int (z.lo), .int (z.ma), .int (z.va), .int (z.sp), .int (z.dr), .int (z.pf), .int (z.ss), .int (z.on), .int (z.ro)])
def NdP (D : va_G) (cI cZ : ClassId) (b : Nat) (z : sNd) (H : Heap) : Prop := va_at D vwCl (b, cNo b z) H ∧ FrP D cI (b + 1) z.w H ∧ FrP D cI (b + 3) z.i H ∧ DiP D cZ (b + 5) z.d H ∧ CoP D cI (b + 7) z.k H ∧ va_at D vwCl (b + 9, cRe z.r) H
def okNd (z : sNd) : Prop := z.w.k ≤ 4 ∧ z.i.k ≤ 4 ∧ okDi z.d ∧ z.k.len ≤ 50
def f_Ma_min (x y : Int32) : Int32 := if y < x then (y) else (x)
set_option maxHeartbeats 4000000 in
set_option maxRecDepth 100000 in
theorem c_Ma_min (l : Launch) (D : va_G) (cI cZ cN cJ : ClassId) (lo : Nat)  (x y : Int32) : hq_M l y_Ma_min b_Ma_min 2 (some .int) TB { frames := 0, cells := 0, slots := 0, locals := 0 } lo D vwCl (TY cI cZ cN cJ) [.int (x), .int (y)] (fun _ => True) (fun H v H' => v = some (.int (f_Ma_min x y)) ∧ H' = H) := by
  refine hq_ofWF (by decide +kernel) (Nat.le_of_ble_eq_true rfl) ?_
  intro p e s m below meth c ls C hml hret hlk hnm hl hP
  have hL : hq_L lo [] := hq_L0
  have hl : lv_has ls 2 [(0, .int (x)), (1, .int (y))] := hl
  refine lv_iload_n C.1 C.2.1 d_Ma_min_0 rfl (lv_at hl 0 rfl) ?_
  refine lv_iload_n C.1 C.2.1 d_Ma_min_1 rfl (lv_at hl 1 rfl) ?_
  refine lv_icmp_gt (tgt := 9) C.1 C.2.1 d_Ma_min_2 (by decide) ?_ ?_
  · intro c41
    refine lv_iload_n C.1 C.2.1 d_Ma_min_9 rfl (lv_at hl 1 rfl) ?_
    have hf : f_Ma_min x y = y := by unfold f_Ma_min; rw [if_pos c41]
    exact hq_iret C hret hlk (Nat.le_of_ble_eq_true rfl) (Nat.le_of_ble_eq_true rfl) hL ⟨by rw [hf], rfl⟩ d_Ma_min_10
  · intro c41
    refine lv_iload_n C.1 C.2.1 d_Ma_min_5 rfl (lv_at hl 0 rfl) ?_
    refine lv_goto (tgt := 10) C.1 C.2.1 d_Ma_min_6 (by decide) ?_
    have hf : f_Ma_min x y = x := by unfold f_Ma_min; rw [if_neg c41]
    exact hq_iret C hret hlk (Nat.le_of_ble_eq_true rfl) (Nat.le_of_ble_eq_true rfl) hL ⟨by rw [hf], rfl⟩ d_Ma_min_10
theorem write_len (k : sCo) (x : Int32) : (f_Co_write k x).len ≤ 50 := by
  have h0 : sCo.len (k.bits, 0, 0) ≤ 50 := Nat.zero_le 50
  unfold f_Co_write
  split
  · exact append_len _ _ _ (append_len _ _ _ (append_len _ _ _ (append_len _ _ _ (append_len _ _ _ h0))))
  · split
    · exact append_len _ _ _ (append_len _ _ _ (append_len _ _ _ (append_len _ _ _ (append_len _ _ _ (append_len _ _ _ h0)))))
    · exact append_len _ _ _ (append_len _ _ _ (append_len _ _ _ (append_len _ _ _ (append_len _ _ _ (append_len _ _ _ (append_len _ _ _ h0))))))
def f_No_isPassive (z : sNd) : Int32 := if 127 < z.se then ((1 : Int32)) else (if z.he ≤ 127 then ((0 : Int32)) else ((1 : Int32)))
set_option maxHeartbeats 4000000 in
set_option maxRecDepth 100000 in
theorem c_No_isPassive (l : Launch) (D : va_G) (cI cZ cN cJ : ClassId) (lo : Nat) (b : Nat) (z : sNd) : hq_M l y_No_isPassive b_No_isPassive 1 (some .boolean) TB { frames := 0, cells := 0, slots := 0, locals := 0 } lo D vwCl (TY cI cZ cN cJ) [.ref (b)] (fun U => NdP D cI cZ b z U.heap) (fun H v H' => v = some (.int (f_No_isPassive z)) ∧ H' = H) := by
  refine hq_ofW (by decide) (Nat.le_of_ble_eq_true rfl) ?_
  intro p e s m below meth c ls C hml hret hlk hnm hl hP
  have hL : hq_L lo [] := hq_L0
  have hl : lv_has ls 1 [(0, .ref (b))] := hl
  have kz := hP
  refine lv_aload_n C.1 C.2.1 d_No_isPassive_0 rfl (lv_at hl 0 rfl) ?_
  refine hq_get (v := .int (z.se)) C f_No_49 kz.1 rfl d_No_isPassive_1 ?_
  refine lv_bipush (v := 127) C.1 C.2.1 d_No_isPassive_4 (by decide) ?_
  refine lv_icmp_gt (tgt := 18) C.1 C.2.1 d_No_isPassive_6 (by decide) ?_ ?_
  · intro c41
    refine lv_iconst (v := 1) C.1 C.2.1 d_No_isPassive_18 (by decide) ?_
    refine lv_goto (tgt := 23) C.1 C.2.1 d_No_isPassive_19 (by decide) ?_
    have hf : f_No_isPassive z = (1 : Int32) := by unfold f_No_isPassive; rw [if_pos c41]
    exact hq_zret C hret hlk (by decide) (Nat.le_of_ble_eq_true rfl) (Nat.le_of_ble_eq_true rfl) hL ⟨by rw [hf], rfl⟩ d_No_isPassive_23
  · intro c41
    refine lv_aload_n C.1 C.2.1 d_No_isPassive_9 rfl (lv_at hl 0 rfl) ?_
    refine hq_get (v := .int (z.he)) C f_No_52 kz.1 rfl d_No_isPassive_10 ?_
    refine lv_bipush (v := 127) C.1 C.2.1 d_No_isPassive_13 (by decide) ?_
    refine lv_icmp_le (tgt := 22) C.1 C.2.1 d_No_isPassive_15 (by decide) ?_ ?_
    · intro c42
      refine lv_iconst (v := 0) C.1 C.2.1 d_No_isPassive_22 (by decide) ?_
      have hf : f_No_isPassive z = (0 : Int32) := by unfold f_No_isPassive; rw [if_neg c41, if_pos c42]
      exact hq_zret C hret hlk (by decide) (Nat.le_of_ble_eq_true rfl) (Nat.le_of_ble_eq_true rfl) hL ⟨by rw [hf], rfl⟩ d_No_isPassive_23
    · intro c42
      refine lv_iconst (v := 1) C.1 C.2.1 d_No_isPassive_18 (by decide) ?_
      refine lv_goto (tgt := 23) C.1 C.2.1 d_No_isPassive_19 (by decide) ?_
      have hf : f_No_isPassive z = (1 : Int32) := by unfold f_No_isPassive; rw [if_neg c41, if_neg c42]
      exact hq_zret C hret hlk (by decide) (Nat.le_of_ble_eq_true rfl) (Nat.le_of_ble_eq_true rfl) hL ⟨by rw [hf], rfl⟩ d_No_isPassive_23
theorem isPassive01 (z : sNd) : f_No_isPassive z = 0 ∨ f_No_isPassive z = 1 := by
  unfold f_No_isPassive
  split
  · exact Or.inr rfl
  · split
    · exact Or.inl rfl
    · exact Or.inr rfl
def f_No_beginFlag (z : sNd) (x : Int32) : sNd := (sNd.mk 3 z.was z.se z.he z.lo z.ma z.va z.sp z.dr x 0 z.on z.ro z.w z.i z.d z.k z.r)
set_option maxHeartbeats 4000000 in
set_option maxRecDepth 100000 in
theorem c_No_beginFlag (l : Launch) (D : va_G) (cI cZ cN cJ : ClassId) (lo : Nat) (b : Nat) (hlo : lo ≤ b) (z : sNd) (x : Int32) (hx : x = 0 ∨ x = 1) : hq_M l y_No_beginFlag b_No_beginFlag 2 none TB { frames := 0, cells := 0, slots := 0, locals := 0 } lo D vwCl (TY cI cZ cN cJ) [.ref (b), .int (x)] (fun U => NdP D cI cZ b z U.heap) (fun H v H' => v = none ∧ NdP D cI cZ b (f_No_beginFlag z x) H' ∧ hq_S b 10 H H') := by
  refine hq_ofW (by decide) (Nat.le_of_ble_eq_true rfl) ?_
  intro p e s m below meth c ls C hml hret hlk hnm hl hP
  have hL : hq_L lo [] := hq_L0
  have hl : lv_has ls 2 [(0, .ref (b)), (1, .int (x))] := hl
  have kz := hP
  refine lv_aload_n C.1 C.2.1 d_No_beginFlag_0 rfl (lv_at hl 0 rfl) ?_
  refine lv_iload_n C.1 C.2.1 d_No_beginFlag_1 rfl (lv_at hl 1 rfl) ?_
  refine hq_put (lo := lo) C f_No_70 kz.1 (nar01 hx) (by rcases hx with rfl | rfl <;> rfl) (Nat.le_of_ble_eq_true rfl) hL (by omega) d_No_beginFlag_2 (fun H41 locs u42 hL => ?_)
  have k43 : va_at D vwCl (b, .inr (3, [.ref (b + 1), .ref (b + 3), .ref (b + 5), .ref (b + 7), .ref (b + 9), .int (z.st), .int (z.was), .int (z.se), .int (z.he), .int (z.lo), .int (z.ma), .int (z.va), .int (z.sp), .int (z.dr), .int (x), .int (z.ss), .int (z.on), .int (z.ro)])) H41 := u42.2.2
  refine lv_aload_n C.1 C.2.1 d_No_beginFlag_5 rfl (lv_at hl 0 rfl) ?_
  refine lv_iconst (v := 3) C.1 C.2.1 d_No_beginFlag_6 (by decide) ?_
  refine hq_put (lo := lo) C f_No_42 k43 rfl rfl (Nat.le_of_ble_eq_true rfl) hL (by omega) d_No_beginFlag_7 (fun H44 locs u45 hL => ?_)
  have k46 : va_at D vwCl (b, .inr (3, [.ref (b + 1), .ref (b + 3), .ref (b + 5), .ref (b + 7), .ref (b + 9), .int (3), .int (z.was), .int (z.se), .int (z.he), .int (z.lo), .int (z.ma), .int (z.va), .int (z.sp), .int (z.dr), .int (x), .int (z.ss), .int (z.on), .int (z.ro)])) H44 := u45.2.2
  refine lv_aload_n C.1 C.2.1 d_No_beginFlag_10 rfl (lv_at hl 0 rfl) ?_
  refine lv_iconst (v := 0) C.1 C.2.1 d_No_beginFlag_11 (by decide) ?_
  refine hq_put (lo := lo) C f_No_74 k46 rfl rfl (Nat.le_of_ble_eq_true rfl) hL (by omega) d_No_beginFlag_12 (fun H47 locs u48 hL => ?_)
  have k49 : va_at D vwCl (b, .inr (3, [.ref (b + 1), .ref (b + 3), .ref (b + 5), .ref (b + 7), .ref (b + 9), .int (3), .int (z.was), .int (z.se), .int (z.he), .int (z.lo), .int (z.ma), .int (z.va), .int (z.sp), .int (z.dr), .int (x), .int (0), .int (z.on), .int (z.ro)])) H47 := u48.2.2
  have hf : f_No_beginFlag z x = (sNd.mk 3 z.was z.se z.he z.lo z.ma z.va z.sp z.dr x 0 z.on z.ro z.w z.i z.d z.k z.r) := rfl
  have k50 := hq_au (hq_au (hq_au kz.2.1.1 u42 (by omega)) u45 (by omega)) u48 (by omega)
  have k51 := hq_au (hq_au (hq_au kz.2.1.2 u42 (by omega)) u45 (by omega)) u48 (by omega)
  have k52 := hq_au (hq_au (hq_au kz.2.2.1.1 u42 (by omega)) u45 (by omega)) u48 (by omega)
  have k53 := hq_au (hq_au (hq_au kz.2.2.1.2 u42 (by omega)) u45 (by omega)) u48 (by omega)
  have k54 := hq_au (hq_au (hq_au kz.2.2.2.1.1 u42 (by omega)) u45 (by omega)) u48 (by omega)
  have k55 := hq_au (hq_au (hq_au kz.2.2.2.1.2 u42 (by omega)) u45 (by omega)) u48 (by omega)
  have k56 := hq_au (hq_au (hq_au kz.2.2.2.2.1.1 u42 (by omega)) u45 (by omega)) u48 (by omega)
  have k57 := hq_au (hq_au (hq_au kz.2.2.2.2.1.2 u42 (by omega)) u45 (by omega)) u48 (by omega)
  have k58 := hq_au (hq_au (hq_au kz.2.2.2.2.2 u42 (by omega)) u45 (by omega)) u48 (by omega)
  exact hq_vret C hret hlk (Nat.le_of_ble_eq_true rfl) (Nat.le_of_ble_eq_true rfl) hL ⟨rfl, by rw [hf]; exact ⟨k49, ⟨k50, k51⟩, ⟨k52, k53⟩, ⟨k54, k55⟩, ⟨k56, k57⟩, k58⟩, hq_Sput (hq_Sput (hq_Sput (hq_S0) u42 (by omega) (by omega)) u45 (by omega) (by omega)) u48 (by omega) (by omega)⟩ d_No_beginFlag_15
def f_No_goOffIfTooMany (z : sNd) : sNd := if z.se ≤ 255 then (z) else ((sNd.mk 7 z.was z.se z.he z.lo z.ma z.va z.sp z.dr z.pf z.ss 0 0 (⟨z.w.row, 0⟩ : sFr) z.i z.d z.k z.r))
set_option maxHeartbeats 4000000 in
set_option maxRecDepth 100000 in
theorem c_No_goOffIfTooMany (l : Launch) (D : va_G) (cI cZ cN cJ : ClassId) (lo : Nat) (b : Nat) (hlo : lo ≤ b) (z : sNd) : hq_M l y_No_goOffIfTooMany b_No_goOffIfTooMany 1 none TB { frames := 0, cells := 0, slots := 0, locals := 0 } lo D vwCl (TY cI cZ cN cJ) [.ref (b)] (fun U => NdP D cI cZ b z U.heap) (fun H v H' => v = none ∧ NdP D cI cZ b (f_No_goOffIfTooMany z) H' ∧ hq_S b 10 H H') := by
  refine hq_ofW (by decide) (Nat.le_of_ble_eq_true rfl) ?_
  intro p e s m below meth c ls C hml hret hlk hnm hl hP
  have hL : hq_L lo [] := hq_L0
  have hl : lv_has ls 1 [(0, .ref (b))] := hl
  have kz := hP
  refine lv_aload_n C.1 C.2.1 d_No_goOffIfTooMany_0 rfl (lv_at hl 0 rfl) ?_
  refine hq_get (v := .int (z.se)) C f_No_49 kz.1 rfl d_No_goOffIfTooMany_1 ?_
  refine lv_sipush (v := 255) C.1 C.2.1 d_No_goOffIfTooMany_4 (by decide) ?_
  refine lv_icmp_le (tgt := 34) C.1 C.2.1 d_No_goOffIfTooMany_7 (by decide) ?_ ?_
  · intro c41
    have hf : f_No_goOffIfTooMany z = z := by unfold f_No_goOffIfTooMany; rw [if_pos c41]
    exact hq_vret C hret hlk (Nat.le_of_ble_eq_true rfl) (Nat.le_of_ble_eq_true rfl) hL ⟨rfl, by rw [hf]; exact kz, hq_S0⟩ d_No_goOffIfTooMany_34
  · intro c41
    refine lv_aload_n C.1 C.2.1 d_No_goOffIfTooMany_10 rfl (lv_at hl 0 rfl) ?_
    refine lv_bipush (v := 7) C.1 C.2.1 d_No_goOffIfTooMany_11 (by decide) ?_
    refine hq_put (lo := lo) C f_No_42 kz.1 rfl rfl (Nat.le_of_ble_eq_true rfl) hL (by omega) d_No_goOffIfTooMany_13 (fun H42 locs u43 hL => ?_)
    have k44 : va_at D vwCl (b, .inr (3, [.ref (b + 1), .ref (b + 3), .ref (b + 5), .ref (b + 7), .ref (b + 9), .int (7), .int (z.was), .int (z.se), .int (z.he), .int (z.lo), .int (z.ma), .int (z.va), .int (z.sp), .int (z.dr), .int (z.pf), .int (z.ss), .int (z.on), .int (z.ro)])) H42 := u43.2.2
    refine lv_aload_n C.1 C.2.1 d_No_goOffIfTooMany_16 rfl (lv_at hl 0 rfl) ?_
    refine hq_get (v := .ref (b + 1)) C f_No_12 k44 rfl d_No_goOffIfTooMany_17 ?_
    refine lv_iconst (v := 0) C.1 C.2.1 d_No_goOffIfTooMany_20 (by decide) ?_
    have k45 := hq_au kz.2.1.1 u43 (by omega)
    refine hq_put (lo := lo) C f_No_83 k45 rfl rfl (Nat.le_of_ble_eq_true rfl) hL (by omega) d_No_goOffIfTooMany_21 (fun H46 locs u47 hL => ?_)
    have k48 : va_at D vwCl (b + 1, .inr (2, [.ref (b + 1 + 1), .int (0)])) H46 := u47.2.2
    refine lv_aload_n C.1 C.2.1 d_No_goOffIfTooMany_24 rfl (lv_at hl 0 rfl) ?_
    refine lv_iconst (v := 0) C.1 C.2.1 d_No_goOffIfTooMany_25 (by decide) ?_
    have k49 := hq_au k44 u47 (by omega)
    refine hq_put (lo := lo) C f_No_77 k49 rfl rfl (Nat.le_of_ble_eq_true rfl) hL (by omega) d_No_goOffIfTooMany_26 (fun H50 locs u51 hL => ?_)
    have k52 : va_at D vwCl (b, .inr (3, [.ref (b + 1), .ref (b + 3), .ref (b + 5), .ref (b + 7), .ref (b + 9), .int (7), .int (z.was), .int (z.se), .int (z.he), .int (z.lo), .int (z.ma), .int (z.va), .int (z.sp), .int (z.dr), .int (z.pf), .int (z.ss), .int (0), .int (z.ro)])) H50 := u51.2.2
    refine lv_aload_n C.1 C.2.1 d_No_goOffIfTooMany_29 rfl (lv_at hl 0 rfl) ?_
    refine lv_iconst (v := 0) C.1 C.2.1 d_No_goOffIfTooMany_30 (by decide) ?_
    refine hq_put (lo := lo) C f_No_80 k52 rfl rfl (Nat.le_of_ble_eq_true rfl) hL (by omega) d_No_goOffIfTooMany_31 (fun H53 locs u54 hL => ?_)
    have k55 : va_at D vwCl (b, .inr (3, [.ref (b + 1), .ref (b + 3), .ref (b + 5), .ref (b + 7), .ref (b + 9), .int (7), .int (z.was), .int (z.se), .int (z.he), .int (z.lo), .int (z.ma), .int (z.va), .int (z.sp), .int (z.dr), .int (z.pf), .int (z.ss), .int (0), .int (0)])) H53 := u54.2.2
    have hf : f_No_goOffIfTooMany z = (sNd.mk 7 z.was z.se z.he z.lo z.ma z.va z.sp z.dr z.pf z.ss 0 0 (⟨z.w.row, 0⟩ : sFr) z.i z.d z.k z.r) := by unfold f_No_goOffIfTooMany; rw [if_neg c41]
    have k56 := hq_au (hq_au k48 u51 (by omega)) u54 (by omega)
    have k57 := hq_au (hq_au (hq_au (hq_au kz.2.1.2 u43 (by omega)) u47 (by omega)) u51 (by omega)) u54 (by omega)
    have k58 := hq_au (hq_au (hq_au (hq_au kz.2.2.1.1 u43 (by omega)) u47 (by omega)) u51 (by omega)) u54 (by omega)
    have k59 := hq_au (hq_au (hq_au (hq_au kz.2.2.1.2 u43 (by omega)) u47 (by omega)) u51 (by omega)) u54 (by omega)
    have k60 := hq_au (hq_au (hq_au (hq_au kz.2.2.2.1.1 u43 (by omega)) u47 (by omega)) u51 (by omega)) u54 (by omega)
    have k61 := hq_au (hq_au (hq_au (hq_au kz.2.2.2.1.2 u43 (by omega)) u47 (by omega)) u51 (by omega)) u54 (by omega)
    have k62 := hq_au (hq_au (hq_au (hq_au kz.2.2.2.2.1.1 u43 (by omega)) u47 (by omega)) u51 (by omega)) u54 (by omega)
    have k63 := hq_au (hq_au (hq_au (hq_au kz.2.2.2.2.1.2 u43 (by omega)) u47 (by omega)) u51 (by omega)) u54 (by omega)
    have k64 := hq_au (hq_au (hq_au (hq_au kz.2.2.2.2.2 u43 (by omega)) u47 (by omega)) u51 (by omega)) u54 (by omega)
    exact hq_vret C hret hlk (Nat.le_of_ble_eq_true rfl) (Nat.le_of_ble_eq_true rfl) hL ⟨rfl, by rw [hf]; exact ⟨k55, ⟨k56, k57⟩, ⟨k58, k59⟩, ⟨k60, k61⟩, ⟨k62, k63⟩, k64⟩, hq_Sput (hq_Sput (hq_Sput (hq_Sput (hq_S0) u43 (by omega) (by omega)) u47 (by omega) (by omega)) u51 (by omega) (by omega)) u54 (by omega) (by omega)⟩ d_No_goOffIfTooMany_34
def f_No_beginPause (z : sNd) : sNd := (sNd.mk 5 z.was z.se z.he z.lo z.ma z.va z.sp z.dr z.pf 0 z.on z.ro z.w z.i z.d z.k z.r)
set_option maxHeartbeats 4000000 in
set_option maxRecDepth 100000 in
theorem c_No_beginPause (l : Launch) (D : va_G) (cI cZ cN cJ : ClassId) (lo : Nat) (b : Nat) (hlo : lo ≤ b) (z : sNd) : hq_M l y_No_beginPause b_No_beginPause 1 none TB { frames := 0, cells := 0, slots := 0, locals := 0 } lo D vwCl (TY cI cZ cN cJ) [.ref (b)] (fun U => NdP D cI cZ b z U.heap) (fun H v H' => v = none ∧ NdP D cI cZ b (f_No_beginPause z) H' ∧ hq_S b 10 H H') := by
  refine hq_ofW (by decide) (Nat.le_of_ble_eq_true rfl) ?_
  intro p e s m below meth c ls C hml hret hlk hnm hl hP
  have hL : hq_L lo [] := hq_L0
  have hl : lv_has ls 1 [(0, .ref (b))] := hl
  have kz := hP
  refine lv_aload_n C.1 C.2.1 d_No_beginPause_0 rfl (lv_at hl 0 rfl) ?_
  refine lv_iconst (v := 5) C.1 C.2.1 d_No_beginPause_1 (by decide) ?_
  refine hq_put (lo := lo) C f_No_42 kz.1 rfl rfl (Nat.le_of_ble_eq_true rfl) hL (by omega) d_No_beginPause_2 (fun H41 locs u42 hL => ?_)
  have k43 : va_at D vwCl (b, .inr (3, [.ref (b + 1), .ref (b + 3), .ref (b + 5), .ref (b + 7), .ref (b + 9), .int (5), .int (z.was), .int (z.se), .int (z.he), .int (z.lo), .int (z.ma), .int (z.va), .int (z.sp), .int (z.dr), .int (z.pf), .int (z.ss), .int (z.on), .int (z.ro)])) H41 := u42.2.2
  refine lv_aload_n C.1 C.2.1 d_No_beginPause_5 rfl (lv_at hl 0 rfl) ?_
  refine lv_iconst (v := 0) C.1 C.2.1 d_No_beginPause_6 (by decide) ?_
  refine hq_put (lo := lo) C f_No_74 k43 rfl rfl (Nat.le_of_ble_eq_true rfl) hL (by omega) d_No_beginPause_7 (fun H44 locs u45 hL => ?_)
  have k46 : va_at D vwCl (b, .inr (3, [.ref (b + 1), .ref (b + 3), .ref (b + 5), .ref (b + 7), .ref (b + 9), .int (5), .int (z.was), .int (z.se), .int (z.he), .int (z.lo), .int (z.ma), .int (z.va), .int (z.sp), .int (z.dr), .int (z.pf), .int (0), .int (z.on), .int (z.ro)])) H44 := u45.2.2
  have hf : f_No_beginPause z = (sNd.mk 5 z.was z.se z.he z.lo z.ma z.va z.sp z.dr z.pf 0 z.on z.ro z.w z.i z.d z.k z.r) := rfl
  have k47 := hq_au (hq_au kz.2.1.1 u42 (by omega)) u45 (by omega)
  have k48 := hq_au (hq_au kz.2.1.2 u42 (by omega)) u45 (by omega)
  have k49 := hq_au (hq_au kz.2.2.1.1 u42 (by omega)) u45 (by omega)
  have k50 := hq_au (hq_au kz.2.2.1.2 u42 (by omega)) u45 (by omega)
  have k51 := hq_au (hq_au kz.2.2.2.1.1 u42 (by omega)) u45 (by omega)
  have k52 := hq_au (hq_au kz.2.2.2.1.2 u42 (by omega)) u45 (by omega)
  have k53 := hq_au (hq_au kz.2.2.2.2.1.1 u42 (by omega)) u45 (by omega)
  have k54 := hq_au (hq_au kz.2.2.2.2.1.2 u42 (by omega)) u45 (by omega)
  have k55 := hq_au (hq_au kz.2.2.2.2.2 u42 (by omega)) u45 (by omega)
  exact hq_vret C hret hlk (Nat.le_of_ble_eq_true rfl) (Nat.le_of_ble_eq_true rfl) hL ⟨rfl, by rw [hf]; exact ⟨k46, ⟨k47, k48⟩, ⟨k49, k50⟩, ⟨k51, k52⟩, ⟨k53, k54⟩, k55⟩, hq_Sput (hq_Sput (hq_S0) u42 (by omega) (by omega)) u45 (by omega) (by omega)⟩ d_No_beginPause_10
def f_No_overload (z : sNd) : sNd × Int32 := ((f_No_beginFlag (sNd.mk z.st 0 z.se z.he z.lo z.ma z.va z.sp z.dr z.pf z.ss z.on z.ro z.w z.i z.d z.k z.r) 0), 7)
set_option maxHeartbeats 4000000 in
set_option maxRecDepth 100000 in
theorem c_No_overload (l : Launch) (D : va_G) (cI cZ cN cJ : ClassId) (lo : Nat) (b : Nat) (hlo : lo ≤ b) (z : sNd) : hq_M l y_No_overload b_No_overload 1 (some .int) TB { frames := 1, cells := 0, slots := 0, locals := 21 } lo D vwCl (TY cI cZ cN cJ) [.ref (b)] (fun U => NdP D cI cZ b z U.heap) (fun H v H' => v = some (.int (f_No_overload z).2) ∧ NdP D cI cZ b (f_No_overload z).1 H' ∧ hq_S b 10 H H') := by
  refine hq_ofW (by decide) (Nat.le_of_ble_eq_true rfl) ?_
  intro p e s m below meth c ls C hml hret hlk hnm hl hP
  have hL : hq_L lo [] := hq_L0
  have hl : lv_has ls 1 [(0, .ref (b))] := hl
  have kz := hP
  refine lv_aload_n C.1 C.2.1 d_No_overload_0 rfl (lv_at hl 0 rfl) ?_
  refine lv_iconst (v := 0) C.1 C.2.1 d_No_overload_1 (by decide) ?_
  refine hq_put (lo := lo) C f_No_46 kz.1 rfl rfl (Nat.le_of_ble_eq_true rfl) hL (by omega) d_No_overload_2 (fun H41 locs u42 hL => ?_)
  have k43 : va_at D vwCl (b, .inr (3, [.ref (b + 1), .ref (b + 3), .ref (b + 5), .ref (b + 7), .ref (b + 9), .int (z.st), .int (0), .int (z.se), .int (z.he), .int (z.lo), .int (z.ma), .int (z.va), .int (z.sp), .int (z.dr), .int (z.pf), .int (z.ss), .int (z.on), .int (z.ro)])) H41 := u42.2.2
  refine lv_aload_n C.1 C.2.1 d_No_overload_5 rfl (lv_at hl 0 rfl) ?_
  refine lv_iconst (v := 0) C.1 C.2.1 d_No_overload_6 (by decide) ?_
  have k44 := hq_au kz.2.1.1 u42 (by omega)
  have k45 := hq_au kz.2.1.2 u42 (by omega)
  have k46 := hq_au kz.2.2.1.1 u42 (by omega)
  have k47 := hq_au kz.2.2.1.2 u42 (by omega)
  have k48 := hq_au kz.2.2.2.1.1 u42 (by omega)
  have k49 := hq_au kz.2.2.2.1.2 u42 (by omega)
  have k50 := hq_au kz.2.2.2.2.1.1 u42 (by omega)
  have k51 := hq_au kz.2.2.2.2.1.2 u42 (by omega)
  have k52 := hq_au kz.2.2.2.2.2 u42 (by omega)
  refine hq_callV (lo := lo) (As := [.int (0)]) (rest := []) C tb_good hml Y_No_210 (c_No_beginFlag l D cI cZ cN cJ lo (b) (by omega) (sNd.mk z.st 0 z.se z.he z.lo z.ma z.va z.sp z.dr z.pf z.ss z.on z.ro z.w z.i z.d z.k z.r) 0 (Or.inl rfl)) k43 rfl (fun _ _ _ _ h => h) (fun U hU hW => by show NdP D cI cZ (b) (sNd.mk z.st 0 z.se z.he z.lo z.ma z.va z.sp z.dr z.pf z.ss z.on z.ro z.w z.i z.d z.k z.r) U.heap; rw [hU]; exact ⟨k43, ⟨k44, k45⟩, ⟨k46, k47⟩, ⟨k48, k49⟩, ⟨k50, k51⟩, k52⟩) hL hl.1 rfl rfl ⟨⟨Nat.le_of_ble_eq_true rfl, Nat.le_of_ble_eq_true rfl⟩, Nat.le_of_ble_eq_true rfl, Nat.le_of_ble_eq_true rfl⟩ (Nat.le_of_ble_eq_true rfl) d_No_overload_7 (fun v H55 locs hp hL => ?_)
  obtain ⟨rfl, k54, S53⟩ := hp
  refine W.eq (g2 := F0 m 10 ls []) rfl ?_
  refine lv_bipush (v := 7) C.1 C.2.1 d_No_overload_10 (by decide) ?_
  have hf : f_No_overload z = ((f_No_beginFlag (sNd.mk z.st 0 z.se z.he z.lo z.ma z.va z.sp z.dr z.pf z.ss z.on z.ro z.w z.i z.d z.k z.r) 0), 7) := rfl
  exact hq_iret C hret hlk (Nat.le_of_ble_eq_true rfl) (Nat.le_of_ble_eq_true rfl) hL ⟨by rw [hf], by rw [hf]; exact k54, hq_Scall (hq_Sput (hq_S0) u42 (by omega) (by omega)) S53 (by omega) (by omega)⟩ d_No_overload_12
def f_No_countHeavily (z : sNd) : sNd := if z.was = 1 then ((f_No_goOffIfTooMany (sNd.mk z.st z.was (z.se + 8) z.he z.lo z.ma z.va z.sp z.dr z.pf z.ss z.on z.ro z.w z.i z.d z.k z.r))) else (if z.was = 2 then ((f_No_goOffIfTooMany (sNd.mk z.st z.was z.se (z.he + 8) z.lo z.ma z.va z.sp z.dr z.pf z.ss z.on z.ro z.w z.i z.d z.k z.r))) else ((f_No_goOffIfTooMany z)))
set_option maxHeartbeats 4000000 in
set_option maxRecDepth 100000 in
theorem c_No_countHeavily (l : Launch) (D : va_G) (cI cZ cN cJ : ClassId) (lo : Nat) (b : Nat) (hlo : lo ≤ b) (z : sNd) : hq_M l y_No_countHeavily b_No_countHeavily 1 none TB { frames := 1, cells := 0, slots := 0, locals := 20 } lo D vwCl (TY cI cZ cN cJ) [.ref (b)] (fun U => NdP D cI cZ b z U.heap) (fun H v H' => v = none ∧ NdP D cI cZ b (f_No_countHeavily z) H' ∧ hq_S b 10 H H') := by
  refine hq_ofW (by decide) (Nat.le_of_ble_eq_true rfl) ?_
  intro p e s m below meth c ls C hml hret hlk hnm hl hP
  have hL : hq_L lo [] := hq_L0
  have hl : lv_has ls 1 [(0, .ref (b))] := hl
  have kz := hP
  refine lv_aload_n C.1 C.2.1 d_No_countHeavily_0 rfl (lv_at hl 0 rfl) ?_
  refine hq_get (v := .int (z.was)) C f_No_46 kz.1 rfl d_No_countHeavily_1 ?_
  refine lv_iconst (v := 1) C.1 C.2.1 d_No_countHeavily_4 (by decide) ?_
  refine lv_icmp_ne (tgt := 22) C.1 C.2.1 d_No_countHeavily_5 (by decide) ?_ ?_
  · intro c41
    refine lv_aload_n C.1 C.2.1 d_No_countHeavily_22 rfl (lv_at hl 0 rfl) ?_
    refine hq_get (v := .int (z.was)) C f_No_46 kz.1 rfl d_No_countHeavily_23 ?_
    refine lv_iconst (v := 2) C.1 C.2.1 d_No_countHeavily_26 (by decide) ?_
    refine lv_icmp_ne (tgt := 41) C.1 C.2.1 d_No_countHeavily_27 (by decide) ?_ ?_
    · intro c42
      refine lv_aload_n C.1 C.2.1 d_No_countHeavily_41 rfl (lv_at hl 0 rfl) ?_
      refine hq_callV (lo := lo) (As := []) (rest := []) C tb_good hml Y_No_214 (c_No_goOffIfTooMany l D cI cZ cN cJ lo (b) (by omega) z) kz.1 rfl (fun _ _ _ _ h => h) (fun U hU hW => by show NdP D cI cZ (b) z U.heap; rw [hU]; exact kz) hL hl.1 rfl rfl ⟨⟨Nat.le_of_ble_eq_true rfl, Nat.le_of_ble_eq_true rfl⟩, Nat.le_of_ble_eq_true rfl, Nat.le_of_ble_eq_true rfl⟩ (Nat.le_of_ble_eq_true rfl) d_No_countHeavily_42 (fun v H45 locs hp hL => ?_)
      obtain ⟨rfl, k44, S43⟩ := hp
      refine W.eq (g2 := F0 m 45 ls []) rfl ?_
      have hf : f_No_countHeavily z = (f_No_goOffIfTooMany z) := by unfold f_No_countHeavily; rw [if_neg c41, if_neg c42]
      exact hq_vret C hret hlk (Nat.le_of_ble_eq_true rfl) (Nat.le_of_ble_eq_true rfl) hL ⟨rfl, by rw [hf]; exact k44, hq_Scall (hq_S0) S43 (by omega) (by omega)⟩ d_No_countHeavily_45
    · intro c42
      refine lv_aload_n C.1 C.2.1 d_No_countHeavily_30 rfl (lv_at hl 0 rfl) ?_
      refine lv_dup C.1 C.2.1 d_No_countHeavily_31 rfl ?_
      refine hq_get (v := .int (z.he)) C f_No_52 kz.1 rfl d_No_countHeavily_32 ?_
      refine lv_bipush (v := 8) C.1 C.2.1 d_No_countHeavily_35 (by decide) ?_
      refine lv_iadd C.1 C.2.1 d_No_countHeavily_37 ?_
      refine hq_put (lo := lo) C f_No_52 kz.1 rfl rfl (Nat.le_of_ble_eq_true rfl) hL (by omega) d_No_countHeavily_38 (fun H46 locs u47 hL => ?_)
      have k48 : va_at D vwCl (b, .inr (3, [.ref (b + 1), .ref (b + 3), .ref (b + 5), .ref (b + 7), .ref (b + 9), .int (z.st), .int (z.was), .int (z.se), .int (z.he + 8), .int (z.lo), .int (z.ma), .int (z.va), .int (z.sp), .int (z.dr), .int (z.pf), .int (z.ss), .int (z.on), .int (z.ro)])) H46 := u47.2.2
      refine lv_aload_n C.1 C.2.1 d_No_countHeavily_41 rfl (lv_at hl 0 rfl) ?_
      have k49 := hq_au kz.2.1.1 u47 (by omega)
      have k50 := hq_au kz.2.1.2 u47 (by omega)
      have k51 := hq_au kz.2.2.1.1 u47 (by omega)
      have k52 := hq_au kz.2.2.1.2 u47 (by omega)
      have k53 := hq_au kz.2.2.2.1.1 u47 (by omega)
      have k54 := hq_au kz.2.2.2.1.2 u47 (by omega)
      have k55 := hq_au kz.2.2.2.2.1.1 u47 (by omega)
      have k56 := hq_au kz.2.2.2.2.1.2 u47 (by omega)
      have k57 := hq_au kz.2.2.2.2.2 u47 (by omega)
      refine hq_callV (lo := lo) (As := []) (rest := []) C tb_good hml Y_No_214 (c_No_goOffIfTooMany l D cI cZ cN cJ lo (b) (by omega) (sNd.mk z.st z.was z.se (z.he + 8) z.lo z.ma z.va z.sp z.dr z.pf z.ss z.on z.ro z.w z.i z.d z.k z.r)) k48 rfl (fun _ _ _ _ h => h) (fun U hU hW => by show NdP D cI cZ (b) (sNd.mk z.st z.was z.se (z.he + 8) z.lo z.ma z.va z.sp z.dr z.pf z.ss z.on z.ro z.w z.i z.d z.k z.r) U.heap; rw [hU]; exact ⟨k48, ⟨k49, k50⟩, ⟨k51, k52⟩, ⟨k53, k54⟩, ⟨k55, k56⟩, k57⟩) hL hl.1 rfl rfl ⟨⟨Nat.le_of_ble_eq_true rfl, Nat.le_of_ble_eq_true rfl⟩, Nat.le_of_ble_eq_true rfl, Nat.le_of_ble_eq_true rfl⟩ (Nat.le_of_ble_eq_true rfl) d_No_countHeavily_42 (fun v H60 locs hp hL => ?_)
      obtain ⟨rfl, k59, S58⟩ := hp
      refine W.eq (g2 := F0 m 45 ls []) rfl ?_
      have hf : f_No_countHeavily z = (f_No_goOffIfTooMany (sNd.mk z.st z.was z.se (z.he + 8) z.lo z.ma z.va z.sp z.dr z.pf z.ss z.on z.ro z.w z.i z.d z.k z.r)) := by unfold f_No_countHeavily; rw [if_neg c41, if_pos c42]
      exact hq_vret C hret hlk (Nat.le_of_ble_eq_true rfl) (Nat.le_of_ble_eq_true rfl) hL ⟨rfl, by rw [hf]; exact k59, hq_Scall (hq_Sput (hq_S0) u47 (by omega) (by omega)) S58 (by omega) (by omega)⟩ d_No_countHeavily_45
  · intro c41
    refine lv_aload_n C.1 C.2.1 d_No_countHeavily_8 rfl (lv_at hl 0 rfl) ?_
    refine lv_dup C.1 C.2.1 d_No_countHeavily_9 rfl ?_
    refine hq_get (v := .int (z.se)) C f_No_49 kz.1 rfl d_No_countHeavily_10 ?_
    refine lv_bipush (v := 8) C.1 C.2.1 d_No_countHeavily_13 (by decide) ?_
    refine lv_iadd C.1 C.2.1 d_No_countHeavily_15 ?_
    refine hq_put (lo := lo) C f_No_49 kz.1 rfl rfl (Nat.le_of_ble_eq_true rfl) hL (by omega) d_No_countHeavily_16 (fun H61 locs u62 hL => ?_)
    have k63 : va_at D vwCl (b, .inr (3, [.ref (b + 1), .ref (b + 3), .ref (b + 5), .ref (b + 7), .ref (b + 9), .int (z.st), .int (z.was), .int (z.se + 8), .int (z.he), .int (z.lo), .int (z.ma), .int (z.va), .int (z.sp), .int (z.dr), .int (z.pf), .int (z.ss), .int (z.on), .int (z.ro)])) H61 := u62.2.2
    refine lv_goto (tgt := 41) C.1 C.2.1 d_No_countHeavily_19 (by decide) ?_
    refine lv_aload_n C.1 C.2.1 d_No_countHeavily_41 rfl (lv_at hl 0 rfl) ?_
    have k64 := hq_au kz.2.1.1 u62 (by omega)
    have k65 := hq_au kz.2.1.2 u62 (by omega)
    have k66 := hq_au kz.2.2.1.1 u62 (by omega)
    have k67 := hq_au kz.2.2.1.2 u62 (by omega)
    have k68 := hq_au kz.2.2.2.1.1 u62 (by omega)
    have k69 := hq_au kz.2.2.2.1.2 u62 (by omega)
    have k70 := hq_au kz.2.2.2.2.1.1 u62 (by omega)
    have k71 := hq_au kz.2.2.2.2.1.2 u62 (by omega)
    have k72 := hq_au kz.2.2.2.2.2 u62 (by omega)
    refine hq_callV (lo := lo) (As := []) (rest := []) C tb_good hml Y_No_214 (c_No_goOffIfTooMany l D cI cZ cN cJ lo (b) (by omega) (sNd.mk z.st z.was (z.se + 8) z.he z.lo z.ma z.va z.sp z.dr z.pf z.ss z.on z.ro z.w z.i z.d z.k z.r)) k63 rfl (fun _ _ _ _ h => h) (fun U hU hW => by show NdP D cI cZ (b) (sNd.mk z.st z.was (z.se + 8) z.he z.lo z.ma z.va z.sp z.dr z.pf z.ss z.on z.ro z.w z.i z.d z.k z.r) U.heap; rw [hU]; exact ⟨k63, ⟨k64, k65⟩, ⟨k66, k67⟩, ⟨k68, k69⟩, ⟨k70, k71⟩, k72⟩) hL hl.1 rfl rfl ⟨⟨Nat.le_of_ble_eq_true rfl, Nat.le_of_ble_eq_true rfl⟩, Nat.le_of_ble_eq_true rfl, Nat.le_of_ble_eq_true rfl⟩ (Nat.le_of_ble_eq_true rfl) d_No_countHeavily_42 (fun v H75 locs hp hL => ?_)
    obtain ⟨rfl, k74, S73⟩ := hp
    refine W.eq (g2 := F0 m 45 ls []) rfl ?_
    have hf : f_No_countHeavily z = (f_No_goOffIfTooMany (sNd.mk z.st z.was (z.se + 8) z.he z.lo z.ma z.va z.sp z.dr z.pf z.ss z.on z.ro z.w z.i z.d z.k z.r)) := by unfold f_No_countHeavily; rw [if_pos c41]
    exact hq_vret C hret hlk (Nat.le_of_ble_eq_true rfl) (Nat.le_of_ble_eq_true rfl) hL ⟨rfl, by rw [hf]; exact k74, hq_Scall (hq_Sput (hq_S0) u62 (by omega) (by omega)) S73 (by omega) (by omega)⟩ d_No_countHeavily_45
def f_No_beginToSend (z : sNd) : sNd := (sNd.mk 1 1 z.se z.he z.lo z.ma z.va (nI (f_Fr_placeOfLeastId z.w)) z.dr z.pf z.ss z.on z.ro z.w z.i z.d (f_Co_write z.k ((f_Fr_at z.w (nI (f_Fr_placeOfLeastId z.w))))) (f_Re_begin z.r))
set_option maxHeartbeats 4000000 in
set_option maxRecDepth 100000 in
theorem c_No_beginToSend (l : Launch) (D : va_G) (cI cZ cN cJ : ClassId) (lo : Nat) (b : Nat) (hlo : lo ≤ b) (z : sNd) (ok : okNd z) : hq_M l y_No_beginToSend b_No_beginToSend 1 none TB { frames := 3, cells := 0, slots := 0, locals := 84 } lo D vwCl (TY cI cZ cN cJ) [.ref (b)] (fun U => NdP D cI cZ b z U.heap) (fun H v H' => v = none ∧ NdP D cI cZ b (f_No_beginToSend z) H' ∧ hq_S b 10 H H') := by
  refine hq_ofW (by decide) (Nat.le_of_ble_eq_true rfl) ?_
  intro p e s m below meth c ls C hml hret hlk hnm hl hP
  have hL : hq_L lo [] := hq_L0
  have hl : lv_has ls 1 [(0, .ref (b))] := hl
  have kz := hP
  refine lv_aload_n C.1 C.2.1 d_No_beginToSend_0 rfl (lv_at hl 0 rfl) ?_
  refine lv_aload_n C.1 C.2.1 d_No_beginToSend_1 rfl (lv_at hl 0 rfl) ?_
  refine hq_get (v := .ref (b + 1)) C f_No_12 kz.1 rfl d_No_beginToSend_2 ?_
  refine hq_callV (lo := lo) (As := []) (rest := [.ref (b)]) C tb_good hml Y_No_143 (c_Fr_placeOfLeastId l D cI cZ cN cJ lo (b + 1) z.w ok.1) kz.2.1.1 rfl (fun _ _ _ _ h => h) (fun U hU hW => by show FrP D cI (b + 1) z.w U.heap; rw [hU]; exact ⟨kz.2.1.1, kz.2.1.2⟩) hL hl.1 rfl rfl ⟨⟨Nat.le_of_ble_eq_true rfl, Nat.le_of_ble_eq_true rfl⟩, Nat.le_of_ble_eq_true rfl, Nat.le_of_ble_eq_true rfl⟩ (Nat.le_of_ble_eq_true rfl) d_No_beginToSend_5 (fun v H41 locs hp hL => ?_)
  obtain ⟨rfl, rfl⟩ := hp
  refine W.eq (g2 := F0 m 8 ls [.int (nI (f_Fr_placeOfLeastId z.w)), .ref (b)]) rfl ?_
  refine hq_put (lo := lo) C f_No_64 kz.1 rfl rfl (Nat.le_of_ble_eq_true rfl) hL (by omega) d_No_beginToSend_8 (fun H42 locs u43 hL => ?_)
  have k44 : va_at D vwCl (b, .inr (3, [.ref (b + 1), .ref (b + 3), .ref (b + 5), .ref (b + 7), .ref (b + 9), .int (z.st), .int (z.was), .int (z.se), .int (z.he), .int (z.lo), .int (z.ma), .int (z.va), .int (nI (f_Fr_placeOfLeastId z.w)), .int (z.dr), .int (z.pf), .int (z.ss), .int (z.on), .int (z.ro)])) H42 := u43.2.2
  refine lv_aload_n C.1 C.2.1 d_No_beginToSend_11 rfl (lv_at hl 0 rfl) ?_
  refine hq_get (v := .ref (b + 7)) C f_No_31 k44 rfl d_No_beginToSend_12 ?_
  refine lv_aload_n C.1 C.2.1 d_No_beginToSend_15 rfl (lv_at hl 0 rfl) ?_
  refine hq_get (v := .ref (b + 1)) C f_No_12 k44 rfl d_No_beginToSend_16 ?_
  refine lv_aload_n C.1 C.2.1 d_No_beginToSend_19 rfl (lv_at hl 0 rfl) ?_
  refine hq_get (v := .int (nI (f_Fr_placeOfLeastId z.w))) C f_No_64 k44 rfl d_No_beginToSend_20 ?_
  have k45 := hq_au kz.2.1.1 u43 (by omega)
  have k46 := hq_au kz.2.1.2 u43 (by omega)
  refine hq_callV (lo := lo) (As := [.int (nI (f_Fr_placeOfLeastId z.w))]) (rest := [.ref (b + 7)]) C tb_good hml Y_No_146 (c_Fr_at l D cI cZ cN cJ lo (b + 1) z.w ok.1 (nI (f_Fr_placeOfLeastId z.w))) k45 rfl (fun _ _ _ _ h => h) (fun U hU hW => by show FrP D cI (b + 1) z.w U.heap; rw [hU]; exact ⟨k45, k46⟩) hL hl.1 rfl rfl ⟨⟨Nat.le_of_ble_eq_true rfl, Nat.le_of_ble_eq_true rfl⟩, Nat.le_of_ble_eq_true rfl, Nat.le_of_ble_eq_true rfl⟩ (Nat.le_of_ble_eq_true rfl) d_No_beginToSend_23 (fun v H47 locs hp hL => ?_)
  obtain ⟨rfl, rfl⟩ := hp
  refine W.eq (g2 := F0 m 26 ls [.int ((f_Fr_at z.w (nI (f_Fr_placeOfLeastId z.w)))), .ref (b + 7)]) rfl ?_
  have k48 := hq_au kz.2.2.2.2.1.1 u43 (by omega)
  have k49 := hq_au kz.2.2.2.2.1.2 u43 (by omega)
  refine hq_callV (lo := lo) (As := [.int ((f_Fr_at z.w (nI (f_Fr_placeOfLeastId z.w))))]) (rest := []) C tb_good hml Y_No_149 (c_Co_write l D cI cZ cN cJ lo (b + 7) (by omega) z.k ((f_Fr_at z.w (nI (f_Fr_placeOfLeastId z.w))))) k48 rfl (fun _ _ _ _ h => h) (fun U hU hW => by show CoP D cI (b + 7) z.k U.heap; rw [hU]; exact ⟨k48, k49⟩) hL hl.1 rfl rfl ⟨⟨Nat.le_of_ble_eq_true rfl, Nat.le_of_ble_eq_true rfl⟩, Nat.le_of_ble_eq_true rfl, Nat.le_of_ble_eq_true rfl⟩ (Nat.le_of_ble_eq_true rfl) d_No_beginToSend_26 (fun v H52 locs hp hL => ?_)
  obtain ⟨rfl, k51, S50⟩ := hp
  refine W.eq (g2 := F0 m 29 ls []) rfl ?_
  refine lv_aload_n C.1 C.2.1 d_No_beginToSend_29 rfl (lv_at hl 0 rfl) ?_
  have k53 := hq_as k44 S50 (by omega)
  refine hq_get (v := .ref (b + 9)) C f_No_38 k53 rfl d_No_beginToSend_30 ?_
  have k54 := hq_as (hq_au kz.2.2.2.2.2 u43 (by omega)) S50 (by omega)
  refine hq_callV (lo := lo) (As := []) (rest := []) C tb_good hml Y_No_153 (c_Re_begin l D cI cZ cN cJ lo (b + 9) (by omega) z.r) k54 rfl (fun _ _ _ _ h => h) (fun U hU hW => by show va_at D vwCl (b + 9, cRe z.r) U.heap; rw [hU]; exact k54) hL hl.1 rfl rfl ⟨⟨Nat.le_of_ble_eq_true rfl, Nat.le_of_ble_eq_true rfl⟩, Nat.le_of_ble_eq_true rfl, Nat.le_of_ble_eq_true rfl⟩ (Nat.le_of_ble_eq_true rfl) d_No_beginToSend_33 (fun v H57 locs hp hL => ?_)
  obtain ⟨rfl, k56, S55⟩ := hp
  refine W.eq (g2 := F0 m 36 ls []) rfl ?_
  refine lv_aload_n C.1 C.2.1 d_No_beginToSend_36 rfl (lv_at hl 0 rfl) ?_
  refine lv_iconst (v := 1) C.1 C.2.1 d_No_beginToSend_37 (by decide) ?_
  have k58 := hq_as k53 S55 (by omega)
  refine hq_put (lo := lo) C f_No_42 k58 rfl rfl (Nat.le_of_ble_eq_true rfl) hL (by omega) d_No_beginToSend_38 (fun H59 locs u60 hL => ?_)
  have k61 : va_at D vwCl (b, .inr (3, [.ref (b + 1), .ref (b + 3), .ref (b + 5), .ref (b + 7), .ref (b + 9), .int (1), .int (z.was), .int (z.se), .int (z.he), .int (z.lo), .int (z.ma), .int (z.va), .int (nI (f_Fr_placeOfLeastId z.w)), .int (z.dr), .int (z.pf), .int (z.ss), .int (z.on), .int (z.ro)])) H59 := u60.2.2
  refine lv_aload_n C.1 C.2.1 d_No_beginToSend_41 rfl (lv_at hl 0 rfl) ?_
  refine lv_iconst (v := 1) C.1 C.2.1 d_No_beginToSend_42 (by decide) ?_
  refine hq_put (lo := lo) C f_No_46 k61 rfl rfl (Nat.le_of_ble_eq_true rfl) hL (by omega) d_No_beginToSend_43 (fun H62 locs u63 hL => ?_)
  have k64 : va_at D vwCl (b, .inr (3, [.ref (b + 1), .ref (b + 3), .ref (b + 5), .ref (b + 7), .ref (b + 9), .int (1), .int (1), .int (z.se), .int (z.he), .int (z.lo), .int (z.ma), .int (z.va), .int (nI (f_Fr_placeOfLeastId z.w)), .int (z.dr), .int (z.pf), .int (z.ss), .int (z.on), .int (z.ro)])) H62 := u63.2.2
  have hf : f_No_beginToSend z = (sNd.mk 1 1 z.se z.he z.lo z.ma z.va (nI (f_Fr_placeOfLeastId z.w)) z.dr z.pf z.ss z.on z.ro z.w z.i z.d (f_Co_write z.k ((f_Fr_at z.w (nI (f_Fr_placeOfLeastId z.w))))) (f_Re_begin z.r)) := rfl
  have k65 := hq_au (hq_au (hq_as (hq_as k45 S50 (by omega)) S55 (by omega)) u60 (by omega)) u63 (by omega)
  have k66 := hq_au (hq_au (hq_as (hq_as k46 S50 (by omega)) S55 (by omega)) u60 (by omega)) u63 (by omega)
  have k67 := hq_au (hq_au (hq_as (hq_as (hq_au kz.2.2.1.1 u43 (by omega)) S50 (by omega)) S55 (by omega)) u60 (by omega)) u63 (by omega)
  have k68 := hq_au (hq_au (hq_as (hq_as (hq_au kz.2.2.1.2 u43 (by omega)) S50 (by omega)) S55 (by omega)) u60 (by omega)) u63 (by omega)
  have k69 := hq_au (hq_au (hq_as (hq_as (hq_au kz.2.2.2.1.1 u43 (by omega)) S50 (by omega)) S55 (by omega)) u60 (by omega)) u63 (by omega)
  have k70 := hq_au (hq_au (hq_as (hq_as (hq_au kz.2.2.2.1.2 u43 (by omega)) S50 (by omega)) S55 (by omega)) u60 (by omega)) u63 (by omega)
  have k71 := hq_au (hq_au (hq_as k51.1 S55 (by omega)) u60 (by omega)) u63 (by omega)
  have k72 := hq_au (hq_au (hq_as k51.2 S55 (by omega)) u60 (by omega)) u63 (by omega)
  have k73 := hq_au (hq_au k56 u60 (by omega)) u63 (by omega)
  exact hq_vret C hret hlk (Nat.le_of_ble_eq_true rfl) (Nat.le_of_ble_eq_true rfl) hL ⟨rfl, by rw [hf]; exact ⟨k64, ⟨k65, k66⟩, ⟨k67, k68⟩, ⟨k69, k70⟩, ⟨k71, k72⟩, k73⟩, hq_Sput (hq_Sput (hq_Scall (hq_Scall (hq_Sput (hq_S0) u43 (by omega) (by omega)) S50 (by omega) (by omega)) S55 (by omega) (by omega)) u60 (by omega) (by omega)) u63 (by omega) (by omega)⟩ d_No_beginToSend_46
theorem ok_beginToSend {z : sNd} (ok : okNd z) : okNd (f_No_beginToSend z) := ⟨ok.1, ok.2.1, ok.2.2.1, write_len _ _⟩
def f_No_beginToHear (z : sNd) : sNd × Int32 := ((sNd.mk 2 2 z.se z.he z.lo z.ma z.va z.sp z.dr z.pf z.ss z.on z.ro z.w z.i z.d z.k (f_Re_read (f_Re_begin z.r) 0)), 0)
set_option maxHeartbeats 4000000 in
set_option maxRecDepth 100000 in
theorem c_No_beginToHear (l : Launch) (D : va_G) (cI cZ cN cJ : ClassId) (lo : Nat) (b : Nat) (hlo : lo ≤ b) (z : sNd) : hq_M l y_No_beginToHear b_No_beginToHear 1 (some .int) TB { frames := 3, cells := 0, slots := 0, locals := 65 } lo D vwCl (TY cI cZ cN cJ) [.ref (b)] (fun U => NdP D cI cZ b z U.heap) (fun H v H' => v = some (.int (f_No_beginToHear z).2) ∧ NdP D cI cZ b (f_No_beginToHear z).1 H' ∧ hq_S b 10 H H') := by
  refine hq_ofW (by decide) (Nat.le_of_ble_eq_true rfl) ?_
  intro p e s m below meth c ls C hml hret hlk hnm hl hP
  have hL : hq_L lo [] := hq_L0
  have hl : lv_has ls 1 [(0, .ref (b))] := hl
  have kz := hP
  refine lv_aload_n C.1 C.2.1 d_No_beginToHear_0 rfl (lv_at hl 0 rfl) ?_
  refine hq_get (v := .ref (b + 9)) C f_No_38 kz.1 rfl d_No_beginToHear_1 ?_
  refine hq_callV (lo := lo) (As := []) (rest := []) C tb_good hml Y_No_153 (c_Re_begin l D cI cZ cN cJ lo (b + 9) (by omega) z.r) kz.2.2.2.2.2 rfl (fun _ _ _ _ h => h) (fun U hU hW => by show va_at D vwCl (b + 9, cRe z.r) U.heap; rw [hU]; exact kz.2.2.2.2.2) hL hl.1 rfl rfl ⟨⟨Nat.le_of_ble_eq_true rfl, Nat.le_of_ble_eq_true rfl⟩, Nat.le_of_ble_eq_true rfl, Nat.le_of_ble_eq_true rfl⟩ (Nat.le_of_ble_eq_true rfl) d_No_beginToHear_4 (fun v H43 locs hp hL => ?_)
  obtain ⟨rfl, k42, S41⟩ := hp
  refine W.eq (g2 := F0 m 7 ls []) rfl ?_
  refine lv_aload_n C.1 C.2.1 d_No_beginToHear_7 rfl (lv_at hl 0 rfl) ?_
  have k44 := hq_as kz.1 S41 (by omega)
  refine hq_get (v := .ref (b + 9)) C f_No_38 k44 rfl d_No_beginToHear_8 ?_
  refine lv_iconst (v := 0) C.1 C.2.1 d_No_beginToHear_11 (by decide) ?_
  refine hq_callV (lo := lo) (As := [.int (0)]) (rest := []) C tb_good hml Y_No_156 (c_Re_read l D cI cZ cN cJ lo (b + 9) (by omega) (f_Re_begin z.r) 0) k42 rfl (fun _ _ _ _ h => h) (fun U hU hW => by show va_at D vwCl (b + 9, cRe (f_Re_begin z.r)) U.heap; rw [hU]; exact k42) hL hl.1 rfl rfl ⟨⟨Nat.le_of_ble_eq_true rfl, Nat.le_of_ble_eq_true rfl⟩, Nat.le_of_ble_eq_true rfl, Nat.le_of_ble_eq_true rfl⟩ (Nat.le_of_ble_eq_true rfl) d_No_beginToHear_12 (fun v H47 locs hp hL => ?_)
  obtain ⟨rfl, k46, S45⟩ := hp
  refine W.eq (g2 := F0 m 15 ls []) rfl ?_
  refine lv_aload_n C.1 C.2.1 d_No_beginToHear_15 rfl (lv_at hl 0 rfl) ?_
  refine lv_iconst (v := 2) C.1 C.2.1 d_No_beginToHear_16 (by decide) ?_
  have k48 := hq_as k44 S45 (by omega)
  refine hq_put (lo := lo) C f_No_42 k48 rfl rfl (Nat.le_of_ble_eq_true rfl) hL (by omega) d_No_beginToHear_17 (fun H49 locs u50 hL => ?_)
  have k51 : va_at D vwCl (b, .inr (3, [.ref (b + 1), .ref (b + 3), .ref (b + 5), .ref (b + 7), .ref (b + 9), .int (2), .int (z.was), .int (z.se), .int (z.he), .int (z.lo), .int (z.ma), .int (z.va), .int (z.sp), .int (z.dr), .int (z.pf), .int (z.ss), .int (z.on), .int (z.ro)])) H49 := u50.2.2
  refine lv_aload_n C.1 C.2.1 d_No_beginToHear_20 rfl (lv_at hl 0 rfl) ?_
  refine lv_iconst (v := 2) C.1 C.2.1 d_No_beginToHear_21 (by decide) ?_
  refine hq_put (lo := lo) C f_No_46 k51 rfl rfl (Nat.le_of_ble_eq_true rfl) hL (by omega) d_No_beginToHear_22 (fun H52 locs u53 hL => ?_)
  have k54 : va_at D vwCl (b, .inr (3, [.ref (b + 1), .ref (b + 3), .ref (b + 5), .ref (b + 7), .ref (b + 9), .int (2), .int (2), .int (z.se), .int (z.he), .int (z.lo), .int (z.ma), .int (z.va), .int (z.sp), .int (z.dr), .int (z.pf), .int (z.ss), .int (z.on), .int (z.ro)])) H52 := u53.2.2
  refine lv_iconst (v := 0) C.1 C.2.1 d_No_beginToHear_25 (by decide) ?_
  have hf : f_No_beginToHear z = ((sNd.mk 2 2 z.se z.he z.lo z.ma z.va z.sp z.dr z.pf z.ss z.on z.ro z.w z.i z.d z.k (f_Re_read (f_Re_begin z.r) 0)), 0) := rfl
  have k55 := hq_au (hq_au (hq_as (hq_as kz.2.1.1 S41 (by omega)) S45 (by omega)) u50 (by omega)) u53 (by omega)
  have k56 := hq_au (hq_au (hq_as (hq_as kz.2.1.2 S41 (by omega)) S45 (by omega)) u50 (by omega)) u53 (by omega)
  have k57 := hq_au (hq_au (hq_as (hq_as kz.2.2.1.1 S41 (by omega)) S45 (by omega)) u50 (by omega)) u53 (by omega)
  have k58 := hq_au (hq_au (hq_as (hq_as kz.2.2.1.2 S41 (by omega)) S45 (by omega)) u50 (by omega)) u53 (by omega)
  have k59 := hq_au (hq_au (hq_as (hq_as kz.2.2.2.1.1 S41 (by omega)) S45 (by omega)) u50 (by omega)) u53 (by omega)
  have k60 := hq_au (hq_au (hq_as (hq_as kz.2.2.2.1.2 S41 (by omega)) S45 (by omega)) u50 (by omega)) u53 (by omega)
  have k61 := hq_au (hq_au (hq_as (hq_as kz.2.2.2.2.1.1 S41 (by omega)) S45 (by omega)) u50 (by omega)) u53 (by omega)
  have k62 := hq_au (hq_au (hq_as (hq_as kz.2.2.2.2.1.2 S41 (by omega)) S45 (by omega)) u50 (by omega)) u53 (by omega)
  have k63 := hq_au (hq_au k46 u50 (by omega)) u53 (by omega)
  exact hq_iret C hret hlk (Nat.le_of_ble_eq_true rfl) (Nat.le_of_ble_eq_true rfl) hL ⟨by rw [hf], by rw [hf]; exact ⟨k54, ⟨k55, k56⟩, ⟨k57, k58⟩, ⟨k59, k60⟩, ⟨k61, k62⟩, k63⟩, hq_Sput (hq_Sput (hq_Scall (hq_Scall (hq_S0) S41 (by omega) (by omega)) S45 (by omega) (by omega)) u50 (by omega) (by omega)) u53 (by omega) (by omega)⟩ d_No_beginToHear_26
def f_No_nextBit (z : sNd) : Int32 := if ((f_Re_padIsDue z.r)) = 0 then ((f_Co_bitAt z.k z.r.p)) else (1 - z.r.l)
set_option maxHeartbeats 4000000 in
set_option maxRecDepth 100000 in
theorem c_No_nextBit (l : Launch) (D : va_G) (cI cZ cN cJ : ClassId) (lo : Nat) (b : Nat) (z : sNd) (ok : okNd z) : hq_M l y_No_nextBit b_No_nextBit 1 (some .int) TB { frames := 1, cells := 0, slots := 0, locals := 21 } lo D vwCl (TY cI cZ cN cJ) [.ref (b)] (fun U => NdP D cI cZ b z U.heap) (fun H v H' => v = some (.int (f_No_nextBit z)) ∧ H' = H) := by
  refine hq_ofW (by decide) (Nat.le_of_ble_eq_true rfl) ?_
  intro p e s m below meth c ls C hml hret hlk hnm hl hP
  have hL : hq_L lo [] := hq_L0
  have hl : lv_has ls 1 [(0, .ref (b))] := hl
  have kz := hP
  refine lv_aload_n C.1 C.2.1 d_No_nextBit_0 rfl (lv_at hl 0 rfl) ?_
  refine hq_get (v := .ref (b + 9)) C f_No_38 kz.1 rfl d_No_nextBit_1 ?_
  refine hq_callV (lo := lo) (As := []) (rest := []) C tb_good hml Y_No_103 (c_Re_padIsDue l D cI cZ cN cJ lo (b + 9) z.r) kz.2.2.2.2.2 rfl (fun _ _ _ _ h => h) (fun U hU hW => by show va_at D vwCl (b + 9, cRe z.r) U.heap; rw [hU]; exact kz.2.2.2.2.2) hL hl.1 rfl rfl ⟨⟨Nat.le_of_ble_eq_true rfl, Nat.le_of_ble_eq_true rfl⟩, Nat.le_of_ble_eq_true rfl, Nat.le_of_ble_eq_true rfl⟩ (Nat.le_of_ble_eq_true rfl) d_No_nextBit_4 (fun v H41 locs hp hL => ?_)
  obtain ⟨rfl, rfl⟩ := hp
  refine W.eq (g2 := F0 m 7 ls [.int ((f_Re_padIsDue z.r))]) rfl ?_
  refine lv_if_eq (tgt := 22) C.1 C.2.1 d_No_nextBit_7 (by decide) ?_ ?_
  · intro c42
    refine lv_aload_n C.1 C.2.1 d_No_nextBit_22 rfl (lv_at hl 0 rfl) ?_
    refine hq_get (v := .ref (b + 7)) C f_No_31 kz.1 rfl d_No_nextBit_23 ?_
    refine lv_aload_n C.1 C.2.1 d_No_nextBit_26 rfl (lv_at hl 0 rfl) ?_
    refine hq_get (v := .ref (b + 9)) C f_No_38 kz.1 rfl d_No_nextBit_27 ?_
    refine hq_get (v := .int (z.r.p)) C f_No_109 kz.2.2.2.2.2 rfl d_No_nextBit_30 ?_
    refine hq_callV (lo := lo) (As := [.int (z.r.p)]) (rest := []) C tb_good hml Y_No_112 (c_Co_bitAt l D cI cZ cN cJ lo (b + 7) z.k ok.2.2.2 z.r.p) kz.2.2.2.2.1.1 rfl (fun _ _ _ _ h => h) (fun U hU hW => by show CoP D cI (b + 7) z.k U.heap; rw [hU]; exact ⟨kz.2.2.2.2.1.1, kz.2.2.2.2.1.2⟩) hL hl.1 rfl rfl ⟨⟨Nat.le_of_ble_eq_true rfl, Nat.le_of_ble_eq_true rfl⟩, Nat.le_of_ble_eq_true rfl, Nat.le_of_ble_eq_true rfl⟩ (Nat.le_of_ble_eq_true rfl) d_No_nextBit_33 (fun v H43 locs hp hL => ?_)
    obtain ⟨rfl, rfl⟩ := hp
    refine W.eq (g2 := F0 m 36 ls [.int ((f_Co_bitAt z.k z.r.p))]) rfl ?_
    have hf : f_No_nextBit z = (f_Co_bitAt z.k z.r.p) := by unfold f_No_nextBit; rw [if_pos c42]
    exact hq_iret C hret hlk (Nat.le_of_ble_eq_true rfl) (Nat.le_of_ble_eq_true rfl) hL ⟨by rw [hf], rfl⟩ d_No_nextBit_36
  · intro c42
    refine lv_iconst (v := 1) C.1 C.2.1 d_No_nextBit_10 (by decide) ?_
    refine lv_aload_n C.1 C.2.1 d_No_nextBit_11 rfl (lv_at hl 0 rfl) ?_
    refine hq_get (v := .ref (b + 9)) C f_No_38 kz.1 rfl d_No_nextBit_12 ?_
    refine hq_get (v := .int (z.r.l)) C f_No_106 kz.2.2.2.2.2 rfl d_No_nextBit_15 ?_
    refine lv_isub C.1 C.2.1 d_No_nextBit_18 ?_
    refine lv_goto (tgt := 36) C.1 C.2.1 d_No_nextBit_19 (by decide) ?_
    have hf : f_No_nextBit z = 1 - z.r.l := by unfold f_No_nextBit; rw [if_neg c42]
    exact hq_iret C hret hlk (Nat.le_of_ble_eq_true rfl) (Nat.le_of_ble_eq_true rfl) hL ⟨by rw [hf], rfl⟩ d_No_nextBit_36
def f_No_levelToDrive (z : sNd) : Int32 := if z.st = 1 then ((f_No_nextBit z)) else (if z.st = 2 then (if ((f_Re_isAtAnswer z.r)) = 0 then ((1 : Int32)) else (if ((f_Re_isRight z.r)) = 0 then ((1 : Int32)) else ((0 : Int32)))) else (if z.st = 3 then (if z.pf = 0 then ((0 : Int32)) else ((1 : Int32))) else ((1 : Int32))))
set_option maxHeartbeats 4000000 in
set_option maxRecDepth 100000 in
theorem c_No_levelToDrive (l : Launch) (D : va_G) (cI cZ cN cJ : ClassId) (lo : Nat) (b : Nat) (z : sNd) (ok : okNd z) : hq_M l y_No_levelToDrive b_No_levelToDrive 1 (some .int) TB { frames := 3, cells := 0, slots := 0, locals := 60 } lo D vwCl (TY cI cZ cN cJ) [.ref (b)] (fun U => NdP D cI cZ b z U.heap) (fun H v H' => v = some (.int (f_No_levelToDrive z)) ∧ H' = H) := by
  refine hq_ofW (by decide) (Nat.le_of_ble_eq_true rfl) ?_
  intro p e s m below meth c ls C hml hret hlk hnm hl hP
  have hL : hq_L lo [] := hq_L0
  have hl : lv_has ls 1 [(0, .ref (b))] := hl
  have kz := hP
  refine lv_aload_n C.1 C.2.1 d_No_levelToDrive_0 rfl (lv_at hl 0 rfl) ?_
  refine hq_get (v := .int (z.st)) C f_No_42 kz.1 rfl d_No_levelToDrive_1 ?_
  by_cases g41 : z.st = 1
  · refine lv_tableIn (tgt := 32) C.1 C.2.1 d_No_levelToDrive_4 (by rw [g41]; decide) (by rw [g41]; decide) (off := 28) (by rw [g41]; decide) (by decide) ?_
    refine lv_aload_n C.1 C.2.1 d_No_levelToDrive_32 rfl (lv_at hl 0 rfl) ?_
    refine hq_callV (lo := lo) (As := []) (rest := []) C tb_good hml Y_No_93 (c_No_nextBit l D cI cZ cN cJ lo (b) z ok) kz.1 rfl (fun _ _ _ _ h => h) (fun U hU hW => by show NdP D cI cZ (b) z U.heap; rw [hU]; exact kz) hL hl.1 rfl rfl ⟨⟨Nat.le_of_ble_eq_true rfl, Nat.le_of_ble_eq_true rfl⟩, Nat.le_of_ble_eq_true rfl, Nat.le_of_ble_eq_true rfl⟩ (Nat.le_of_ble_eq_true rfl) d_No_levelToDrive_33 (fun v H42 locs hp hL => ?_)
    obtain ⟨rfl, rfl⟩ := hp
    refine W.eq (g2 := F0 m 36 ls [.int ((f_No_nextBit z))]) rfl ?_
    have hf : f_No_levelToDrive z = (f_No_nextBit z) := by unfold f_No_levelToDrive; rw [if_pos g41]
    exact hq_iret C hret hlk (Nat.le_of_ble_eq_true rfl) (Nat.le_of_ble_eq_true rfl) hL ⟨by rw [hf], rfl⟩ d_No_levelToDrive_36
  · skip
    by_cases g43 : z.st = 2
    · refine lv_tableIn (tgt := 37) C.1 C.2.1 d_No_levelToDrive_4 (by rw [g43]; decide) (by rw [g43]; decide) (off := 33) (by rw [g43]; decide) (by decide) ?_
      refine lv_aload_n C.1 C.2.1 d_No_levelToDrive_37 rfl (lv_at hl 0 rfl) ?_
      refine hq_get (v := .ref (b + 9)) C f_No_38 kz.1 rfl d_No_levelToDrive_38 ?_
      refine hq_callV (lo := lo) (As := []) (rest := []) C tb_good hml Y_No_96 (c_Re_isAtAnswer l D cI cZ cN cJ lo (b + 9) z.r) kz.2.2.2.2.2 rfl (fun _ _ _ _ h => h) (fun U hU hW => by show va_at D vwCl (b + 9, cRe z.r) U.heap; rw [hU]; exact kz.2.2.2.2.2) hL hl.1 rfl rfl ⟨⟨Nat.le_of_ble_eq_true rfl, Nat.le_of_ble_eq_true rfl⟩, Nat.le_of_ble_eq_true rfl, Nat.le_of_ble_eq_true rfl⟩ (Nat.le_of_ble_eq_true rfl) d_No_levelToDrive_41 (fun v H44 locs hp hL => ?_)
      obtain ⟨rfl, rfl⟩ := hp
      refine W.eq (g2 := F0 m 44 ls [.int ((f_Re_isAtAnswer z.r))]) rfl ?_
      refine lv_if_eq (tgt := 61) C.1 C.2.1 d_No_levelToDrive_44 (by decide) ?_ ?_
      · intro c45
        refine lv_iconst (v := 1) C.1 C.2.1 d_No_levelToDrive_61 (by decide) ?_
        have hf : f_No_levelToDrive z = (1 : Int32) := by unfold f_No_levelToDrive; rw [if_neg g41, if_pos g43, if_pos c45]
        exact hq_iret C hret hlk (Nat.le_of_ble_eq_true rfl) (Nat.le_of_ble_eq_true rfl) hL ⟨by rw [hf], rfl⟩ d_No_levelToDrive_62
      · intro c45
        refine lv_aload_n C.1 C.2.1 d_No_levelToDrive_47 rfl (lv_at hl 0 rfl) ?_
        refine hq_get (v := .ref (b + 9)) C f_No_38 kz.1 rfl d_No_levelToDrive_48 ?_
        refine hq_callV (lo := lo) (As := []) (rest := []) C tb_good hml Y_No_100 (c_Re_isRight l D cI cZ cN cJ lo (b + 9) z.r) kz.2.2.2.2.2 rfl (fun _ _ _ _ h => h) (fun U hU hW => by show va_at D vwCl (b + 9, cRe z.r) U.heap; rw [hU]; exact kz.2.2.2.2.2) hL hl.1 rfl rfl ⟨⟨Nat.le_of_ble_eq_true rfl, Nat.le_of_ble_eq_true rfl⟩, Nat.le_of_ble_eq_true rfl, Nat.le_of_ble_eq_true rfl⟩ (Nat.le_of_ble_eq_true rfl) d_No_levelToDrive_51 (fun v H46 locs hp hL => ?_)
        obtain ⟨rfl, rfl⟩ := hp
        refine W.eq (g2 := F0 m 54 ls [.int ((f_Re_isRight z.r))]) rfl ?_
        refine lv_if_eq (tgt := 61) C.1 C.2.1 d_No_levelToDrive_54 (by decide) ?_ ?_
        · intro c47
          refine lv_iconst (v := 1) C.1 C.2.1 d_No_levelToDrive_61 (by decide) ?_
          have hf : f_No_levelToDrive z = (1 : Int32) := by unfold f_No_levelToDrive; rw [if_neg g41, if_pos g43, if_neg c45, if_pos c47]
          exact hq_iret C hret hlk (Nat.le_of_ble_eq_true rfl) (Nat.le_of_ble_eq_true rfl) hL ⟨by rw [hf], rfl⟩ d_No_levelToDrive_62
        · intro c47
          refine lv_iconst (v := 0) C.1 C.2.1 d_No_levelToDrive_57 (by decide) ?_
          refine lv_goto (tgt := 62) C.1 C.2.1 d_No_levelToDrive_58 (by decide) ?_
          have hf : f_No_levelToDrive z = (0 : Int32) := by unfold f_No_levelToDrive; rw [if_neg g41, if_pos g43, if_neg c45, if_neg c47]
          exact hq_iret C hret hlk (Nat.le_of_ble_eq_true rfl) (Nat.le_of_ble_eq_true rfl) hL ⟨by rw [hf], rfl⟩ d_No_levelToDrive_62
    · skip
      by_cases g48 : z.st = 3
      · refine lv_tableIn (tgt := 63) C.1 C.2.1 d_No_levelToDrive_4 (by rw [g48]; decide) (by rw [g48]; decide) (off := 59) (by rw [g48]; decide) (by decide) ?_
        refine lv_aload_n C.1 C.2.1 d_No_levelToDrive_63 rfl (lv_at hl 0 rfl) ?_
        refine hq_get (v := .int (z.pf)) C f_No_70 kz.1 rfl d_No_levelToDrive_64 ?_
        refine lv_if_eq (tgt := 74) C.1 C.2.1 d_No_levelToDrive_67 (by decide) ?_ ?_
        · intro c49
          refine lv_iconst (v := 0) C.1 C.2.1 d_No_levelToDrive_74 (by decide) ?_
          have hf : f_No_levelToDrive z = (0 : Int32) := by unfold f_No_levelToDrive; rw [if_neg g41, if_neg g43, if_pos g48, if_pos c49]
          exact hq_iret C hret hlk (Nat.le_of_ble_eq_true rfl) (Nat.le_of_ble_eq_true rfl) hL ⟨by rw [hf], rfl⟩ d_No_levelToDrive_75
        · intro c49
          refine lv_iconst (v := 1) C.1 C.2.1 d_No_levelToDrive_70 (by decide) ?_
          refine lv_goto (tgt := 75) C.1 C.2.1 d_No_levelToDrive_71 (by decide) ?_
          have hf : f_No_levelToDrive z = (1 : Int32) := by unfold f_No_levelToDrive; rw [if_neg g41, if_neg g43, if_pos g48, if_neg c49]
          exact hq_iret C hret hlk (Nat.le_of_ble_eq_true rfl) (Nat.le_of_ble_eq_true rfl) hL ⟨by rw [hf], rfl⟩ d_No_levelToDrive_75
      · skip
        have hout : (z.st).toInt < 1 ∨ 3 < (z.st).toInt := by
          have y0 := lv_neT g41 (a := 1) rfl
          have y1 := lv_neT g43 (a := 2) rfl
          have y2 := lv_neT g48 (a := 3) rfl
          omega
        refine lv_tableOut (tgt := 76) C.1 C.2.1 d_No_levelToDrive_4 hout (by decide) ?_
        refine lv_iconst (v := 1) C.1 C.2.1 d_No_levelToDrive_76 (by decide) ?_
        have hf : f_No_levelToDrive z = (1 : Int32) := by unfold f_No_levelToDrive; rw [if_neg g41, if_neg g43, if_neg g48]
        exact hq_iret C hret hlk (Nat.le_of_ble_eq_true rfl) (Nat.le_of_ble_eq_true rfl) hL ⟨by rw [hf], rfl⟩ d_No_levelToDrive_77
def f_No_drive_21 (z : sNd) : sNd × Int32 := ((sNd.mk z.st z.was z.se z.he z.lo z.ma z.va z.sp (f_No_levelToDrive z) z.pf z.ss z.on z.ro z.w z.i z.d z.k z.r), (f_No_levelToDrive z))
def f_No_drive (z : sNd) : sNd × Int32 := if z.st = 0 then (if (nI z.w.k) ≤ 0 then (f_No_drive_21 z) else (f_No_drive_21 (f_No_beginToSend z))) else (f_No_drive_21 z)
set_option maxHeartbeats 4000000 in
set_option maxRecDepth 100000 in
theorem s_No_drive_21 {p : Program} {l : Launch} {e : Env} {s : State} {m : MethodId} {args : Array Value} {below : List Frame} {meth : Method} {c : Code} {H : Heap} {locs : List Loc} {ls : Array Slot} (D : va_G) (cI cZ cN cJ : ClassId) (lo b : Nat) (hlo : lo ≤ b) (z : sNd) (ok : okNd z) {R9 : sNd × Int32} (hR : f_No_drive_21 z = R9) (C : hq_C p c s m args R_No b_No_drive TB D vwCl (TY cI cZ cN cJ)) (hml : c.maxLocals = 1) (hret : meth.sig.returnType = (some .int)) (hlk : meth.locks = false) (hL : hq_L lo locs) (kz : NdP D cI cZ b z H) (hS : hq_S b 10 s.heap H) (hl : lv_has ls 1 [(0, .ref (b))]) : W p l e { frames := 4, cells := 0, slots := 0, locals := 104 } s m args below meth c H locs 0 0 (MQ below (hq_Q (fun H v H' => v = some (.int (R9).2) ∧ NdP D cI cZ b (R9).1 H' ∧ hq_S b 10 H H')) args s 0 0 (fun q => lo ≤ q)) (F0 m 21 ls []) := by
  refine lv_aload_n C.1 C.2.1 d_No_drive_21 rfl (lv_at hl 0 rfl) ?_
  refine lv_aload_n C.1 C.2.1 d_No_drive_22 rfl (lv_at hl 0 rfl) ?_
  refine hq_callV (lo := lo) (As := []) (rest := [.ref (b)]) C tb_good hml Y_No_89 (c_No_levelToDrive l D cI cZ cN cJ lo (b) z ok) kz.1 rfl (fun _ _ _ _ h => h) (fun U hU hW => by show NdP D cI cZ (b) z U.heap; rw [hU]; exact kz) hL hl.1 rfl rfl ⟨⟨Nat.le_of_ble_eq_true rfl, Nat.le_of_ble_eq_true rfl⟩, Nat.le_of_ble_eq_true rfl, Nat.le_of_ble_eq_true rfl⟩ (Nat.le_of_ble_eq_true rfl) d_No_drive_23 (fun v H61 locs hp hL => ?_)
  obtain ⟨rfl, rfl⟩ := hp
  refine W.eq (g2 := F0 m 26 ls [.int ((f_No_levelToDrive z)), .ref (b)]) rfl ?_
  refine hq_put (lo := lo) C f_No_67 kz.1 rfl rfl (Nat.le_of_ble_eq_true rfl) hL (by omega) d_No_drive_26 (fun H62 locs u63 hL => ?_)
  have k64 : va_at D vwCl (b, .inr (3, [.ref (b + 1), .ref (b + 3), .ref (b + 5), .ref (b + 7), .ref (b + 9), .int (z.st), .int (z.was), .int (z.se), .int (z.he), .int (z.lo), .int (z.ma), .int (z.va), .int (z.sp), .int ((f_No_levelToDrive z)), .int (z.pf), .int (z.ss), .int (z.on), .int (z.ro)])) H62 := u63.2.2
  refine lv_aload_n C.1 C.2.1 d_No_drive_29 rfl (lv_at hl 0 rfl) ?_
  refine hq_get (v := .int ((f_No_levelToDrive z))) C f_No_67 k64 rfl d_No_drive_30 ?_
  have hf : R9 = ((sNd.mk z.st z.was z.se z.he z.lo z.ma z.va z.sp (f_No_levelToDrive z) z.pf z.ss z.on z.ro z.w z.i z.d z.k z.r), (f_No_levelToDrive z)) := by rw [← hR]; rfl
  have k65 := hq_au kz.2.1.1 u63 (by omega)
  have k66 := hq_au kz.2.1.2 u63 (by omega)
  have k67 := hq_au kz.2.2.1.1 u63 (by omega)
  have k68 := hq_au kz.2.2.1.2 u63 (by omega)
  have k69 := hq_au kz.2.2.2.1.1 u63 (by omega)
  have k70 := hq_au kz.2.2.2.1.2 u63 (by omega)
  have k71 := hq_au kz.2.2.2.2.1.1 u63 (by omega)
  have k72 := hq_au kz.2.2.2.2.1.2 u63 (by omega)
  have k73 := hq_au kz.2.2.2.2.2 u63 (by omega)
  exact hq_iret C hret hlk (Nat.le_of_ble_eq_true rfl) (Nat.le_of_ble_eq_true rfl) hL ⟨by rw [hf], by rw [hf]; exact ⟨k64, ⟨k65, k66⟩, ⟨k67, k68⟩, ⟨k69, k70⟩, ⟨k71, k72⟩, k73⟩, hq_Sput (hS) u63 (by omega) (by omega)⟩ d_No_drive_33
set_option maxHeartbeats 4000000 in
set_option maxRecDepth 100000 in
theorem c_No_drive (l : Launch) (D : va_G) (cI cZ cN cJ : ClassId) (lo : Nat) (b : Nat) (hlo : lo ≤ b) (z : sNd) (ok : okNd z) : hq_M l y_No_drive b_No_drive 1 (some .int) TB { frames := 4, cells := 0, slots := 0, locals := 104 } lo D vwCl (TY cI cZ cN cJ) [.ref (b)] (fun U => NdP D cI cZ b z U.heap) (fun H v H' => v = some (.int (f_No_drive z).2) ∧ NdP D cI cZ b (f_No_drive z).1 H' ∧ hq_S b 10 H H') := by
  refine hq_ofW (by decide) (Nat.le_of_ble_eq_true rfl) ?_
  intro p e s m below meth c ls C hml hret hlk hnm hl hP
  have hL : hq_L lo [] := hq_L0
  have hl : lv_has ls 1 [(0, .ref (b))] := hl
  have kz := hP
  refine lv_aload_n C.1 C.2.1 d_No_drive_0 rfl (lv_at hl 0 rfl) ?_
  refine hq_get (v := .int (z.st)) C f_No_42 kz.1 rfl d_No_drive_1 ?_
  refine lv_if_ne (tgt := 21) C.1 C.2.1 d_No_drive_4 (by decide) ?_ ?_
  · intro c41
    exact s_No_drive_21 D cI cZ cN cJ lo b hlo z ok ((show f_No_drive z = f_No_drive_21 z from by unfold f_No_drive; rw [if_neg c41]).symm) C hml hret hlk hL kz (hq_S0) (lv_push (lv_nil hl) (lv_at hl 0 rfl))
  · intro c41
    refine lv_aload_n C.1 C.2.1 d_No_drive_7 rfl (lv_at hl 0 rfl) ?_
    refine hq_get (v := .ref (b + 1)) C f_No_12 kz.1 rfl d_No_drive_8 ?_
    refine hq_get (v := .int (nI z.w.k)) C f_No_83 kz.2.1.1 rfl d_No_drive_11 ?_
    refine lv_if_le (tgt := 21) C.1 C.2.1 d_No_drive_14 (by decide) ?_ ?_
    · intro c42
      exact s_No_drive_21 D cI cZ cN cJ lo b hlo z ok ((show f_No_drive z = f_No_drive_21 z from by unfold f_No_drive; rw [if_pos c41, if_pos c42]).symm) C hml hret hlk hL kz (hq_S0) (lv_push (lv_nil hl) (lv_at hl 0 rfl))
    · intro c42
      refine lv_aload_n C.1 C.2.1 d_No_drive_17 rfl (lv_at hl 0 rfl) ?_
      refine hq_callV (lo := lo) (As := []) (rest := []) C tb_good hml Y_No_86 (c_No_beginToSend l D cI cZ cN cJ lo (b) (by omega) z ok) kz.1 rfl (fun _ _ _ _ h => h) (fun U hU hW => by show NdP D cI cZ (b) z U.heap; rw [hU]; exact kz) hL hl.1 rfl rfl ⟨⟨Nat.le_of_ble_eq_true rfl, Nat.le_of_ble_eq_true rfl⟩, Nat.le_of_ble_eq_true rfl, Nat.le_of_ble_eq_true rfl⟩ (Nat.le_of_ble_eq_true rfl) d_No_drive_18 (fun v H45 locs hp hL => ?_)
      obtain ⟨rfl, k44, S43⟩ := hp
      refine W.eq (g2 := F0 m 21 ls []) rfl ?_
      exact s_No_drive_21 D cI cZ cN cJ lo b hlo (f_No_beginToSend z) (ok_beginToSend ok) ((show f_No_drive z = f_No_drive_21 (f_No_beginToSend z) from by unfold f_No_drive; rw [if_pos c41, if_neg c42]).symm) C hml hret hlk hL k44 (hq_Scall (hq_S0) S43 (by omega) (by omega)) (lv_push (lv_nil hl) (lv_at hl 0 rfl))
def f_No_err_55 (z : sNd) (v1 v2 : Int32) : sNd × Int32 := if v2 = 0 then (((f_No_goOffIfTooMany (f_No_beginFlag z ((f_No_isPassive z)))), 0)) else (((f_No_goOffIfTooMany (f_No_beginFlag z ((f_No_isPassive z)))), v1))
def f_No_err_19 (z : sNd) (v1 v2 : Int32) : sNd × Int32 := if z.was = 2 then (f_No_err_55 (sNd.mk z.st z.was z.se (z.he + 1) z.lo z.ma z.va z.sp z.dr z.pf z.ss z.on z.ro z.w z.i z.d z.k z.r) v1 v2) else (if v2 = 0 then (f_No_err_55 z v1 v2) else (f_No_err_55 (sNd.mk z.st z.was (z.se + 8) z.he z.lo z.ma z.va z.sp z.dr z.pf z.ss z.on z.ro z.w z.i z.d z.k z.r) v1 v2))
def f_No_err (z : sNd) (x : Int32) : sNd × Int32 := if x = 6 then (if ((f_No_isPassive z)) = 0 then (f_No_err_19 z x 1) else (f_No_err_19 z x 0)) else (f_No_err_19 z x 1)
set_option maxHeartbeats 4000000 in
set_option maxRecDepth 100000 in
theorem s_No_err_55 {p : Program} {l : Launch} {e : Env} {s : State} {m : MethodId} {args : Array Value} {below : List Frame} {meth : Method} {c : Code} {H : Heap} {locs : List Loc} {ls : Array Slot} (D : va_G) (cI cZ cN cJ : ClassId) (lo b : Nat) (hlo : lo ≤ b) (z : sNd) (v1 v2 : Int32) {R9 : sNd × Int32} (hR : f_No_err_55 z v1 v2 = R9) (C : hq_C p c s m args R_No b_No_err TB D vwCl (TY cI cZ cN cJ)) (hml : c.maxLocals = 3) (hret : meth.sig.returnType = (some .int)) (hlk : meth.locks = false) (hL : hq_L lo locs) (kz : NdP D cI cZ b z H) (hS : hq_S b 10 s.heap H) (hl : lv_has ls 3 [(0, .ref (b)), (1, .int (v1)), (2, .int (v2))]) : W p l e { frames := 1, cells := 0, slots := 0, locals := 21 } s m args below meth c H locs 0 0 (MQ below (hq_Q (fun H v H' => v = some (.int (R9).2) ∧ NdP D cI cZ b (R9).1 H' ∧ hq_S b 10 H H')) args s 0 0 (fun q => lo ≤ q)) (F0 m 55 ls []) := by
  refine lv_aload_n C.1 C.2.1 d_No_err_55 rfl (lv_at hl 0 rfl) ?_
  refine lv_aload_n C.1 C.2.1 d_No_err_56 rfl (lv_at hl 0 rfl) ?_
  refine hq_callV (lo := lo) (As := []) (rest := [.ref (b)]) C tb_good hml Y_No_207 (c_No_isPassive l D cI cZ cN cJ lo (b) z) kz.1 rfl (fun _ _ _ _ h => h) (fun U hU hW => by show NdP D cI cZ (b) z U.heap; rw [hU]; exact kz) hL hl.1 rfl rfl ⟨⟨Nat.le_of_ble_eq_true rfl, Nat.le_of_ble_eq_true rfl⟩, Nat.le_of_ble_eq_true rfl, Nat.le_of_ble_eq_true rfl⟩ (Nat.le_of_ble_eq_true rfl) d_No_err_57 (fun v H61 locs hp hL => ?_)
  obtain ⟨rfl, rfl⟩ := hp
  refine W.eq (g2 := F0 m 60 ls [.int ((f_No_isPassive z)), .ref (b)]) rfl ?_
  refine hq_callV (lo := lo) (As := [.int ((f_No_isPassive z))]) (rest := []) C tb_good hml Y_No_210 (c_No_beginFlag l D cI cZ cN cJ lo (b) (by omega) z ((f_No_isPassive z)) (isPassive01 _)) kz.1 rfl (fun _ _ _ _ h => h) (fun U hU hW => by show NdP D cI cZ (b) z U.heap; rw [hU]; exact kz) hL hl.1 rfl rfl ⟨⟨Nat.le_of_ble_eq_true rfl, Nat.le_of_ble_eq_true rfl⟩, Nat.le_of_ble_eq_true rfl, Nat.le_of_ble_eq_true rfl⟩ (Nat.le_of_ble_eq_true rfl) d_No_err_60 (fun v H64 locs hp hL => ?_)
  obtain ⟨rfl, k63, S62⟩ := hp
  refine W.eq (g2 := F0 m 63 ls []) rfl ?_
  refine lv_aload_n C.1 C.2.1 d_No_err_63 rfl (lv_at hl 0 rfl) ?_
  refine hq_callV (lo := lo) (As := []) (rest := []) C tb_good hml Y_No_214 (c_No_goOffIfTooMany l D cI cZ cN cJ lo (b) (by omega) (f_No_beginFlag z ((f_No_isPassive z)))) k63.1 rfl (fun _ _ _ _ h => h) (fun U hU hW => by show NdP D cI cZ (b) (f_No_beginFlag z ((f_No_isPassive z))) U.heap; rw [hU]; exact k63) hL hl.1 rfl rfl ⟨⟨Nat.le_of_ble_eq_true rfl, Nat.le_of_ble_eq_true rfl⟩, Nat.le_of_ble_eq_true rfl, Nat.le_of_ble_eq_true rfl⟩ (Nat.le_of_ble_eq_true rfl) d_No_err_64 (fun v H67 locs hp hL => ?_)
  obtain ⟨rfl, k66, S65⟩ := hp
  refine W.eq (g2 := F0 m 67 ls []) rfl ?_
  refine lv_iload_n C.1 C.2.1 d_No_err_67 rfl (lv_at hl 2 rfl) ?_
  refine lv_if_eq (tgt := 75) C.1 C.2.1 d_No_err_68 (by decide) ?_ ?_
  · intro c68
    refine lv_iconst (v := 0) C.1 C.2.1 d_No_err_75 (by decide) ?_
    have hf : R9 = ((f_No_goOffIfTooMany (f_No_beginFlag z ((f_No_isPassive z)))), 0) := by rw [← hR]; unfold f_No_err_55; rw [if_pos c68]
    exact hq_iret C hret hlk (Nat.le_of_ble_eq_true rfl) (Nat.le_of_ble_eq_true rfl) hL ⟨by rw [hf], by rw [hf]; exact k66, hq_Scall (hq_Scall (hS) S62 (by omega) (by omega)) S65 (by omega) (by omega)⟩ d_No_err_76
  · intro c68
    refine lv_iload_n C.1 C.2.1 d_No_err_71 rfl (lv_at hl 1 rfl) ?_
    refine lv_goto (tgt := 76) C.1 C.2.1 d_No_err_72 (by decide) ?_
    have hf : R9 = ((f_No_goOffIfTooMany (f_No_beginFlag z ((f_No_isPassive z)))), v1) := by rw [← hR]; unfold f_No_err_55; rw [if_neg c68]
    exact hq_iret C hret hlk (Nat.le_of_ble_eq_true rfl) (Nat.le_of_ble_eq_true rfl) hL ⟨by rw [hf], by rw [hf]; exact k66, hq_Scall (hq_Scall (hS) S62 (by omega) (by omega)) S65 (by omega) (by omega)⟩ d_No_err_76
set_option maxHeartbeats 4000000 in
set_option maxRecDepth 100000 in
theorem s_No_err_19 {p : Program} {l : Launch} {e : Env} {s : State} {m : MethodId} {args : Array Value} {below : List Frame} {meth : Method} {c : Code} {H : Heap} {locs : List Loc} {ls : Array Slot} (D : va_G) (cI cZ cN cJ : ClassId) (lo b : Nat) (hlo : lo ≤ b) (z : sNd) (v1 v2 : Int32) {R9 : sNd × Int32} (hR : f_No_err_19 z v1 v2 = R9) (C : hq_C p c s m args R_No b_No_err TB D vwCl (TY cI cZ cN cJ)) (hml : c.maxLocals = 3) (hret : meth.sig.returnType = (some .int)) (hlk : meth.locks = false) (hL : hq_L lo locs) (kz : NdP D cI cZ b z H) (hS : hq_S b 10 s.heap H) (hl : lv_has ls 3 [(0, .ref (b)), (1, .int (v1)), (2, .int (v2))]) : W p l e { frames := 1, cells := 0, slots := 0, locals := 21 } s m args below meth c H locs 0 0 (MQ below (hq_Q (fun H v H' => v = some (.int (R9).2) ∧ NdP D cI cZ b (R9).1 H' ∧ hq_S b 10 H H')) args s 0 0 (fun q => lo ≤ q)) (F0 m 19 ls []) := by
  refine lv_aload_n C.1 C.2.1 d_No_err_19 rfl (lv_at hl 0 rfl) ?_
  refine hq_get (v := .int (z.was)) C f_No_46 kz.1 rfl d_No_err_20 ?_
  refine lv_iconst (v := 2) C.1 C.2.1 d_No_err_23 (by decide) ?_
  refine lv_icmp_ne (tgt := 40) C.1 C.2.1 d_No_err_24 (by decide) ?_ ?_
  · intro c61
    refine lv_iload_n C.1 C.2.1 d_No_err_40 rfl (lv_at hl 2 rfl) ?_
    refine lv_if_eq (tgt := 55) C.1 C.2.1 d_No_err_41 (by decide) ?_ ?_
    · intro c62
      exact s_No_err_55 D cI cZ cN cJ lo b hlo z  v1 v2 (((show f_No_err_19 z v1 v2 = f_No_err_55 z v1 v2 from by unfold f_No_err_19; rw [if_neg c61, if_pos c62]).symm).trans hR) C hml hret hlk hL kz (hS) (lv_push (lv_push (lv_push (lv_nil hl) (lv_at hl 2 rfl)) (lv_at hl 1 rfl)) (lv_at hl 0 rfl))
    · intro c62
      refine lv_aload_n C.1 C.2.1 d_No_err_44 rfl (lv_at hl 0 rfl) ?_
      refine lv_dup C.1 C.2.1 d_No_err_45 rfl ?_
      refine hq_get (v := .int (z.se)) C f_No_49 kz.1 rfl d_No_err_46 ?_
      refine lv_bipush (v := 8) C.1 C.2.1 d_No_err_49 (by decide) ?_
      refine lv_iadd C.1 C.2.1 d_No_err_51 ?_
      refine hq_put (lo := lo) C f_No_49 kz.1 rfl rfl (Nat.le_of_ble_eq_true rfl) hL (by omega) d_No_err_52 (fun H63 locs u64 hL => ?_)
      have k65 : va_at D vwCl (b, .inr (3, [.ref (b + 1), .ref (b + 3), .ref (b + 5), .ref (b + 7), .ref (b + 9), .int (z.st), .int (z.was), .int (z.se + 8), .int (z.he), .int (z.lo), .int (z.ma), .int (z.va), .int (z.sp), .int (z.dr), .int (z.pf), .int (z.ss), .int (z.on), .int (z.ro)])) H63 := u64.2.2
      have k66 := hq_au kz.2.1.1 u64 (by omega)
      have k67 := hq_au kz.2.1.2 u64 (by omega)
      have k68 := hq_au kz.2.2.1.1 u64 (by omega)
      have k69 := hq_au kz.2.2.1.2 u64 (by omega)
      have k70 := hq_au kz.2.2.2.1.1 u64 (by omega)
      have k71 := hq_au kz.2.2.2.1.2 u64 (by omega)
      have k72 := hq_au kz.2.2.2.2.1.1 u64 (by omega)
      have k73 := hq_au kz.2.2.2.2.1.2 u64 (by omega)
      have k74 := hq_au kz.2.2.2.2.2 u64 (by omega)
      exact s_No_err_55 D cI cZ cN cJ lo b hlo (sNd.mk z.st z.was (z.se + 8) z.he z.lo z.ma z.va z.sp z.dr z.pf z.ss z.on z.ro z.w z.i z.d z.k z.r)  v1 v2 (((show f_No_err_19 z v1 v2 = f_No_err_55 (sNd.mk z.st z.was (z.se + 8) z.he z.lo z.ma z.va z.sp z.dr z.pf z.ss z.on z.ro z.w z.i z.d z.k z.r) v1 v2 from by unfold f_No_err_19; rw [if_neg c61, if_neg c62]).symm).trans hR) C hml hret hlk hL ⟨k65, ⟨k66, k67⟩, ⟨k68, k69⟩, ⟨k70, k71⟩, ⟨k72, k73⟩, k74⟩ (hq_Sput (hS) u64 (by omega) (by omega)) (lv_push (lv_push (lv_push (lv_nil hl) (lv_at hl 2 rfl)) (lv_at hl 1 rfl)) (lv_at hl 0 rfl))
  · intro c61
    refine lv_aload_n C.1 C.2.1 d_No_err_27 rfl (lv_at hl 0 rfl) ?_
    refine lv_dup C.1 C.2.1 d_No_err_28 rfl ?_
    refine hq_get (v := .int (z.he)) C f_No_52 kz.1 rfl d_No_err_29 ?_
    refine lv_iconst (v := 1) C.1 C.2.1 d_No_err_32 (by decide) ?_
    refine lv_iadd C.1 C.2.1 d_No_err_33 ?_
    refine hq_put (lo := lo) C f_No_52 kz.1 rfl rfl (Nat.le_of_ble_eq_true rfl) hL (by omega) d_No_err_34 (fun H75 locs u76 hL => ?_)
    have k77 : va_at D vwCl (b, .inr (3, [.ref (b + 1), .ref (b + 3), .ref (b + 5), .ref (b + 7), .ref (b + 9), .int (z.st), .int (z.was), .int (z.se), .int (z.he + 1), .int (z.lo), .int (z.ma), .int (z.va), .int (z.sp), .int (z.dr), .int (z.pf), .int (z.ss), .int (z.on), .int (z.ro)])) H75 := u76.2.2
    refine lv_goto (tgt := 55) C.1 C.2.1 d_No_err_37 (by decide) ?_
    have k78 := hq_au kz.2.1.1 u76 (by omega)
    have k79 := hq_au kz.2.1.2 u76 (by omega)
    have k80 := hq_au kz.2.2.1.1 u76 (by omega)
    have k81 := hq_au kz.2.2.1.2 u76 (by omega)
    have k82 := hq_au kz.2.2.2.1.1 u76 (by omega)
    have k83 := hq_au kz.2.2.2.1.2 u76 (by omega)
    have k84 := hq_au kz.2.2.2.2.1.1 u76 (by omega)
    have k85 := hq_au kz.2.2.2.2.1.2 u76 (by omega)
    have k86 := hq_au kz.2.2.2.2.2 u76 (by omega)
    exact s_No_err_55 D cI cZ cN cJ lo b hlo (sNd.mk z.st z.was z.se (z.he + 1) z.lo z.ma z.va z.sp z.dr z.pf z.ss z.on z.ro z.w z.i z.d z.k z.r)  v1 v2 (((show f_No_err_19 z v1 v2 = f_No_err_55 (sNd.mk z.st z.was z.se (z.he + 1) z.lo z.ma z.va z.sp z.dr z.pf z.ss z.on z.ro z.w z.i z.d z.k z.r) v1 v2 from by unfold f_No_err_19; rw [if_pos c61]).symm).trans hR) C hml hret hlk hL ⟨k77, ⟨k78, k79⟩, ⟨k80, k81⟩, ⟨k82, k83⟩, ⟨k84, k85⟩, k86⟩ (hq_Sput (hS) u76 (by omega) (by omega)) (lv_push (lv_push (lv_push (lv_nil hl) (lv_at hl 2 rfl)) (lv_at hl 1 rfl)) (lv_at hl 0 rfl))
set_option maxHeartbeats 4000000 in
set_option maxRecDepth 100000 in
theorem c_No_err (l : Launch) (D : va_G) (cI cZ cN cJ : ClassId) (lo : Nat) (b : Nat) (hlo : lo ≤ b) (z : sNd) (x : Int32) : hq_M l y_No_err b_No_err 3 (some .int) TB { frames := 1, cells := 0, slots := 0, locals := 21 } lo D vwCl (TY cI cZ cN cJ) [.ref (b), .int (x)] (fun U => NdP D cI cZ b z U.heap) (fun H v H' => v = some (.int (f_No_err z x).2) ∧ NdP D cI cZ b (f_No_err z x).1 H' ∧ hq_S b 10 H H') := by
  refine hq_ofW (by decide) (Nat.le_of_ble_eq_true rfl) ?_
  intro p e s m below meth c ls C hml hret hlk hnm hl hP
  have hL : hq_L lo [] := hq_L0
  have hl : lv_has ls 3 [(0, .ref (b)), (1, .int (x))] := hl
  have kz := hP
  refine lv_iload_n C.1 C.2.1 d_No_err_0 rfl (lv_at hl 1 rfl) ?_
  refine lv_bipush (v := 6) C.1 C.2.1 d_No_err_1 (by decide) ?_
  refine lv_icmp_ne (tgt := 13) C.1 C.2.1 d_No_err_3 (by decide) ?_ ?_
  · intro c41
    refine lv_iconst (v := 1) C.1 C.2.1 d_No_err_13 (by decide) ?_
    refine lv_goto (tgt := 18) C.1 C.2.1 d_No_err_14 (by decide) ?_
    refine lv_istore_n C.1 C.2.1 d_No_err_18 rfl hl (by decide) rfl (lv' := [(2, .int (1)), (0, .ref (b)), (1, .int (x))]) (fun ls hl => ?_)
    exact s_No_err_19 D cI cZ cN cJ lo b hlo z  x 1 ((show f_No_err z x = f_No_err_19 z x 1 from by unfold f_No_err; rw [if_neg c41]).symm) C hml hret hlk hL kz (hq_S0) (lv_push (lv_push (lv_push (lv_nil hl) (lv_at hl 0 rfl)) (lv_at hl 2 rfl)) (lv_at hl 1 rfl))
  · intro c41
    refine lv_aload_n C.1 C.2.1 d_No_err_6 rfl (lv_at hl 0 rfl) ?_
    refine hq_callV (lo := lo) (As := []) (rest := []) C tb_good hml Y_No_207 (c_No_isPassive l D cI cZ cN cJ lo (b) z) kz.1 rfl (fun _ _ _ _ h => h) (fun U hU hW => by show NdP D cI cZ (b) z U.heap; rw [hU]; exact kz) hL hl.1 rfl rfl ⟨⟨Nat.le_of_ble_eq_true rfl, Nat.le_of_ble_eq_true rfl⟩, Nat.le_of_ble_eq_true rfl, Nat.le_of_ble_eq_true rfl⟩ (Nat.le_of_ble_eq_true rfl) d_No_err_7 (fun v H42 locs hp hL => ?_)
    obtain ⟨rfl, rfl⟩ := hp
    refine W.eq (g2 := F0 m 10 ls [.int ((f_No_isPassive z))]) rfl ?_
    refine lv_if_ne (tgt := 17) C.1 C.2.1 d_No_err_10 (by decide) ?_ ?_
    · intro c43
      refine lv_iconst (v := 0) C.1 C.2.1 d_No_err_17 (by decide) ?_
      refine lv_istore_n C.1 C.2.1 d_No_err_18 rfl hl (by decide) rfl (lv' := [(2, .int (0)), (0, .ref (b)), (1, .int (x))]) (fun ls hl => ?_)
      exact s_No_err_19 D cI cZ cN cJ lo b hlo z  x 0 ((show f_No_err z x = f_No_err_19 z x 0 from by unfold f_No_err; rw [if_pos c41, if_neg c43]).symm) C hml hret hlk hL kz (hq_S0) (lv_push (lv_push (lv_push (lv_nil hl) (lv_at hl 0 rfl)) (lv_at hl 2 rfl)) (lv_at hl 1 rfl))
    · intro c43
      refine lv_iconst (v := 1) C.1 C.2.1 d_No_err_13 (by decide) ?_
      refine lv_goto (tgt := 18) C.1 C.2.1 d_No_err_14 (by decide) ?_
      refine lv_istore_n C.1 C.2.1 d_No_err_18 rfl hl (by decide) rfl (lv' := [(2, .int (1)), (0, .ref (b)), (1, .int (x))]) (fun ls hl => ?_)
      exact s_No_err_19 D cI cZ cN cJ lo b hlo z  x 1 ((show f_No_err z x = f_No_err_19 z x 1 from by unfold f_No_err; rw [if_pos c41, if_pos c43]).symm) C hml hret hlk hL kz (hq_S0) (lv_push (lv_push (lv_push (lv_nil hl) (lv_at hl 0 rfl)) (lv_at hl 2 rfl)) (lv_at hl 1 rfl))
def f_No_endSending (z : sNd) : sNd × Int32 := if z.se ≤ 0 then (((f_No_beginPause (sNd.mk z.st z.was z.se z.he z.lo z.ma z.va z.sp z.dr z.pf z.ss z.on z.ro (f_Fr_remove z.w z.sp).1 z.i z.d z.k z.r)), 1)) else (((f_No_beginPause (sNd.mk z.st z.was (z.se - 1) z.he z.lo z.ma z.va z.sp z.dr z.pf z.ss z.on z.ro (f_Fr_remove z.w z.sp).1 z.i z.d z.k z.r)), 1))
set_option maxHeartbeats 4000000 in
set_option maxRecDepth 100000 in
theorem c_No_endSending (l : Launch) (D : va_G) (cI cZ cN cJ : ClassId) (lo : Nat) (b : Nat) (hlo : lo ≤ b) (z : sNd) (ok : okNd z) : hq_M l y_No_endSending b_No_endSending 1 (some .int) TB { frames := 2, cells := 0, slots := 0, locals := 53 } lo D vwCl (TY cI cZ cN cJ) [.ref (b)] (fun U => NdP D cI cZ b z U.heap) (fun H v H' => v = some (.int (f_No_endSending z).2) ∧ NdP D cI cZ b (f_No_endSending z).1 H' ∧ hq_S b 10 H H') := by
  refine hq_ofW (by decide) (Nat.le_of_ble_eq_true rfl) ?_
  intro p e s m below meth c ls C hml hret hlk hnm hl hP
  have hL : hq_L lo [] := hq_L0
  have hl : lv_has ls 1 [(0, .ref (b))] := hl
  have kz := hP
  refine lv_aload_n C.1 C.2.1 d_No_endSending_0 rfl (lv_at hl 0 rfl) ?_
  refine hq_get (v := .ref (b + 1)) C f_No_12 kz.1 rfl d_No_endSending_1 ?_
  refine lv_aload_n C.1 C.2.1 d_No_endSending_4 rfl (lv_at hl 0 rfl) ?_
  refine hq_get (v := .int (z.sp)) C f_No_64 kz.1 rfl d_No_endSending_5 ?_
  refine hq_callV (lo := lo) (As := [.int (z.sp)]) (rest := []) C tb_good hml Y_No_171 (c_Fr_remove l D cI cZ cN cJ lo (b + 1) (by omega) z.w ok.1 z.sp) kz.2.1.1 rfl (fun _ _ _ _ h => h) (fun U hU hW => by show FrP D cI (b + 1) z.w U.heap; rw [hU]; exact ⟨kz.2.1.1, kz.2.1.2⟩) hL hl.1 rfl rfl ⟨⟨Nat.le_of_ble_eq_true rfl, Nat.le_of_ble_eq_true rfl⟩, Nat.le_of_ble_eq_true rfl, Nat.le_of_ble_eq_true rfl⟩ (Nat.le_of_ble_eq_true rfl) d_No_endSending_8 (fun v H43 locs hp hL => ?_)
  obtain ⟨rfl, k42, S41⟩ := hp
  refine W.eq (g2 := F0 m 11 ls [.int ((f_Fr_remove z.w z.sp).2)]) rfl ?_
  refine lv_pop C.1 C.2.1 d_No_endSending_11 rfl ?_
  refine lv_aload_n C.1 C.2.1 d_No_endSending_12 rfl (lv_at hl 0 rfl) ?_
  have k44 := hq_as kz.1 S41 (by omega)
  refine hq_get (v := .int (z.se)) C f_No_49 k44 rfl d_No_endSending_13 ?_
  refine lv_if_le (tgt := 29) C.1 C.2.1 d_No_endSending_16 (by decide) ?_ ?_
  · intro c45
    refine lv_aload_n C.1 C.2.1 d_No_endSending_29 rfl (lv_at hl 0 rfl) ?_
    have k46 := hq_as kz.2.2.1.1 S41 (by omega)
    have k47 := hq_as kz.2.2.1.2 S41 (by omega)
    have k48 := hq_as kz.2.2.2.1.1 S41 (by omega)
    have k49 := hq_as kz.2.2.2.1.2 S41 (by omega)
    have k50 := hq_as kz.2.2.2.2.1.1 S41 (by omega)
    have k51 := hq_as kz.2.2.2.2.1.2 S41 (by omega)
    have k52 := hq_as kz.2.2.2.2.2 S41 (by omega)
    refine hq_callV (lo := lo) (As := []) (rest := []) C tb_good hml Y_No_174 (c_No_beginPause l D cI cZ cN cJ lo (b) (by omega) (sNd.mk z.st z.was z.se z.he z.lo z.ma z.va z.sp z.dr z.pf z.ss z.on z.ro (f_Fr_remove z.w z.sp).1 z.i z.d z.k z.r)) k44 rfl (fun _ _ _ _ h => h) (fun U hU hW => by show NdP D cI cZ (b) (sNd.mk z.st z.was z.se z.he z.lo z.ma z.va z.sp z.dr z.pf z.ss z.on z.ro (f_Fr_remove z.w z.sp).1 z.i z.d z.k z.r) U.heap; rw [hU]; exact ⟨k44, ⟨k42.1, k42.2⟩, ⟨k46, k47⟩, ⟨k48, k49⟩, ⟨k50, k51⟩, k52⟩) hL hl.1 rfl rfl ⟨⟨Nat.le_of_ble_eq_true rfl, Nat.le_of_ble_eq_true rfl⟩, Nat.le_of_ble_eq_true rfl, Nat.le_of_ble_eq_true rfl⟩ (Nat.le_of_ble_eq_true rfl) d_No_endSending_30 (fun v H55 locs hp hL => ?_)
    obtain ⟨rfl, k54, S53⟩ := hp
    refine W.eq (g2 := F0 m 33 ls []) rfl ?_
    refine lv_iconst (v := 1) C.1 C.2.1 d_No_endSending_33 (by decide) ?_
    have hf : f_No_endSending z = ((f_No_beginPause (sNd.mk z.st z.was z.se z.he z.lo z.ma z.va z.sp z.dr z.pf z.ss z.on z.ro (f_Fr_remove z.w z.sp).1 z.i z.d z.k z.r)), 1) := by unfold f_No_endSending; rw [if_pos c45]
    exact hq_iret C hret hlk (Nat.le_of_ble_eq_true rfl) (Nat.le_of_ble_eq_true rfl) hL ⟨by rw [hf], by rw [hf]; exact k54, hq_Scall (hq_Scall (hq_S0) S41 (by omega) (by omega)) S53 (by omega) (by omega)⟩ d_No_endSending_34
  · intro c45
    refine lv_aload_n C.1 C.2.1 d_No_endSending_19 rfl (lv_at hl 0 rfl) ?_
    refine lv_dup C.1 C.2.1 d_No_endSending_20 rfl ?_
    refine hq_get (v := .int (z.se)) C f_No_49 k44 rfl d_No_endSending_21 ?_
    refine lv_iconst (v := 1) C.1 C.2.1 d_No_endSending_24 (by decide) ?_
    refine lv_isub C.1 C.2.1 d_No_endSending_25 ?_
    refine hq_put (lo := lo) C f_No_49 k44 rfl rfl (Nat.le_of_ble_eq_true rfl) hL (by omega) d_No_endSending_26 (fun H56 locs u57 hL => ?_)
    have k58 : va_at D vwCl (b, .inr (3, [.ref (b + 1), .ref (b + 3), .ref (b + 5), .ref (b + 7), .ref (b + 9), .int (z.st), .int (z.was), .int (z.se - 1), .int (z.he), .int (z.lo), .int (z.ma), .int (z.va), .int (z.sp), .int (z.dr), .int (z.pf), .int (z.ss), .int (z.on), .int (z.ro)])) H56 := u57.2.2
    refine lv_aload_n C.1 C.2.1 d_No_endSending_29 rfl (lv_at hl 0 rfl) ?_
    have k59 := hq_au k42.1 u57 (by omega)
    have k60 := hq_au k42.2 u57 (by omega)
    have k61 := hq_au (hq_as kz.2.2.1.1 S41 (by omega)) u57 (by omega)
    have k62 := hq_au (hq_as kz.2.2.1.2 S41 (by omega)) u57 (by omega)
    have k63 := hq_au (hq_as kz.2.2.2.1.1 S41 (by omega)) u57 (by omega)
    have k64 := hq_au (hq_as kz.2.2.2.1.2 S41 (by omega)) u57 (by omega)
    have k65 := hq_au (hq_as kz.2.2.2.2.1.1 S41 (by omega)) u57 (by omega)
    have k66 := hq_au (hq_as kz.2.2.2.2.1.2 S41 (by omega)) u57 (by omega)
    have k67 := hq_au (hq_as kz.2.2.2.2.2 S41 (by omega)) u57 (by omega)
    refine hq_callV (lo := lo) (As := []) (rest := []) C tb_good hml Y_No_174 (c_No_beginPause l D cI cZ cN cJ lo (b) (by omega) (sNd.mk z.st z.was (z.se - 1) z.he z.lo z.ma z.va z.sp z.dr z.pf z.ss z.on z.ro (f_Fr_remove z.w z.sp).1 z.i z.d z.k z.r)) k58 rfl (fun _ _ _ _ h => h) (fun U hU hW => by show NdP D cI cZ (b) (sNd.mk z.st z.was (z.se - 1) z.he z.lo z.ma z.va z.sp z.dr z.pf z.ss z.on z.ro (f_Fr_remove z.w z.sp).1 z.i z.d z.k z.r) U.heap; rw [hU]; exact ⟨k58, ⟨k59, k60⟩, ⟨k61, k62⟩, ⟨k63, k64⟩, ⟨k65, k66⟩, k67⟩) hL hl.1 rfl rfl ⟨⟨Nat.le_of_ble_eq_true rfl, Nat.le_of_ble_eq_true rfl⟩, Nat.le_of_ble_eq_true rfl, Nat.le_of_ble_eq_true rfl⟩ (Nat.le_of_ble_eq_true rfl) d_No_endSending_30 (fun v H70 locs hp hL => ?_)
    obtain ⟨rfl, k69, S68⟩ := hp
    refine W.eq (g2 := F0 m 33 ls []) rfl ?_
    refine lv_iconst (v := 1) C.1 C.2.1 d_No_endSending_33 (by decide) ?_
    have hf : f_No_endSending z = ((f_No_beginPause (sNd.mk z.st z.was (z.se - 1) z.he z.lo z.ma z.va z.sp z.dr z.pf z.ss z.on z.ro (f_Fr_remove z.w z.sp).1 z.i z.d z.k z.r)), 1) := by unfold f_No_endSending; rw [if_neg c45]
    exact hq_iret C hret hlk (Nat.le_of_ble_eq_true rfl) (Nat.le_of_ble_eq_true rfl) hL ⟨by rw [hf], by rw [hf]; exact k69, hq_Scall (hq_Sput (hq_Scall (hq_S0) S41 (by omega) (by omega)) u57 (by omega) (by omega)) S68 (by omega) (by omega)⟩ d_No_endSending_34
def f_No_keep (z : sNd) (x : Int32) : sNd := if (fl (nI z.i.k)) = 0 then ((sNd.mk z.st z.was z.se z.he z.lo z.ma z.va z.sp z.dr z.pf z.ss z.on z.ro z.w (f_Fr_add z.i x) z.d z.k z.r)) else ((sNd.mk z.st z.was z.se z.he (z.lo + 1) z.ma z.va z.sp z.dr z.pf z.ss z.on z.ro z.w z.i z.d z.k z.r))
set_option maxHeartbeats 4000000 in
set_option maxRecDepth 100000 in
theorem c_No_keep (l : Launch) (D : va_G) (cI cZ cN cJ : ClassId) (lo : Nat) (b : Nat) (hlo : lo ≤ b) (z : sNd) (ok : okNd z) (x : Int32) : hq_M l y_No_keep b_No_keep 2 none TB { frames := 2, cells := 0, slots := 0, locals := 51 } lo D vwCl (TY cI cZ cN cJ) [.ref (b), .int (x)] (fun U => NdP D cI cZ b z U.heap) (fun H v H' => v = none ∧ NdP D cI cZ b (f_No_keep z x) H' ∧ hq_S b 10 H H') := by
  refine hq_ofW (by decide) (Nat.le_of_ble_eq_true rfl) ?_
  intro p e s m below meth c ls C hml hret hlk hnm hl hP
  have hL : hq_L lo [] := hq_L0
  have hl : lv_has ls 2 [(0, .ref (b)), (1, .int (x))] := hl
  have kz := hP
  refine lv_aload_n C.1 C.2.1 d_No_keep_0 rfl (lv_at hl 0 rfl) ?_
  refine hq_get (v := .ref (b + 3)) C f_No_18 kz.1 rfl d_No_keep_1 ?_
  refine hq_callV (lo := lo) (As := []) (rest := []) C tb_good hml Y_No_201 (c_isFull l D cI cZ cN cJ lo (b + 3) (b + 3 + 1) (nI z.i.k)) kz.2.2.1.1 rfl (fun _ _ _ _ h => h) (fun U hU hW => by show va_at D vwCl (b + 3, .inr (2, [.ref (b + 3 + 1), .int (nI z.i.k)])) U.heap; rw [hU]; exact kz.2.2.1.1) hL hl.1 rfl rfl ⟨⟨Nat.le_of_ble_eq_true rfl, Nat.le_of_ble_eq_true rfl⟩, Nat.le_of_ble_eq_true rfl, Nat.le_of_ble_eq_true rfl⟩ (Nat.le_of_ble_eq_true rfl) d_No_keep_4 (fun v H41 locs hp hL => ?_)
  obtain ⟨rfl, rfl⟩ := hp
  refine W.eq (g2 := F0 m 7 ls [.int (fl (nI z.i.k))]) rfl ?_
  refine lv_if_eq (tgt := 23) C.1 C.2.1 d_No_keep_7 (by decide) ?_ ?_
  · intro c42
    refine lv_aload_n C.1 C.2.1 d_No_keep_23 rfl (lv_at hl 0 rfl) ?_
    refine hq_get (v := .ref (b + 3)) C f_No_18 kz.1 rfl d_No_keep_24 ?_
    refine lv_iload_n C.1 C.2.1 d_No_keep_27 rfl (lv_at hl 1 rfl) ?_
    refine hq_callV (lo := lo) (As := [.int (x)]) (rest := []) C tb_good hml Y_No_204 (c_Fr_add l D cI cZ cN cJ lo (b + 3) (by omega) z.i ok.2.1 x) kz.2.2.1.1 rfl (fun _ _ _ _ h => h) (fun U hU hW => by show FrP D cI (b + 3) z.i U.heap; rw [hU]; exact ⟨kz.2.2.1.1, kz.2.2.1.2⟩) hL hl.1 rfl rfl ⟨⟨Nat.le_of_ble_eq_true rfl, Nat.le_of_ble_eq_true rfl⟩, Nat.le_of_ble_eq_true rfl, Nat.le_of_ble_eq_true rfl⟩ (Nat.le_of_ble_eq_true rfl) d_No_keep_28 (fun v H45 locs hp hL => ?_)
    obtain ⟨rfl, k44, S43⟩ := hp
    refine W.eq (g2 := F0 m 31 ls []) rfl ?_
    have hf : f_No_keep z x = (sNd.mk z.st z.was z.se z.he z.lo z.ma z.va z.sp z.dr z.pf z.ss z.on z.ro z.w (f_Fr_add z.i x) z.d z.k z.r) := by unfold f_No_keep; rw [if_pos c42]
    have k46 := hq_as kz.1 S43 (by omega)
    have k47 := hq_as kz.2.1.1 S43 (by omega)
    have k48 := hq_as kz.2.1.2 S43 (by omega)
    have k49 := hq_as kz.2.2.2.1.1 S43 (by omega)
    have k50 := hq_as kz.2.2.2.1.2 S43 (by omega)
    have k51 := hq_as kz.2.2.2.2.1.1 S43 (by omega)
    have k52 := hq_as kz.2.2.2.2.1.2 S43 (by omega)
    have k53 := hq_as kz.2.2.2.2.2 S43 (by omega)
    exact hq_vret C hret hlk (Nat.le_of_ble_eq_true rfl) (Nat.le_of_ble_eq_true rfl) hL ⟨rfl, by rw [hf]; exact ⟨k46, ⟨k47, k48⟩, ⟨k44.1, k44.2⟩, ⟨k49, k50⟩, ⟨k51, k52⟩, k53⟩, hq_Scall (hq_S0) S43 (by omega) (by omega)⟩ d_No_keep_31
  · intro c42
    refine lv_aload_n C.1 C.2.1 d_No_keep_10 rfl (lv_at hl 0 rfl) ?_
    refine lv_dup C.1 C.2.1 d_No_keep_11 rfl ?_
    refine hq_get (v := .int (z.lo)) C f_No_55 kz.1 rfl d_No_keep_12 ?_
    refine lv_iconst (v := 1) C.1 C.2.1 d_No_keep_15 (by decide) ?_
    refine lv_iadd C.1 C.2.1 d_No_keep_16 ?_
    refine hq_put (lo := lo) C f_No_55 kz.1 rfl rfl (Nat.le_of_ble_eq_true rfl) hL (by omega) d_No_keep_17 (fun H54 locs u55 hL => ?_)
    have k56 : va_at D vwCl (b, .inr (3, [.ref (b + 1), .ref (b + 3), .ref (b + 5), .ref (b + 7), .ref (b + 9), .int (z.st), .int (z.was), .int (z.se), .int (z.he), .int (z.lo + 1), .int (z.ma), .int (z.va), .int (z.sp), .int (z.dr), .int (z.pf), .int (z.ss), .int (z.on), .int (z.ro)])) H54 := u55.2.2
    refine lv_goto (tgt := 31) C.1 C.2.1 d_No_keep_20 (by decide) ?_
    have hf : f_No_keep z x = (sNd.mk z.st z.was z.se z.he (z.lo + 1) z.ma z.va z.sp z.dr z.pf z.ss z.on z.ro z.w z.i z.d z.k z.r) := by unfold f_No_keep; rw [if_neg c42]
    have k57 := hq_au kz.2.1.1 u55 (by omega)
    have k58 := hq_au kz.2.1.2 u55 (by omega)
    have k59 := hq_au kz.2.2.1.1 u55 (by omega)
    have k60 := hq_au kz.2.2.1.2 u55 (by omega)
    have k61 := hq_au kz.2.2.2.1.1 u55 (by omega)
    have k62 := hq_au kz.2.2.2.1.2 u55 (by omega)
    have k63 := hq_au kz.2.2.2.2.1.1 u55 (by omega)
    have k64 := hq_au kz.2.2.2.2.1.2 u55 (by omega)
    have k65 := hq_au kz.2.2.2.2.2 u55 (by omega)
    exact hq_vret C hret hlk (Nat.le_of_ble_eq_true rfl) (Nat.le_of_ble_eq_true rfl) hL ⟨rfl, by rw [hf]; exact ⟨k56, ⟨k57, k58⟩, ⟨k59, k60⟩, ⟨k61, k62⟩, ⟨k63, k64⟩, k65⟩, hq_Sput (hq_S0) u55 (by omega) (by omega)⟩ d_No_keep_31
theorem add_len {w : sFr} {x : Int32} (h : w.k ≤ 4) : (f_Fr_add w x).k ≤ 4 := by
  unfold f_Fr_add
  split
  · show w.k + 1 ≤ 4; omega
  · exact h
theorem ok_keep {z : sNd} {x : Int32} (ok : okNd z) : okNd (f_No_keep z x) := by
  unfold f_No_keep
  split
  all_goals first | exact ok | exact ⟨ok.1, add_len ok.2.1, ok.2.2⟩
def f_No_endHearing_52 (z : sNd) (v1 : Int32) : sNd × Int32 := if v1 = 0 then ((f_No_overload z)) else (((f_No_beginPause z), 0))
def f_No_endHearing_22 (z : sNd) (v1 : Int32) : sNd × Int32 := if (z.r.i &&& z.ma) = z.va then (f_No_endHearing_52 (f_No_keep z ((f_Re_frame z.r))) v1) else (f_No_endHearing_52 z v1)
def f_No_endHearing (z : sNd) (x : Int32) : sNd × Int32 := if z.he ≤ 0 then (f_No_endHearing_22 z x) else (f_No_endHearing_22 (sNd.mk z.st z.was z.se (f_Ma_min (z.he - 1) 127) z.lo z.ma z.va z.sp z.dr z.pf z.ss z.on z.ro z.w z.i z.d z.k z.r) x)
set_option maxHeartbeats 4000000 in
set_option maxRecDepth 100000 in
theorem s_No_endHearing_52 {p : Program} {l : Launch} {e : Env} {s : State} {m : MethodId} {args : Array Value} {below : List Frame} {meth : Method} {c : Code} {H : Heap} {locs : List Loc} {ls : Array Slot} (D : va_G) (cI cZ cN cJ : ClassId) (lo b : Nat) (hlo : lo ≤ b) (z : sNd) (ok : okNd z) (v1 : Int32) {R9 : sNd × Int32} (hR : f_No_endHearing_52 z v1 = R9) (C : hq_C p c s m args R_No b_No_endHearing TB D vwCl (TY cI cZ cN cJ)) (hml : c.maxLocals = 2) (hret : meth.sig.returnType = (some .int)) (hlk : meth.locks = false) (hL : hq_L lo locs) (kz : NdP D cI cZ b z H) (hS : hq_S b 10 s.heap H) (hl : lv_has ls 2 [(0, .ref (b)), (1, .int (v1))]) : W p l e { frames := 3, cells := 0, slots := 0, locals := 72 } s m args below meth c H locs 0 0 (MQ below (hq_Q (fun H v H' => v = some (.int (R9).2) ∧ NdP D cI cZ b (R9).1 H' ∧ hq_S b 10 H H')) args s 0 0 (fun q => lo ≤ q)) (F0 m 52 ls []) := by
  refine lv_iload_n C.1 C.2.1 d_No_endHearing_52 rfl (lv_at hl 1 rfl) ?_
  refine lv_if_ne (tgt := 61) C.1 C.2.1 d_No_endHearing_53 (by decide) ?_ ?_
  · intro c61
    refine lv_aload_n C.1 C.2.1 d_No_endHearing_61 rfl (lv_at hl 0 rfl) ?_
    refine hq_callV (lo := lo) (As := []) (rest := []) C tb_good hml Y_No_174 (c_No_beginPause l D cI cZ cN cJ lo (b) (by omega) z) kz.1 rfl (fun _ _ _ _ h => h) (fun U hU hW => by show NdP D cI cZ (b) z U.heap; rw [hU]; exact kz) hL hl.1 rfl rfl ⟨⟨Nat.le_of_ble_eq_true rfl, Nat.le_of_ble_eq_true rfl⟩, Nat.le_of_ble_eq_true rfl, Nat.le_of_ble_eq_true rfl⟩ (Nat.le_of_ble_eq_true rfl) d_No_endHearing_62 (fun v H64 locs hp hL => ?_)
    obtain ⟨rfl, k63, S62⟩ := hp
    refine W.eq (g2 := F0 m 65 ls []) rfl ?_
    refine lv_iconst (v := 0) C.1 C.2.1 d_No_endHearing_65 (by decide) ?_
    have hf : R9 = ((f_No_beginPause z), 0) := by rw [← hR]; unfold f_No_endHearing_52; rw [if_neg c61]
    exact hq_iret C hret hlk (Nat.le_of_ble_eq_true rfl) (Nat.le_of_ble_eq_true rfl) hL ⟨by rw [hf], by rw [hf]; exact k63, hq_Scall (hS) S62 (by omega) (by omega)⟩ d_No_endHearing_66
  · intro c61
    refine lv_aload_n C.1 C.2.1 d_No_endHearing_56 rfl (lv_at hl 0 rfl) ?_
    refine hq_callV (lo := lo) (As := []) (rest := []) C tb_good hml Y_No_198 (c_No_overload l D cI cZ cN cJ lo (b) (by omega) z) kz.1 rfl (fun _ _ _ _ h => h) (fun U hU hW => by show NdP D cI cZ (b) z U.heap; rw [hU]; exact kz) hL hl.1 rfl rfl ⟨⟨Nat.le_of_ble_eq_true rfl, Nat.le_of_ble_eq_true rfl⟩, Nat.le_of_ble_eq_true rfl, Nat.le_of_ble_eq_true rfl⟩ (Nat.le_of_ble_eq_true rfl) d_No_endHearing_57 (fun v H67 locs hp hL => ?_)
    obtain ⟨rfl, k66, S65⟩ := hp
    refine W.eq (g2 := F0 m 60 ls [.int ((f_No_overload z).2)]) rfl ?_
    have hf : R9 = (f_No_overload z) := by rw [← hR]; unfold f_No_endHearing_52; rw [if_pos c61]
    exact hq_iret C hret hlk (Nat.le_of_ble_eq_true rfl) (Nat.le_of_ble_eq_true rfl) hL ⟨by rw [hf], by rw [hf]; exact k66, hq_Scall (hS) S65 (by omega) (by omega)⟩ d_No_endHearing_60
set_option maxHeartbeats 4000000 in
set_option maxRecDepth 100000 in
theorem s_No_endHearing_22 {p : Program} {l : Launch} {e : Env} {s : State} {m : MethodId} {args : Array Value} {below : List Frame} {meth : Method} {c : Code} {H : Heap} {locs : List Loc} {ls : Array Slot} (D : va_G) (cI cZ cN cJ : ClassId) (lo b : Nat) (hlo : lo ≤ b) (z : sNd) (ok : okNd z) (v1 : Int32) {R9 : sNd × Int32} (hR : f_No_endHearing_22 z v1 = R9) (C : hq_C p c s m args R_No b_No_endHearing TB D vwCl (TY cI cZ cN cJ)) (hml : c.maxLocals = 2) (hret : meth.sig.returnType = (some .int)) (hlk : meth.locks = false) (hL : hq_L lo locs) (kz : NdP D cI cZ b z H) (hS : hq_S b 10 s.heap H) (hl : lv_has ls 2 [(0, .ref (b)), (1, .int (v1))]) : W p l e { frames := 3, cells := 0, slots := 0, locals := 72 } s m args below meth c H locs 0 0 (MQ below (hq_Q (fun H v H' => v = some (.int (R9).2) ∧ NdP D cI cZ b (R9).1 H' ∧ hq_S b 10 H H')) args s 0 0 (fun q => lo ≤ q)) (F0 m 22 ls []) := by
  refine lv_aload_n C.1 C.2.1 d_No_endHearing_22 rfl (lv_at hl 0 rfl) ?_
  refine hq_get (v := .ref (b + 9)) C f_No_38 kz.1 rfl d_No_endHearing_23 ?_
  refine hq_get (v := .int (z.r.i)) C f_No_189 kz.2.2.2.2.2 rfl d_No_endHearing_26 ?_
  refine lv_aload_n C.1 C.2.1 d_No_endHearing_29 rfl (lv_at hl 0 rfl) ?_
  refine hq_get (v := .int (z.ma)) C f_No_58 kz.1 rfl d_No_endHearing_30 ?_
  refine lv_iand C.1 C.2.1 d_No_endHearing_33 ?_
  refine lv_aload_n C.1 C.2.1 d_No_endHearing_34 rfl (lv_at hl 0 rfl) ?_
  refine hq_get (v := .int (z.va)) C f_No_61 kz.1 rfl d_No_endHearing_35 ?_
  refine lv_icmp_ne (tgt := 52) C.1 C.2.1 d_No_endHearing_38 (by decide) ?_ ?_
  · intro c61
    exact s_No_endHearing_52 D cI cZ cN cJ lo b hlo z ok v1 (((show f_No_endHearing_22 z v1 = f_No_endHearing_52 z v1 from by unfold f_No_endHearing_22; rw [if_neg c61]).symm).trans hR) C hml hret hlk hL kz (hS) (lv_push (lv_push (lv_nil hl) (lv_at hl 1 rfl)) (lv_at hl 0 rfl))
  · intro c61
    refine lv_aload_n C.1 C.2.1 d_No_endHearing_41 rfl (lv_at hl 0 rfl) ?_
    refine lv_aload_n C.1 C.2.1 d_No_endHearing_42 rfl (lv_at hl 0 rfl) ?_
    refine hq_get (v := .ref (b + 9)) C f_No_38 kz.1 rfl d_No_endHearing_43 ?_
    refine hq_callV (lo := lo) (As := []) (rest := [.ref (b)]) C tb_good hml Y_No_192 (c_Re_frame l D cI cZ cN cJ lo (b + 9) z.r) kz.2.2.2.2.2 rfl (fun _ _ _ _ h => h) (fun U hU hW => by show va_at D vwCl (b + 9, cRe z.r) U.heap; rw [hU]; exact kz.2.2.2.2.2) hL hl.1 rfl rfl ⟨⟨Nat.le_of_ble_eq_true rfl, Nat.le_of_ble_eq_true rfl⟩, Nat.le_of_ble_eq_true rfl, Nat.le_of_ble_eq_true rfl⟩ (Nat.le_of_ble_eq_true rfl) d_No_endHearing_46 (fun v H62 locs hp hL => ?_)
    obtain ⟨rfl, rfl⟩ := hp
    refine W.eq (g2 := F0 m 49 ls [.int ((f_Re_frame z.r)), .ref (b)]) rfl ?_
    refine hq_callV (lo := lo) (As := [.int ((f_Re_frame z.r))]) (rest := []) C tb_good hml Y_No_195 (c_No_keep l D cI cZ cN cJ lo (b) (by omega) z ok ((f_Re_frame z.r))) kz.1 rfl (fun _ _ _ _ h => h) (fun U hU hW => by show NdP D cI cZ (b) z U.heap; rw [hU]; exact kz) hL hl.1 rfl rfl ⟨⟨Nat.le_of_ble_eq_true rfl, Nat.le_of_ble_eq_true rfl⟩, Nat.le_of_ble_eq_true rfl, Nat.le_of_ble_eq_true rfl⟩ (Nat.le_of_ble_eq_true rfl) d_No_endHearing_49 (fun v H65 locs hp hL => ?_)
    obtain ⟨rfl, k64, S63⟩ := hp
    refine W.eq (g2 := F0 m 52 ls []) rfl ?_
    exact s_No_endHearing_52 D cI cZ cN cJ lo b hlo (f_No_keep z ((f_Re_frame z.r))) (ok_keep ok) v1 (((show f_No_endHearing_22 z v1 = f_No_endHearing_52 (f_No_keep z ((f_Re_frame z.r))) v1 from by unfold f_No_endHearing_22; rw [if_pos c61]).symm).trans hR) C hml hret hlk hL k64 (hq_Scall (hS) S63 (by omega) (by omega)) (lv_push (lv_push (lv_nil hl) (lv_at hl 1 rfl)) (lv_at hl 0 rfl))
set_option maxHeartbeats 4000000 in
set_option maxRecDepth 100000 in
theorem c_No_endHearing (l : Launch) (D : va_G) (cI cZ cN cJ : ClassId) (lo : Nat) (b : Nat) (hlo : lo ≤ b) (z : sNd) (ok : okNd z) (x : Int32) : hq_M l y_No_endHearing b_No_endHearing 2 (some .int) TB { frames := 3, cells := 0, slots := 0, locals := 72 } lo D vwCl (TY cI cZ cN cJ) [.ref (b), .int (x)] (fun U => NdP D cI cZ b z U.heap) (fun H v H' => v = some (.int (f_No_endHearing z x).2) ∧ NdP D cI cZ b (f_No_endHearing z x).1 H' ∧ hq_S b 10 H H') := by
  refine hq_ofW (by decide) (Nat.le_of_ble_eq_true rfl) ?_
  intro p e s m below meth c ls C hml hret hlk hnm hl hP
  have hL : hq_L lo [] := hq_L0
  have hl : lv_has ls 2 [(0, .ref (b)), (1, .int (x))] := hl
  have kz := hP
  refine lv_aload_n C.1 C.2.1 d_No_endHearing_0 rfl (lv_at hl 0 rfl) ?_
  refine hq_get (v := .int (z.he)) C f_No_52 kz.1 rfl d_No_endHearing_1 ?_
  refine lv_if_le (tgt := 22) C.1 C.2.1 d_No_endHearing_4 (by decide) ?_ ?_
  · intro c41
    exact s_No_endHearing_22 D cI cZ cN cJ lo b hlo z ok x ((show f_No_endHearing z x = f_No_endHearing_22 z x from by unfold f_No_endHearing; rw [if_pos c41]).symm) C hml hret hlk hL kz (hq_S0) (lv_push (lv_push (lv_nil hl) (lv_at hl 1 rfl)) (lv_at hl 0 rfl))
  · intro c41
    refine lv_aload_n C.1 C.2.1 d_No_endHearing_7 rfl (lv_at hl 0 rfl) ?_
    refine lv_aload_n C.1 C.2.1 d_No_endHearing_8 rfl (lv_at hl 0 rfl) ?_
    refine hq_get (v := .int (z.he)) C f_No_52 kz.1 rfl d_No_endHearing_9 ?_
    refine lv_iconst (v := 1) C.1 C.2.1 d_No_endHearing_12 (by decide) ?_
    refine lv_isub C.1 C.2.1 d_No_endHearing_13 ?_
    refine lv_bipush (v := 127) C.1 C.2.1 d_No_endHearing_14 (by decide) ?_
    refine hq_callS (lo := lo) (As := [.int (z.he - 1), .int (127)]) (rest := [.ref (b)]) C tb_good hml Y_No_183 (c_Ma_min l D cI cZ cN cJ lo (z.he - 1) 127) (fun _ _ _ _ h => h) (fun U hU hW => trivial) hL hl.1 rfl rfl ⟨⟨Nat.le_of_ble_eq_true rfl, Nat.le_of_ble_eq_true rfl⟩, Nat.le_of_ble_eq_true rfl, Nat.le_of_ble_eq_true rfl⟩ (Nat.le_of_ble_eq_true rfl) d_No_endHearing_16 (fun v H42 locs hp hL => ?_)
    obtain ⟨rfl, rfl⟩ := hp
    refine W.eq (g2 := F0 m 19 ls [.int (f_Ma_min (z.he - 1) 127), .ref (b)]) rfl ?_
    refine hq_put (lo := lo) C f_No_52 kz.1 rfl rfl (Nat.le_of_ble_eq_true rfl) hL (by omega) d_No_endHearing_19 (fun H43 locs u44 hL => ?_)
    have k45 : va_at D vwCl (b, .inr (3, [.ref (b + 1), .ref (b + 3), .ref (b + 5), .ref (b + 7), .ref (b + 9), .int (z.st), .int (z.was), .int (z.se), .int (f_Ma_min (z.he - 1) 127), .int (z.lo), .int (z.ma), .int (z.va), .int (z.sp), .int (z.dr), .int (z.pf), .int (z.ss), .int (z.on), .int (z.ro)])) H43 := u44.2.2
    have k46 := hq_au kz.2.1.1 u44 (by omega)
    have k47 := hq_au kz.2.1.2 u44 (by omega)
    have k48 := hq_au kz.2.2.1.1 u44 (by omega)
    have k49 := hq_au kz.2.2.1.2 u44 (by omega)
    have k50 := hq_au kz.2.2.2.1.1 u44 (by omega)
    have k51 := hq_au kz.2.2.2.1.2 u44 (by omega)
    have k52 := hq_au kz.2.2.2.2.1.1 u44 (by omega)
    have k53 := hq_au kz.2.2.2.2.1.2 u44 (by omega)
    have k54 := hq_au kz.2.2.2.2.2 u44 (by omega)
    exact s_No_endHearing_22 D cI cZ cN cJ lo b hlo (sNd.mk z.st z.was z.se (f_Ma_min (z.he - 1) 127) z.lo z.ma z.va z.sp z.dr z.pf z.ss z.on z.ro z.w z.i z.d z.k z.r) ⟨ok.1, ok.2.1, ok.2.2.1, ok.2.2.2⟩ x ((show f_No_endHearing z x = f_No_endHearing_22 (sNd.mk z.st z.was z.se (f_Ma_min (z.he - 1) 127) z.lo z.ma z.va z.sp z.dr z.pf z.ss z.on z.ro z.w z.i z.d z.k z.r) x from by unfold f_No_endHearing; rw [if_neg c41]).symm) C hml hret hlk hL ⟨k45, ⟨k46, k47⟩, ⟨k48, k49⟩, ⟨k50, k51⟩, ⟨k52, k53⟩, k54⟩ (hq_Sput (hq_S0) u44 (by omega) (by omega)) (lv_push (lv_push (lv_nil hl) (lv_at hl 1 rfl)) (lv_at hl 0 rfl))
