/-! The reader's methods, as functions. -/
theorem lv_nil {ls : Array Slot} {n : Nat} {L : List (Nat × Value)} (hl : lv_has ls n L) : lv_has ls n [] := ⟨hl.1, hl.2.1, fun _ h => by cases h⟩
theorem lv_push {ls : Array Slot} {n i : Nat} {v : Value} {L : List (Nat × Value)} (hl : lv_has ls n L) (h : ls[i]? = some (.val v)) : lv_has ls n ((i, v) :: L) := ⟨hl.1, hl.2.1, fun q hq => by rcases List.mem_cons.mp hq with rfl | hq; exact h; exact hl.2.2 q hq⟩
abbrev sRe := Int32 × Int32 × Int32 × Int32 × Int32 × Int32 × Int32 × Int32
abbrev sRe.p (r : sRe) : Int32 := r.1
abbrev sRe.c (r : sRe) : Int32 := r.2.1
abbrev sRe.l (r : sRe) : Int32 := r.2.2.1
abbrev sRe.e (r : sRe) : Int32 := r.2.2.2.1
abbrev sRe.g (r : sRe) : Int32 := r.2.2.2.2.1
abbrev sRe.i (r : sRe) : Int32 := r.2.2.2.2.2.1
abbrev sRe.b (r : sRe) : Int32 := r.2.2.2.2.2.2.1
abbrev sRe.d (r : sRe) : Int32 := r.2.2.2.2.2.2.2
abbrev sRe.mk (p c l e g i b d : Int32) : sRe := (p, c, l, e, g, i, b, d)
abbrev cRe (r : sRe) : va_E := .inr (4, [.int r.p, .int r.c, .int r.l, .int r.e, .int r.g, .int r.i, .int r.b, .int r.d])
def f_Fr_packed (x y z : Int32) : Int32 := x + 2048 * y + 8192 * z
theorem c_Fr_packed (l : Launch) (D : va_G) (cI cZ cN cJ : ClassId) (lo : Nat) (x y z : Int32) : hq_M l y_Fr_packed b_Fr_packed 3 (some .int) TB { frames := 0, cells := 0, slots := 0, locals := 0 } lo D vwCl (TY cI cZ cN cJ) [.int x, .int y, .int z] (fun _ => True) (fun H v H' => v = some (.int (f_Fr_packed x y z)) ∧ H' = H) := c_packed l D cI cZ cN cJ lo x y z
def f_Fr_idOf (x : Int32) : Int32 := x &&& 2047
set_option maxHeartbeats 4000000 in
set_option maxRecDepth 100000 in
theorem c_Fr_idOf (l : Launch) (D : va_G) (cI cZ cN cJ : ClassId) (lo : Nat)  (x : Int32) : hq_M l y_Fr_idOf b_Fr_idOf 1 (some .int) TB { frames := 0, cells := 0, slots := 0, locals := 0 } lo D vwCl (TY cI cZ cN cJ) [.int (x)] (fun _ => True) (fun H v H' => v = some (.int (f_Fr_idOf x)) ∧ H' = H) := by
  refine hq_ofW (by decide) (Nat.le_of_ble_eq_true rfl) ?_
  intro p e s m below meth c ls C hml hret hlk hnm hl hP
  have hL : hq_L lo [] := hq_L0
  have hl : lv_has ls 1 [(0, .int (x))] := hl
  refine lv_iload_n C.1 C.2.1 d_Fr_idOf_0 rfl (lv_at hl 0 rfl) ?_
  refine lv_sipush (v := 2047) C.1 C.2.1 d_Fr_idOf_1 (by decide) ?_
  refine lv_iand C.1 C.2.1 d_Fr_idOf_4 ?_
  have hf : f_Fr_idOf x = x &&& 2047 := rfl
  exact hq_iret C hret hlk (Nat.le_of_ble_eq_true rfl) (Nat.le_of_ble_eq_true rfl) hL ⟨by rw [hf], rfl⟩ d_Fr_idOf_5
def f_Fr_bytesOf (x : Int32) : Int32 := (x >>> (11 &&& 31)) &&& 3
set_option maxHeartbeats 4000000 in
set_option maxRecDepth 100000 in
theorem c_Fr_bytesOf (l : Launch) (D : va_G) (cI cZ cN cJ : ClassId) (lo : Nat)  (x : Int32) : hq_M l y_Fr_bytesOf b_Fr_bytesOf 1 (some .int) TB { frames := 0, cells := 0, slots := 0, locals := 0 } lo D vwCl (TY cI cZ cN cJ) [.int (x)] (fun _ => True) (fun H v H' => v = some (.int (f_Fr_bytesOf x)) ∧ H' = H) := by
  refine hq_ofW (by decide) (Nat.le_of_ble_eq_true rfl) ?_
  intro p e s m below meth c ls C hml hret hlk hnm hl hP
  have hL : hq_L lo [] := hq_L0
  have hl : lv_has ls 1 [(0, .int (x))] := hl
  refine lv_iload_n C.1 C.2.1 d_Fr_bytesOf_0 rfl (lv_at hl 0 rfl) ?_
  refine lv_bipush (v := 11) C.1 C.2.1 d_Fr_bytesOf_1 (by decide) ?_
  refine lv_ishr C.1 C.2.1 d_Fr_bytesOf_3 ?_
  refine lv_iconst (v := 3) C.1 C.2.1 d_Fr_bytesOf_4 (by decide) ?_
  refine lv_iand C.1 C.2.1 d_Fr_bytesOf_5 ?_
  have hf : f_Fr_bytesOf x = (x >>> (11 &&& 31)) &&& 3 := rfl
  exact hq_iret C hret hlk (Nat.le_of_ble_eq_true rfl) (Nat.le_of_ble_eq_true rfl) hL ⟨by rw [hf], rfl⟩ d_Fr_bytesOf_6
def f_Fr_dataOf (x : Int32) : Int32 := x >>> (13 &&& 31)
set_option maxHeartbeats 4000000 in
set_option maxRecDepth 100000 in
theorem c_Fr_dataOf (l : Launch) (D : va_G) (cI cZ cN cJ : ClassId) (lo : Nat)  (x : Int32) : hq_M l y_Fr_dataOf b_Fr_dataOf 1 (some .int) TB { frames := 0, cells := 0, slots := 0, locals := 0 } lo D vwCl (TY cI cZ cN cJ) [.int (x)] (fun _ => True) (fun H v H' => v = some (.int (f_Fr_dataOf x)) ∧ H' = H) := by
  refine hq_ofW (by decide) (Nat.le_of_ble_eq_true rfl) ?_
  intro p e s m below meth c ls C hml hret hlk hnm hl hP
  have hL : hq_L lo [] := hq_L0
  have hl : lv_has ls 1 [(0, .int (x))] := hl
  refine lv_iload_n C.1 C.2.1 d_Fr_dataOf_0 rfl (lv_at hl 0 rfl) ?_
  refine lv_bipush (v := 13) C.1 C.2.1 d_Fr_dataOf_1 (by decide) ?_
  refine lv_ishr C.1 C.2.1 d_Fr_dataOf_3 ?_
  have hf : f_Fr_dataOf x = x >>> (13 &&& 31) := rfl
  exact hq_iret C hret hlk (Nat.le_of_ble_eq_true rfl) (Nat.le_of_ble_eq_true rfl) hL ⟨by rw [hf], rfl⟩ d_Fr_dataOf_4
def f_Co_lengthFor (x : Int32) : Int32 := (19 + (8 * x)) + 15
set_option maxHeartbeats 4000000 in
set_option maxRecDepth 100000 in
theorem c_Co_lengthFor (l : Launch) (D : va_G) (cI cZ cN cJ : ClassId) (lo : Nat)  (x : Int32) : hq_M l y_Co_lengthFor b_Co_lengthFor 1 (some .int) TB { frames := 0, cells := 0, slots := 0, locals := 0 } lo D vwCl (TY cI cZ cN cJ) [.int (x)] (fun _ => True) (fun H v H' => v = some (.int (f_Co_lengthFor x)) ∧ H' = H) := by
  refine hq_ofW (by decide) (Nat.le_of_ble_eq_true rfl) ?_
  intro p e s m below meth c ls C hml hret hlk hnm hl hP
  have hL : hq_L lo [] := hq_L0
  have hl : lv_has ls 1 [(0, .int (x))] := hl
  refine lv_bipush (v := 19) C.1 C.2.1 d_Co_lengthFor_0 (by decide) ?_
  refine lv_bipush (v := 8) C.1 C.2.1 d_Co_lengthFor_2 (by decide) ?_
  refine lv_iload_n C.1 C.2.1 d_Co_lengthFor_4 rfl (lv_at hl 0 rfl) ?_
  refine lv_imul C.1 C.2.1 d_Co_lengthFor_5 ?_
  refine lv_iadd C.1 C.2.1 d_Co_lengthFor_6 ?_
  refine lv_bipush (v := 15) C.1 C.2.1 d_Co_lengthFor_7 (by decide) ?_
  refine lv_iadd C.1 C.2.1 d_Co_lengthFor_9 ?_
  have hf : f_Co_lengthFor x = (19 + (8 * x)) + 15 := rfl
  exact hq_iret C hret hlk (Nat.le_of_ble_eq_true rfl) (Nat.le_of_ble_eq_true rfl) hL ⟨by rw [hf], rfl⟩ d_Co_lengthFor_10
def f_Co_registerBehind (x y : Int32) : Int32 := if y = ((x >>> (14 &&& 31)) &&& 1) then ((x <<< (1 &&& 31)) &&& 32767) else (((x <<< (1 &&& 31)) &&& 32767) ^^^ 17817)
set_option maxHeartbeats 4000000 in
set_option maxRecDepth 100000 in
theorem c_Co_registerBehind (l : Launch) (D : va_G) (cI cZ cN cJ : ClassId) (lo : Nat)  (x y : Int32) : hq_M l y_Co_registerBehind b_Co_registerBehind 3 (some .int) TB { frames := 0, cells := 0, slots := 0, locals := 0 } lo D vwCl (TY cI cZ cN cJ) [.int (x), .int (y)] (fun _ => True) (fun H v H' => v = some (.int (f_Co_registerBehind x y)) ∧ H' = H) := by
  refine hq_ofW (by decide) (Nat.le_of_ble_eq_true rfl) ?_
  intro p e s m below meth c ls C hml hret hlk hnm hl hP
  have hL : hq_L lo [] := hq_L0
  have hl : lv_has ls 3 [(0, .int (x)), (1, .int (y))] := hl
  refine lv_iload_n C.1 C.2.1 d_Co_registerBehind_0 rfl (lv_at hl 0 rfl) ?_
  refine lv_iconst (v := 1) C.1 C.2.1 d_Co_registerBehind_1 (by decide) ?_
  refine lv_ishl C.1 C.2.1 d_Co_registerBehind_2 ?_
  refine lv_sipush (v := 32767) C.1 C.2.1 d_Co_registerBehind_3 (by decide) ?_
  refine lv_iand C.1 C.2.1 d_Co_registerBehind_6 ?_
  refine lv_istore_n C.1 C.2.1 d_Co_registerBehind_7 rfl hl (by decide) rfl (lv' := [(2, .int ((x <<< (1 &&& 31)) &&& 32767)), (0, .int (x)), (1, .int (y))]) (fun ls hl => ?_)
  refine lv_iload_n C.1 C.2.1 d_Co_registerBehind_8 rfl (lv_at hl 2 rfl) ?_
  refine lv_iload_n C.1 C.2.1 d_Co_registerBehind_9 rfl (lv_at hl 1 rfl) ?_
  refine lv_bipush (v := 14) C.1 C.2.1 d_Co_registerBehind_10 (by decide) ?_
  refine lv_ishr C.1 C.2.1 d_Co_registerBehind_12 ?_
  refine lv_iconst (v := 1) C.1 C.2.1 d_Co_registerBehind_13 (by decide) ?_
  refine lv_iand C.1 C.2.1 d_Co_registerBehind_14 ?_
  refine lv_icmp_eq (tgt := 26) C.1 C.2.1 d_Co_registerBehind_15 (by decide) ?_ ?_
  · intro c41
    refine lv_iload_n C.1 C.2.1 d_Co_registerBehind_26 rfl (lv_at hl 0 rfl) ?_
    have hf : f_Co_registerBehind x y = (x <<< (1 &&& 31)) &&& 32767 := by unfold f_Co_registerBehind; rw [if_pos c41]
    exact hq_iret C hret hlk (Nat.le_of_ble_eq_true rfl) (Nat.le_of_ble_eq_true rfl) hL ⟨by rw [hf], rfl⟩ d_Co_registerBehind_27
  · intro c41
    refine lv_iload_n C.1 C.2.1 d_Co_registerBehind_18 rfl (lv_at hl 0 rfl) ?_
    refine lv_sipush (v := 17817) C.1 C.2.1 d_Co_registerBehind_19 (by decide) ?_
    refine lv_ixor C.1 C.2.1 d_Co_registerBehind_22 ?_
    refine lv_goto (tgt := 27) C.1 C.2.1 d_Co_registerBehind_23 (by decide) ?_
    have hf : f_Co_registerBehind x y = ((x <<< (1 &&& 31)) &&& 32767) ^^^ 17817 := by unfold f_Co_registerBehind; rw [if_neg c41]
    exact hq_iret C hret hlk (Nat.le_of_ble_eq_true rfl) (Nat.le_of_ble_eq_true rfl) hL ⟨by rw [hf], rfl⟩ d_Co_registerBehind_27
def f_Re_padIsDue (r : sRe) : Int32 := if r.e = 5 then ((1 : Int32)) else ((0 : Int32))
set_option maxHeartbeats 4000000 in
set_option maxRecDepth 100000 in
theorem c_Re_padIsDue (l : Launch) (D : va_G) (cI cZ cN cJ : ClassId) (lo : Nat) (a : Nat) (r : sRe) : hq_M l y_Re_padIsDue b_Re_padIsDue 1 (some .boolean) TB { frames := 0, cells := 0, slots := 0, locals := 0 } lo D vwCl (TY cI cZ cN cJ) [.ref (a)] (fun U => va_at D vwCl (a, cRe r) U.heap) (fun H v H' => v = some (.int (f_Re_padIsDue r)) ∧ H' = H) := by
  refine hq_ofW (by decide) (Nat.le_of_ble_eq_true rfl) ?_
  intro p e s m below meth c ls C hml hret hlk hnm hl hP
  have hL : hq_L lo [] := hq_L0
  have hl : lv_has ls 1 [(0, .ref (a))] := hl
  have k0 : va_at D vwCl (a, .inr (4, [.int (r.p), .int (r.c), .int (r.l), .int (r.e), .int (r.g), .int (r.i), .int (r.b), .int (r.d)])) s.heap := hP
  refine lv_aload_n C.1 C.2.1 d_Re_padIsDue_0 rfl (lv_at hl 0 rfl) ?_
  refine hq_get (v := .int (r.e)) C f_Re_23 k0 rfl d_Re_padIsDue_1 ?_
  refine lv_iconst (v := 5) C.1 C.2.1 d_Re_padIsDue_4 (by decide) ?_
  refine lv_icmp_ne (tgt := 12) C.1 C.2.1 d_Re_padIsDue_5 (by decide) ?_ ?_
  · intro c41
    refine lv_iconst (v := 0) C.1 C.2.1 d_Re_padIsDue_12 (by decide) ?_
    have hf : f_Re_padIsDue r = (0 : Int32) := by unfold f_Re_padIsDue; rw [if_neg c41]
    exact hq_zret C hret hlk (by decide) (Nat.le_of_ble_eq_true rfl) (Nat.le_of_ble_eq_true rfl) hL ⟨by rw [hf], rfl⟩ d_Re_padIsDue_13
  · intro c41
    refine lv_iconst (v := 1) C.1 C.2.1 d_Re_padIsDue_8 (by decide) ?_
    refine lv_goto (tgt := 13) C.1 C.2.1 d_Re_padIsDue_9 (by decide) ?_
    have hf : f_Re_padIsDue r = (1 : Int32) := by unfold f_Re_padIsDue; rw [if_pos c41]
    exact hq_zret C hret hlk (by decide) (Nat.le_of_ble_eq_true rfl) (Nat.le_of_ble_eq_true rfl) hL ⟨by rw [hf], rfl⟩ d_Re_padIsDue_13
def f_Re_isBehindCore (r : sRe) : Int32 := if r.p < r.c then ((0 : Int32)) else (if (f_Re_padIsDue r) = 0 then ((1 : Int32)) else ((0 : Int32)))
set_option maxHeartbeats 4000000 in
set_option maxRecDepth 100000 in
theorem c_Re_isBehindCore (l : Launch) (D : va_G) (cI cZ cN cJ : ClassId) (lo : Nat) (a : Nat) (r : sRe) : hq_M l y_Re_isBehindCore b_Re_isBehindCore 1 (some .boolean) TB { frames := 1, cells := 0, slots := 0, locals := 20 } lo D vwCl (TY cI cZ cN cJ) [.ref (a)] (fun U => va_at D vwCl (a, cRe r) U.heap) (fun H v H' => v = some (.int (f_Re_isBehindCore r)) ∧ H' = H) := by
  refine hq_ofW (by decide) (Nat.le_of_ble_eq_true rfl) ?_
  intro p e s m below meth c ls C hml hret hlk hnm hl hP
  have hL : hq_L lo [] := hq_L0
  have hl : lv_has ls 1 [(0, .ref (a))] := hl
  have k0 : va_at D vwCl (a, .inr (4, [.int (r.p), .int (r.c), .int (r.l), .int (r.e), .int (r.g), .int (r.i), .int (r.b), .int (r.d)])) s.heap := hP
  refine lv_aload_n C.1 C.2.1 d_Re_isBehindCore_0 rfl (lv_at hl 0 rfl) ?_
  refine hq_get (v := .int (r.p)) C f_Re_9 k0 rfl d_Re_isBehindCore_1 ?_
  refine lv_aload_n C.1 C.2.1 d_Re_isBehindCore_4 rfl (lv_at hl 0 rfl) ?_
  refine hq_get (v := .int (r.c)) C f_Re_17 k0 rfl d_Re_isBehindCore_5 ?_
  refine lv_icmp_lt (tgt := 22) C.1 C.2.1 d_Re_isBehindCore_8 (by decide) ?_ ?_
  · intro c41
    refine lv_iconst (v := 0) C.1 C.2.1 d_Re_isBehindCore_22 (by decide) ?_
    have hf : f_Re_isBehindCore r = (0 : Int32) := by unfold f_Re_isBehindCore; rw [if_pos c41]
    exact hq_zret C hret hlk (by decide) (Nat.le_of_ble_eq_true rfl) (Nat.le_of_ble_eq_true rfl) hL ⟨by rw [hf], rfl⟩ d_Re_isBehindCore_23
  · intro c41
    refine lv_aload_n C.1 C.2.1 d_Re_isBehindCore_11 rfl (lv_at hl 0 rfl) ?_
    refine hq_callV (lo := lo) (As := []) (rest := []) C tb_good hml Y_Re_38 (c_Re_padIsDue l D cI cZ cN cJ lo a r) k0 rfl (fun _ _ _ _ h => h) (fun U hU hW => by show va_at D vwCl (a, .inr (4, [.int (r.p), .int (r.c), .int (r.l), .int (r.e), .int (r.g), .int (r.i), .int (r.b), .int (r.d)])) U.heap; rw [hU]; exact k0) hL hl.1 rfl rfl ⟨⟨Nat.le_of_ble_eq_true rfl, Nat.le_of_ble_eq_true rfl⟩, Nat.le_of_ble_eq_true rfl, Nat.le_of_ble_eq_true rfl⟩ (Nat.le_of_ble_eq_true rfl) d_Re_isBehindCore_12 (fun v H42 locs hp hL => ?_)
    obtain ⟨rfl, rfl⟩ := hp
    refine W.eq (g2 := F0 m 15 ls [.int (f_Re_padIsDue r)]) rfl ?_
    refine lv_if_ne (tgt := 22) C.1 C.2.1 d_Re_isBehindCore_15 (by decide) ?_ ?_
    · intro c43
      refine lv_iconst (v := 0) C.1 C.2.1 d_Re_isBehindCore_22 (by decide) ?_
      have hf : f_Re_isBehindCore r = (0 : Int32) := by unfold f_Re_isBehindCore; rw [if_neg c41, if_neg c43]
      exact hq_zret C hret hlk (by decide) (Nat.le_of_ble_eq_true rfl) (Nat.le_of_ble_eq_true rfl) hL ⟨by rw [hf], rfl⟩ d_Re_isBehindCore_23
    · intro c43
      refine lv_iconst (v := 1) C.1 C.2.1 d_Re_isBehindCore_18 (by decide) ?_
      refine lv_goto (tgt := 23) C.1 C.2.1 d_Re_isBehindCore_19 (by decide) ?_
      have hf : f_Re_isBehindCore r = (1 : Int32) := by unfold f_Re_isBehindCore; rw [if_neg c41, if_pos c43]
      exact hq_zret C hret hlk (by decide) (Nat.le_of_ble_eq_true rfl) (Nat.le_of_ble_eq_true rfl) hL ⟨by rw [hf], rfl⟩ d_Re_isBehindCore_23
def f_Re_isInId (r : sRe) : Int32 := if r.p < 1 then ((0 : Int32)) else (if 12 ≤ r.p then ((0 : Int32)) else (if (f_Re_padIsDue r) = 0 then ((1 : Int32)) else ((0 : Int32))))
set_option maxHeartbeats 4000000 in
set_option maxRecDepth 100000 in
theorem c_Re_isInId (l : Launch) (D : va_G) (cI cZ cN cJ : ClassId) (lo : Nat) (a : Nat) (r : sRe) : hq_M l y_Re_isInId b_Re_isInId 1 (some .boolean) TB { frames := 1, cells := 0, slots := 0, locals := 20 } lo D vwCl (TY cI cZ cN cJ) [.ref (a)] (fun U => va_at D vwCl (a, cRe r) U.heap) (fun H v H' => v = some (.int (f_Re_isInId r)) ∧ H' = H) := by
  refine hq_ofW (by decide) (Nat.le_of_ble_eq_true rfl) ?_
  intro p e s m below meth c ls C hml hret hlk hnm hl hP
  have hL : hq_L lo [] := hq_L0
  have hl : lv_has ls 1 [(0, .ref (a))] := hl
  have k0 : va_at D vwCl (a, .inr (4, [.int (r.p), .int (r.c), .int (r.l), .int (r.e), .int (r.g), .int (r.i), .int (r.b), .int (r.d)])) s.heap := hP
  refine lv_aload_n C.1 C.2.1 d_Re_isInId_0 rfl (lv_at hl 0 rfl) ?_
  refine hq_get (v := .int (r.p)) C f_Re_9 k0 rfl d_Re_isInId_1 ?_
  refine lv_iconst (v := 1) C.1 C.2.1 d_Re_isInId_4 (by decide) ?_
  refine lv_icmp_lt (tgt := 28) C.1 C.2.1 d_Re_isInId_5 (by decide) ?_ ?_
  · intro c41
    refine lv_iconst (v := 0) C.1 C.2.1 d_Re_isInId_28 (by decide) ?_
    have hf : f_Re_isInId r = (0 : Int32) := by unfold f_Re_isInId; rw [if_pos c41]
    exact hq_zret C hret hlk (by decide) (Nat.le_of_ble_eq_true rfl) (Nat.le_of_ble_eq_true rfl) hL ⟨by rw [hf], rfl⟩ d_Re_isInId_29
  · intro c41
    refine lv_aload_n C.1 C.2.1 d_Re_isInId_8 rfl (lv_at hl 0 rfl) ?_
    refine hq_get (v := .int (r.p)) C f_Re_9 k0 rfl d_Re_isInId_9 ?_
    refine lv_bipush (v := 12) C.1 C.2.1 d_Re_isInId_12 (by decide) ?_
    refine lv_icmp_ge (tgt := 28) C.1 C.2.1 d_Re_isInId_14 (by decide) ?_ ?_
    · intro c42
      refine lv_iconst (v := 0) C.1 C.2.1 d_Re_isInId_28 (by decide) ?_
      have hf : f_Re_isInId r = (0 : Int32) := by unfold f_Re_isInId; rw [if_neg c41, if_pos c42]
      exact hq_zret C hret hlk (by decide) (Nat.le_of_ble_eq_true rfl) (Nat.le_of_ble_eq_true rfl) hL ⟨by rw [hf], rfl⟩ d_Re_isInId_29
    · intro c42
      refine lv_aload_n C.1 C.2.1 d_Re_isInId_17 rfl (lv_at hl 0 rfl) ?_
      refine hq_callV (lo := lo) (As := []) (rest := []) C tb_good hml Y_Re_38 (c_Re_padIsDue l D cI cZ cN cJ lo a r) k0 rfl (fun _ _ _ _ h => h) (fun U hU hW => by show va_at D vwCl (a, .inr (4, [.int (r.p), .int (r.c), .int (r.l), .int (r.e), .int (r.g), .int (r.i), .int (r.b), .int (r.d)])) U.heap; rw [hU]; exact k0) hL hl.1 rfl rfl ⟨⟨Nat.le_of_ble_eq_true rfl, Nat.le_of_ble_eq_true rfl⟩, Nat.le_of_ble_eq_true rfl, Nat.le_of_ble_eq_true rfl⟩ (Nat.le_of_ble_eq_true rfl) d_Re_isInId_18 (fun v H43 locs hp hL => ?_)
      obtain ⟨rfl, rfl⟩ := hp
      refine W.eq (g2 := F0 m 21 ls [.int (f_Re_padIsDue r)]) rfl ?_
      refine lv_if_ne (tgt := 28) C.1 C.2.1 d_Re_isInId_21 (by decide) ?_ ?_
      · intro c44
        refine lv_iconst (v := 0) C.1 C.2.1 d_Re_isInId_28 (by decide) ?_
        have hf : f_Re_isInId r = (0 : Int32) := by unfold f_Re_isInId; rw [if_neg c41, if_neg c42, if_neg c44]
        exact hq_zret C hret hlk (by decide) (Nat.le_of_ble_eq_true rfl) (Nat.le_of_ble_eq_true rfl) hL ⟨by rw [hf], rfl⟩ d_Re_isInId_29
      · intro c44
        refine lv_iconst (v := 1) C.1 C.2.1 d_Re_isInId_24 (by decide) ?_
        refine lv_goto (tgt := 29) C.1 C.2.1 d_Re_isInId_25 (by decide) ?_
        have hf : f_Re_isInId r = (1 : Int32) := by unfold f_Re_isInId; rw [if_neg c41, if_neg c42, if_pos c44]
        exact hq_zret C hret hlk (by decide) (Nat.le_of_ble_eq_true rfl) (Nat.le_of_ble_eq_true rfl) hL ⟨by rw [hf], rfl⟩ d_Re_isInId_29
def f_Re_isAtAnswer (r : sRe) : Int32 := if (f_Re_isBehindCore r) = 0 then ((0 : Int32)) else (if (r.p - r.c) = 1 then ((1 : Int32)) else ((0 : Int32)))
set_option maxHeartbeats 4000000 in
set_option maxRecDepth 100000 in
theorem c_Re_isAtAnswer (l : Launch) (D : va_G) (cI cZ cN cJ : ClassId) (lo : Nat) (a : Nat) (r : sRe) : hq_M l y_Re_isAtAnswer b_Re_isAtAnswer 1 (some .boolean) TB { frames := 2, cells := 0, slots := 0, locals := 40 } lo D vwCl (TY cI cZ cN cJ) [.ref (a)] (fun U => va_at D vwCl (a, cRe r) U.heap) (fun H v H' => v = some (.int (f_Re_isAtAnswer r)) ∧ H' = H) := by
  refine hq_ofW (by decide) (Nat.le_of_ble_eq_true rfl) ?_
  intro p e s m below meth c ls C hml hret hlk hnm hl hP
  have hL : hq_L lo [] := hq_L0
  have hl : lv_has ls 1 [(0, .ref (a))] := hl
  have k0 : va_at D vwCl (a, .inr (4, [.int (r.p), .int (r.c), .int (r.l), .int (r.e), .int (r.g), .int (r.i), .int (r.b), .int (r.d)])) s.heap := hP
  refine lv_aload_n C.1 C.2.1 d_Re_isAtAnswer_0 rfl (lv_at hl 0 rfl) ?_
  refine hq_callV (lo := lo) (As := []) (rest := []) C tb_good hml Y_Re_42 (c_Re_isBehindCore l D cI cZ cN cJ lo a r) k0 rfl (fun _ _ _ _ h => h) (fun U hU hW => by show va_at D vwCl (a, .inr (4, [.int (r.p), .int (r.c), .int (r.l), .int (r.e), .int (r.g), .int (r.i), .int (r.b), .int (r.d)])) U.heap; rw [hU]; exact k0) hL hl.1 rfl rfl ⟨⟨Nat.le_of_ble_eq_true rfl, Nat.le_of_ble_eq_true rfl⟩, Nat.le_of_ble_eq_true rfl, Nat.le_of_ble_eq_true rfl⟩ (Nat.le_of_ble_eq_true rfl) d_Re_isAtAnswer_1 (fun v H41 locs hp hL => ?_)
  obtain ⟨rfl, rfl⟩ := hp
  refine W.eq (g2 := F0 m 4 ls [.int (f_Re_isBehindCore r)]) rfl ?_
  refine lv_if_eq (tgt := 24) C.1 C.2.1 d_Re_isAtAnswer_4 (by decide) ?_ ?_
  · intro c42
    refine lv_iconst (v := 0) C.1 C.2.1 d_Re_isAtAnswer_24 (by decide) ?_
    have hf : f_Re_isAtAnswer r = (0 : Int32) := by unfold f_Re_isAtAnswer; rw [if_pos c42]
    exact hq_zret C hret hlk (by decide) (Nat.le_of_ble_eq_true rfl) (Nat.le_of_ble_eq_true rfl) hL ⟨by rw [hf], rfl⟩ d_Re_isAtAnswer_25
  · intro c42
    refine lv_aload_n C.1 C.2.1 d_Re_isAtAnswer_7 rfl (lv_at hl 0 rfl) ?_
    refine hq_get (v := .int (r.p)) C f_Re_9 k0 rfl d_Re_isAtAnswer_8 ?_
    refine lv_aload_n C.1 C.2.1 d_Re_isAtAnswer_11 rfl (lv_at hl 0 rfl) ?_
    refine hq_get (v := .int (r.c)) C f_Re_17 k0 rfl d_Re_isAtAnswer_12 ?_
    refine lv_isub C.1 C.2.1 d_Re_isAtAnswer_15 ?_
    refine lv_iconst (v := 1) C.1 C.2.1 d_Re_isAtAnswer_16 (by decide) ?_
    refine lv_icmp_ne (tgt := 24) C.1 C.2.1 d_Re_isAtAnswer_17 (by decide) ?_ ?_
    · intro c43
      refine lv_iconst (v := 0) C.1 C.2.1 d_Re_isAtAnswer_24 (by decide) ?_
      have hf : f_Re_isAtAnswer r = (0 : Int32) := by unfold f_Re_isAtAnswer; rw [if_neg c42, if_neg c43]
      exact hq_zret C hret hlk (by decide) (Nat.le_of_ble_eq_true rfl) (Nat.le_of_ble_eq_true rfl) hL ⟨by rw [hf], rfl⟩ d_Re_isAtAnswer_25
    · intro c43
      refine lv_iconst (v := 1) C.1 C.2.1 d_Re_isAtAnswer_20 (by decide) ?_
      refine lv_goto (tgt := 25) C.1 C.2.1 d_Re_isAtAnswer_21 (by decide) ?_
      have hf : f_Re_isAtAnswer r = (1 : Int32) := by unfold f_Re_isAtAnswer; rw [if_neg c42, if_pos c43]
      exact hq_zret C hret hlk (by decide) (Nat.le_of_ble_eq_true rfl) (Nat.le_of_ble_eq_true rfl) hL ⟨by rw [hf], rfl⟩ d_Re_isAtAnswer_25
def f_Re_isAtEnd (r : sRe) : Int32 := if (r.p - r.c) ≤ 9 then ((0 : Int32)) else ((1 : Int32))
set_option maxHeartbeats 4000000 in
set_option maxRecDepth 100000 in
theorem c_Re_isAtEnd (l : Launch) (D : va_G) (cI cZ cN cJ : ClassId) (lo : Nat) (a : Nat) (r : sRe) : hq_M l y_Re_isAtEnd b_Re_isAtEnd 1 (some .boolean) TB { frames := 0, cells := 0, slots := 0, locals := 0 } lo D vwCl (TY cI cZ cN cJ) [.ref (a)] (fun U => va_at D vwCl (a, cRe r) U.heap) (fun H v H' => v = some (.int (f_Re_isAtEnd r)) ∧ H' = H) := by
  refine hq_ofW (by decide) (Nat.le_of_ble_eq_true rfl) ?_
  intro p e s m below meth c ls C hml hret hlk hnm hl hP
  have hL : hq_L lo [] := hq_L0
  have hl : lv_has ls 1 [(0, .ref (a))] := hl
  have k0 : va_at D vwCl (a, .inr (4, [.int (r.p), .int (r.c), .int (r.l), .int (r.e), .int (r.g), .int (r.i), .int (r.b), .int (r.d)])) s.heap := hP
  refine lv_aload_n C.1 C.2.1 d_Re_isAtEnd_0 rfl (lv_at hl 0 rfl) ?_
  refine hq_get (v := .int (r.p)) C f_Re_9 k0 rfl d_Re_isAtEnd_1 ?_
  refine lv_aload_n C.1 C.2.1 d_Re_isAtEnd_4 rfl (lv_at hl 0 rfl) ?_
  refine hq_get (v := .int (r.c)) C f_Re_17 k0 rfl d_Re_isAtEnd_5 ?_
  refine lv_isub C.1 C.2.1 d_Re_isAtEnd_8 ?_
  refine lv_bipush (v := 9) C.1 C.2.1 d_Re_isAtEnd_9 (by decide) ?_
  refine lv_icmp_le (tgt := 18) C.1 C.2.1 d_Re_isAtEnd_11 (by decide) ?_ ?_
  · intro c41
    refine lv_iconst (v := 0) C.1 C.2.1 d_Re_isAtEnd_18 (by decide) ?_
    have hf : f_Re_isAtEnd r = (0 : Int32) := by unfold f_Re_isAtEnd; rw [if_pos c41]
    exact hq_zret C hret hlk (by decide) (Nat.le_of_ble_eq_true rfl) (Nat.le_of_ble_eq_true rfl) hL ⟨by rw [hf], rfl⟩ d_Re_isAtEnd_19
  · intro c41
    refine lv_iconst (v := 1) C.1 C.2.1 d_Re_isAtEnd_14 (by decide) ?_
    refine lv_goto (tgt := 19) C.1 C.2.1 d_Re_isAtEnd_15 (by decide) ?_
    have hf : f_Re_isAtEnd r = (1 : Int32) := by unfold f_Re_isAtEnd; rw [if_neg c41]
    exact hq_zret C hret hlk (by decide) (Nat.le_of_ble_eq_true rfl) (Nat.le_of_ble_eq_true rfl) hL ⟨by rw [hf], rfl⟩ d_Re_isAtEnd_19
def f_Re_isRight (r : sRe) : Int32 := if r.g = 0 then ((1 : Int32)) else ((0 : Int32))
set_option maxHeartbeats 4000000 in
set_option maxRecDepth 100000 in
theorem c_Re_isRight (l : Launch) (D : va_G) (cI cZ cN cJ : ClassId) (lo : Nat) (a : Nat) (r : sRe) : hq_M l y_Re_isRight b_Re_isRight 1 (some .boolean) TB { frames := 0, cells := 0, slots := 0, locals := 0 } lo D vwCl (TY cI cZ cN cJ) [.ref (a)] (fun U => va_at D vwCl (a, cRe r) U.heap) (fun H v H' => v = some (.int (f_Re_isRight r)) ∧ H' = H) := by
  refine hq_ofW (by decide) (Nat.le_of_ble_eq_true rfl) ?_
  intro p e s m below meth c ls C hml hret hlk hnm hl hP
  have hL : hq_L lo [] := hq_L0
  have hl : lv_has ls 1 [(0, .ref (a))] := hl
  have k0 : va_at D vwCl (a, .inr (4, [.int (r.p), .int (r.c), .int (r.l), .int (r.e), .int (r.g), .int (r.i), .int (r.b), .int (r.d)])) s.heap := hP
  refine lv_aload_n C.1 C.2.1 d_Re_isRight_0 rfl (lv_at hl 0 rfl) ?_
  refine hq_get (v := .int (r.g)) C f_Re_26 k0 rfl d_Re_isRight_1 ?_
  refine lv_if_ne (tgt := 11) C.1 C.2.1 d_Re_isRight_4 (by decide) ?_ ?_
  · intro c41
    refine lv_iconst (v := 0) C.1 C.2.1 d_Re_isRight_11 (by decide) ?_
    have hf : f_Re_isRight r = (0 : Int32) := by unfold f_Re_isRight; rw [if_neg c41]
    exact hq_zret C hret hlk (by decide) (Nat.le_of_ble_eq_true rfl) (Nat.le_of_ble_eq_true rfl) hL ⟨by rw [hf], rfl⟩ d_Re_isRight_12
  · intro c41
    refine lv_iconst (v := 1) C.1 C.2.1 d_Re_isRight_7 (by decide) ?_
    refine lv_goto (tgt := 12) C.1 C.2.1 d_Re_isRight_8 (by decide) ?_
    have hf : f_Re_isRight r = (1 : Int32) := by unfold f_Re_isRight; rw [if_pos c41]
    exact hq_zret C hret hlk (by decide) (Nat.le_of_ble_eq_true rfl) (Nat.le_of_ble_eq_true rfl) hL ⟨by rw [hf], rfl⟩ d_Re_isRight_12
def f_Re_frame (r : sRe) : Int32 := f_Fr_packed r.i r.b r.d
set_option maxHeartbeats 4000000 in
set_option maxRecDepth 100000 in
theorem c_Re_frame (l : Launch) (D : va_G) (cI cZ cN cJ : ClassId) (lo : Nat) (a : Nat) (r : sRe) : hq_M l y_Re_frame b_Re_frame 1 (some .int) TB { frames := 1, cells := 0, slots := 0, locals := 22 } lo D vwCl (TY cI cZ cN cJ) [.ref (a)] (fun U => va_at D vwCl (a, cRe r) U.heap) (fun H v H' => v = some (.int (f_Re_frame r)) ∧ H' = H) := by
  refine hq_ofW (by decide) (Nat.le_of_ble_eq_true rfl) ?_
  intro p e s m below meth c ls C hml hret hlk hnm hl hP
  have hL : hq_L lo [] := hq_L0
  have hl : lv_has ls 1 [(0, .ref (a))] := hl
  have k0 : va_at D vwCl (a, .inr (4, [.int (r.p), .int (r.c), .int (r.l), .int (r.e), .int (r.g), .int (r.i), .int (r.b), .int (r.d)])) s.heap := hP
  refine lv_aload_n C.1 C.2.1 d_Re_frame_0 rfl (lv_at hl 0 rfl) ?_
  refine hq_get (v := .int (r.i)) C f_Re_29 k0 rfl d_Re_frame_1 ?_
  refine lv_aload_n C.1 C.2.1 d_Re_frame_4 rfl (lv_at hl 0 rfl) ?_
  refine hq_get (v := .int (r.b)) C f_Re_32 k0 rfl d_Re_frame_5 ?_
  refine lv_aload_n C.1 C.2.1 d_Re_frame_8 rfl (lv_at hl 0 rfl) ?_
  refine hq_get (v := .int (r.d)) C f_Re_35 k0 rfl d_Re_frame_9 ?_
  refine hq_callS (lo := lo) (As := [.int (r.i), .int (r.b), .int (r.d)]) (rest := []) C tb_good hml Y_Re_45 (c_Fr_packed l D cI cZ cN cJ lo r.i r.b r.d) (fun _ _ _ _ h => h) (fun U hU hW => trivial) hL hl.1 rfl rfl ⟨⟨Nat.le_of_ble_eq_true rfl, Nat.le_of_ble_eq_true rfl⟩, Nat.le_of_ble_eq_true rfl, Nat.le_of_ble_eq_true rfl⟩ (Nat.le_of_ble_eq_true rfl) d_Re_frame_12 (fun v H41 locs hp hL => ?_)
  obtain ⟨rfl, rfl⟩ := hp
  refine W.eq (g2 := F0 m 15 ls [.int (f_Fr_packed r.i r.b r.d)]) rfl ?_
  have hf : f_Re_frame r = f_Fr_packed r.i r.b r.d := rfl
  exact hq_iret C hret hlk (Nat.le_of_ble_eq_true rfl) (Nat.le_of_ble_eq_true rfl) hL ⟨by rw [hf], rfl⟩ d_Re_frame_15
def f_Re_begin (r : sRe) : sRe := (sRe.mk 0 50 1 0 0 0 0 0)
set_option maxHeartbeats 4000000 in
set_option maxRecDepth 100000 in
theorem c_Re_begin (l : Launch) (D : va_G) (cI cZ cN cJ : ClassId) (lo : Nat) (a : Nat) (hlo : lo ≤ a) (r : sRe) : hq_M l y_Re_begin b_Re_begin 1 none TB { frames := 0, cells := 0, slots := 0, locals := 0 } lo D vwCl (TY cI cZ cN cJ) [.ref (a)] (fun U => va_at D vwCl (a, cRe r) U.heap) (fun H v H' => v = none ∧ va_at D vwCl (a, cRe (f_Re_begin r)) H' ∧ hq_S a 1 H H') := by
  refine hq_ofW (by decide) (Nat.le_of_ble_eq_true rfl) ?_
  intro p e s m below meth c ls C hml hret hlk hnm hl hP
  have hL : hq_L lo [] := hq_L0
  have hl : lv_has ls 1 [(0, .ref (a))] := hl
  have k0 : va_at D vwCl (a, .inr (4, [.int (r.p), .int (r.c), .int (r.l), .int (r.e), .int (r.g), .int (r.i), .int (r.b), .int (r.d)])) s.heap := hP
  refine lv_aload_n C.1 C.2.1 d_Re_begin_0 rfl (lv_at hl 0 rfl) ?_
  refine lv_iconst (v := 0) C.1 C.2.1 d_Re_begin_1 (by decide) ?_
  refine hq_put (lo := lo) C f_Re_9 k0 rfl rfl (Nat.le_of_ble_eq_true rfl) hL (by omega) d_Re_begin_2 (fun H41 locs u42 hL => ?_)
  have k43 : va_at D vwCl (a, .inr (4, [.int (0), .int (r.c), .int (r.l), .int (r.e), .int (r.g), .int (r.i), .int (r.b), .int (r.d)])) H41 := u42.2.2
  refine lv_aload_n C.1 C.2.1 d_Re_begin_5 rfl (lv_at hl 0 rfl) ?_
  refine lv_bipush (v := 50) C.1 C.2.1 d_Re_begin_6 (by decide) ?_
  refine hq_put (lo := lo) C f_Re_17 k43 rfl rfl (Nat.le_of_ble_eq_true rfl) hL (by omega) d_Re_begin_8 (fun H44 locs u45 hL => ?_)
  have k46 : va_at D vwCl (a, .inr (4, [.int (0), .int (50), .int (r.l), .int (r.e), .int (r.g), .int (r.i), .int (r.b), .int (r.d)])) H44 := u45.2.2
  refine lv_aload_n C.1 C.2.1 d_Re_begin_11 rfl (lv_at hl 0 rfl) ?_
  refine lv_iconst (v := 1) C.1 C.2.1 d_Re_begin_12 (by decide) ?_
  refine hq_put (lo := lo) C f_Re_20 k46 rfl rfl (Nat.le_of_ble_eq_true rfl) hL (by omega) d_Re_begin_13 (fun H47 locs u48 hL => ?_)
  have k49 : va_at D vwCl (a, .inr (4, [.int (0), .int (50), .int (1), .int (r.e), .int (r.g), .int (r.i), .int (r.b), .int (r.d)])) H47 := u48.2.2
  refine lv_aload_n C.1 C.2.1 d_Re_begin_16 rfl (lv_at hl 0 rfl) ?_
  refine lv_iconst (v := 0) C.1 C.2.1 d_Re_begin_17 (by decide) ?_
  refine hq_put (lo := lo) C f_Re_23 k49 rfl rfl (Nat.le_of_ble_eq_true rfl) hL (by omega) d_Re_begin_18 (fun H50 locs u51 hL => ?_)
  have k52 : va_at D vwCl (a, .inr (4, [.int (0), .int (50), .int (1), .int (0), .int (r.g), .int (r.i), .int (r.b), .int (r.d)])) H50 := u51.2.2
  refine lv_aload_n C.1 C.2.1 d_Re_begin_21 rfl (lv_at hl 0 rfl) ?_
  refine lv_iconst (v := 0) C.1 C.2.1 d_Re_begin_22 (by decide) ?_
  refine hq_put (lo := lo) C f_Re_26 k52 rfl rfl (Nat.le_of_ble_eq_true rfl) hL (by omega) d_Re_begin_23 (fun H53 locs u54 hL => ?_)
  have k55 : va_at D vwCl (a, .inr (4, [.int (0), .int (50), .int (1), .int (0), .int (0), .int (r.i), .int (r.b), .int (r.d)])) H53 := u54.2.2
  refine lv_aload_n C.1 C.2.1 d_Re_begin_26 rfl (lv_at hl 0 rfl) ?_
  refine lv_iconst (v := 0) C.1 C.2.1 d_Re_begin_27 (by decide) ?_
  refine hq_put (lo := lo) C f_Re_29 k55 rfl rfl (Nat.le_of_ble_eq_true rfl) hL (by omega) d_Re_begin_28 (fun H56 locs u57 hL => ?_)
  have k58 : va_at D vwCl (a, .inr (4, [.int (0), .int (50), .int (1), .int (0), .int (0), .int (0), .int (r.b), .int (r.d)])) H56 := u57.2.2
  refine lv_aload_n C.1 C.2.1 d_Re_begin_31 rfl (lv_at hl 0 rfl) ?_
  refine lv_iconst (v := 0) C.1 C.2.1 d_Re_begin_32 (by decide) ?_
  refine hq_put (lo := lo) C f_Re_32 k58 rfl rfl (Nat.le_of_ble_eq_true rfl) hL (by omega) d_Re_begin_33 (fun H59 locs u60 hL => ?_)
  have k61 : va_at D vwCl (a, .inr (4, [.int (0), .int (50), .int (1), .int (0), .int (0), .int (0), .int (0), .int (r.d)])) H59 := u60.2.2
  refine lv_aload_n C.1 C.2.1 d_Re_begin_36 rfl (lv_at hl 0 rfl) ?_
  refine lv_iconst (v := 0) C.1 C.2.1 d_Re_begin_37 (by decide) ?_
  refine hq_put (lo := lo) C f_Re_35 k61 rfl rfl (Nat.le_of_ble_eq_true rfl) hL (by omega) d_Re_begin_38 (fun H62 locs u63 hL => ?_)
  have k64 : va_at D vwCl (a, .inr (4, [.int (0), .int (50), .int (1), .int (0), .int (0), .int (0), .int (0), .int (0)])) H62 := u63.2.2
  have hf : f_Re_begin r = (sRe.mk 0 50 1 0 0 0 0 0) := rfl
  exact hq_vret C hret hlk (Nat.le_of_ble_eq_true rfl) (Nat.le_of_ble_eq_true rfl) hL ⟨rfl, by rw [hf]; exact k64, hq_Sput (hq_Sput (hq_Sput (hq_Sput (hq_Sput (hq_Sput (hq_Sput (hq_Sput (hq_S0) u42 (by omega) (by omega)) u45 (by omega) (by omega)) u48 (by omega) (by omega)) u51 (by omega) (by omega)) u54 (by omega) (by omega)) u57 (by omega) (by omega)) u60 (by omega) (by omega)) u63 (by omega) (by omega)⟩ d_Re_begin_41
def f_Re_readData (r : sRe) (x : Int32) : sRe := (sRe.mk r.p r.c r.l r.e r.g r.i r.b (r.d ||| (x <<< ((((8 * ((r.p - 19) / 8)) + 7) - ((r.p - 19) - (r.p - 19) / 8 * 8)) &&& 31))))
set_option maxHeartbeats 4000000 in
set_option maxRecDepth 100000 in
theorem c_Re_readData (l : Launch) (D : va_G) (cI cZ cN cJ : ClassId) (lo : Nat) (a : Nat) (hlo : lo ≤ a) (r : sRe) (x : Int32) : hq_M l y_Re_readData b_Re_readData 4 none TB { frames := 0, cells := 0, slots := 0, locals := 0 } lo D vwCl (TY cI cZ cN cJ) [.ref (a), .int (x)] (fun U => va_at D vwCl (a, cRe r) U.heap) (fun H v H' => v = none ∧ va_at D vwCl (a, cRe (f_Re_readData r x)) H' ∧ hq_S a 1 H H') := by
  refine hq_ofW (by decide) (Nat.le_of_ble_eq_true rfl) ?_
  intro p e s m below meth c ls C hml hret hlk hnm hl hP
  have hL : hq_L lo [] := hq_L0
  have hl : lv_has ls 4 [(0, .ref (a)), (1, .int (x))] := hl
  have k0 : va_at D vwCl (a, .inr (4, [.int (r.p), .int (r.c), .int (r.l), .int (r.e), .int (r.g), .int (r.i), .int (r.b), .int (r.d)])) s.heap := hP
  refine lv_aload_n C.1 C.2.1 d_Re_readData_0 rfl (lv_at hl 0 rfl) ?_
  refine hq_get (v := .int (r.p)) C f_Re_9 k0 rfl d_Re_readData_1 ?_
  refine lv_bipush (v := 19) C.1 C.2.1 d_Re_readData_4 (by decide) ?_
  refine lv_isub C.1 C.2.1 d_Re_readData_6 ?_
  refine lv_istore_n C.1 C.2.1 d_Re_readData_7 rfl hl (by decide) rfl (lv' := [(2, .int (r.p - 19)), (0, .ref (a)), (1, .int (x))]) (fun ls hl => ?_)
  refine lv_bipush (v := 8) C.1 C.2.1 d_Re_readData_8 (by decide) ?_
  refine lv_iload_n C.1 C.2.1 d_Re_readData_10 rfl (lv_at hl 0 rfl) ?_
  refine lv_bipush (v := 8) C.1 C.2.1 d_Re_readData_11 (by decide) ?_
  refine lv_idiv C.1 C.2.1 d_Re_readData_13 (by decide) ?_
  refine lv_imul C.1 C.2.1 d_Re_readData_14 ?_
  refine lv_bipush (v := 7) C.1 C.2.1 d_Re_readData_15 (by decide) ?_
  refine lv_iadd C.1 C.2.1 d_Re_readData_17 ?_
  refine lv_iload_n C.1 C.2.1 d_Re_readData_18 rfl (lv_at hl 0 rfl) ?_
  refine lv_bipush (v := 8) C.1 C.2.1 d_Re_readData_19 (by decide) ?_
  refine lv_irem C.1 C.2.1 d_Re_readData_21 (by decide) ?_
  refine lv_isub C.1 C.2.1 d_Re_readData_22 ?_
  refine lv_istore_n C.1 C.2.1 d_Re_readData_23 rfl hl (by decide) rfl (lv' := [(3, .int (((8 * ((r.p - 19) / 8)) + 7) - ((r.p - 19) - (r.p - 19) / 8 * 8))), (2, .int (r.p - 19)), (0, .ref (a)), (1, .int (x))]) (fun ls hl => ?_)
  refine lv_aload_n C.1 C.2.1 d_Re_readData_24 rfl (lv_at hl 2 rfl) ?_
  refine lv_dup C.1 C.2.1 d_Re_readData_25 rfl ?_
  refine hq_get (v := .int (r.d)) C f_Re_35 k0 rfl d_Re_readData_26 ?_
  refine lv_iload_n C.1 C.2.1 d_Re_readData_29 rfl (lv_at hl 3 rfl) ?_
  refine lv_iload_n C.1 C.2.1 d_Re_readData_30 rfl (lv_at hl 0 rfl) ?_
  refine lv_ishl C.1 C.2.1 d_Re_readData_31 ?_
  refine lv_ior C.1 C.2.1 d_Re_readData_32 ?_
  refine hq_put (lo := lo) C f_Re_35 k0 rfl rfl (Nat.le_of_ble_eq_true rfl) hL (by omega) d_Re_readData_33 (fun H41 locs u42 hL => ?_)
  have k43 : va_at D vwCl (a, .inr (4, [.int (r.p), .int (r.c), .int (r.l), .int (r.e), .int (r.g), .int (r.i), .int (r.b), .int (r.d ||| (x <<< ((((8 * ((r.p - 19) / 8)) + 7) - ((r.p - 19) - (r.p - 19) / 8 * 8)) &&& 31)))])) H41 := u42.2.2
  have hf : f_Re_readData r x = (sRe.mk r.p r.c r.l r.e r.g r.i r.b (r.d ||| (x <<< ((((8 * ((r.p - 19) / 8)) + 7) - ((r.p - 19) - (r.p - 19) / 8 * 8)) &&& 31)))) := rfl
  exact hq_vret C hret hlk (Nat.le_of_ble_eq_true rfl) (Nat.le_of_ble_eq_true rfl) hL ⟨rfl, by rw [hf]; exact k43, hq_Sput (hq_S0) u42 (by omega) (by omega)⟩ d_Re_readData_36
def f_Re_readCore_142 (r : sRe) (v1 : Int32) : sRe := if (r.p + 1) = 19 then ((sRe.mk (r.p + 1) (f_Co_lengthFor r.b) r.l r.e r.g r.i r.b r.d)) else ((sRe.mk (r.p + 1) r.c r.l r.e r.g r.i r.b r.d))
def f_Re_readCore_46 (r : sRe) (v1 : Int32) : sRe := if r.p < 1 then (if r.p < 15 then (if r.p < 19 then (f_Re_readCore_142 r v1) else (if (19 + (8 * r.b)) ≤ r.p then (f_Re_readCore_142 r v1) else (f_Re_readCore_142 (f_Re_readData r v1) v1))) else (if 19 ≤ r.p then (if r.p < 19 then (f_Re_readCore_142 r v1) else (if (19 + (8 * r.b)) ≤ r.p then (f_Re_readCore_142 r v1) else (f_Re_readCore_142 (f_Re_readData r v1) v1))) else (f_Re_readCore_142 (sRe.mk r.p r.c r.l r.e r.g r.i ((r.b <<< (1 &&& 31)) ||| v1) r.d) v1))) else (if 12 ≤ r.p then (if r.p < 15 then (if r.p < 19 then (f_Re_readCore_142 r v1) else (if (19 + (8 * r.b)) ≤ r.p then (f_Re_readCore_142 r v1) else (f_Re_readCore_142 (f_Re_readData r v1) v1))) else (if 19 ≤ r.p then (if r.p < 19 then (f_Re_readCore_142 r v1) else (if (19 + (8 * r.b)) ≤ r.p then (f_Re_readCore_142 r v1) else (f_Re_readCore_142 (f_Re_readData r v1) v1))) else (f_Re_readCore_142 (sRe.mk r.p r.c r.l r.e r.g r.i ((r.b <<< (1 &&& 31)) ||| v1) r.d) v1))) else (f_Re_readCore_142 (sRe.mk r.p r.c r.l r.e r.g ((r.i <<< (1 &&& 31)) ||| v1) r.b r.d) v1))
def f_Re_readCore (r : sRe) (x : Int32) : sRe := if x = r.l then (if r.p ≤ 0 then (f_Re_readCore_46 (sRe.mk r.p r.c x 1 (f_Co_registerBehind r.g x) r.i r.b r.d) x) else (f_Re_readCore_46 (sRe.mk r.p r.c x (r.e + 1) (f_Co_registerBehind r.g x) r.i r.b r.d) x)) else (f_Re_readCore_46 (sRe.mk r.p r.c x 1 (f_Co_registerBehind r.g x) r.i r.b r.d) x)
set_option maxHeartbeats 4000000 in
set_option maxRecDepth 100000 in
theorem s_Re_readCore_142 {p : Program} {l : Launch} {e : Env} {s : State} {m : MethodId} {args : Array Value} {below : List Frame} {meth : Method} {c : Code} {H : Heap} {locs : List Loc} {ls : Array Slot} (D : va_G) (cI cZ cN cJ : ClassId) (lo a : Nat) (hlo : lo ≤ a) (r : sRe) (v1 : Int32) {R9 : sRe} (hR : f_Re_readCore_142 r v1 = R9) (C : hq_C p c s m args R_Re b_Re_readCore TB D vwCl (TY cI cZ cN cJ)) (hml : c.maxLocals = 2) (hret : meth.sig.returnType = none) (hlk : meth.locks = false) (hL : hq_L lo locs) (k0 : va_at D vwCl (a, .inr (4, [.int (r.p), .int (r.c), .int (r.l), .int (r.e), .int (r.g), .int (r.i), .int (r.b), .int (r.d)])) H) (hS : hq_S a 1 s.heap H) (hl : lv_has ls 2 [(0, .ref (a)), (1, .int (v1))]) : W p l e { frames := 1, cells := 0, slots := 0, locals := 23 } s m args below meth c H locs 0 0 (MQ below (hq_Q (fun H v H' => v = none ∧ va_at D vwCl (a, cRe (R9)) H' ∧ hq_S a 1 H H')) args s 0 0 (fun q => lo ≤ q)) (F0 m 142 ls []) := by
  refine lv_aload_n C.1 C.2.1 d_Re_readCore_142 rfl (lv_at hl 0 rfl) ?_
  refine lv_dup C.1 C.2.1 d_Re_readCore_143 rfl ?_
  refine hq_get (v := .int (r.p)) C f_Re_9 k0 rfl d_Re_readCore_144 ?_
  refine lv_iconst (v := 1) C.1 C.2.1 d_Re_readCore_147 (by decide) ?_
  refine lv_iadd C.1 C.2.1 d_Re_readCore_148 ?_
  refine hq_put (lo := lo) C f_Re_9 k0 rfl rfl (Nat.le_of_ble_eq_true rfl) hL (by omega) d_Re_readCore_149 (fun H61 locs u62 hL => ?_)
  have k63 : va_at D vwCl (a, .inr (4, [.int (r.p + 1), .int (r.c), .int (r.l), .int (r.e), .int (r.g), .int (r.i), .int (r.b), .int (r.d)])) H61 := u62.2.2
  refine lv_aload_n C.1 C.2.1 d_Re_readCore_152 rfl (lv_at hl 0 rfl) ?_
  refine hq_get (v := .int (r.p + 1)) C f_Re_9 k63 rfl d_Re_readCore_153 ?_
  refine lv_bipush (v := 19) C.1 C.2.1 d_Re_readCore_156 (by decide) ?_
  refine lv_icmp_ne (tgt := 172) C.1 C.2.1 d_Re_readCore_158 (by decide) ?_ ?_
  · intro c64
    have hf : R9 = (sRe.mk (r.p + 1) r.c r.l r.e r.g r.i r.b r.d) := by rw [← hR]; unfold f_Re_readCore_142; rw [if_neg c64]
    exact hq_vret C hret hlk (Nat.le_of_ble_eq_true rfl) (Nat.le_of_ble_eq_true rfl) hL ⟨rfl, by rw [hf]; exact k63, hq_Sput (hS) u62 (by omega) (by omega)⟩ d_Re_readCore_172
  · intro c64
    refine lv_aload_n C.1 C.2.1 d_Re_readCore_161 rfl (lv_at hl 0 rfl) ?_
    refine lv_aload_n C.1 C.2.1 d_Re_readCore_162 rfl (lv_at hl 0 rfl) ?_
    refine hq_get (v := .int (r.b)) C f_Re_32 k63 rfl d_Re_readCore_163 ?_
    refine hq_callS (lo := lo) (As := [.int (r.b)]) (rest := [.ref (a)]) C tb_good hml Y_Re_62 (c_Co_lengthFor l D cI cZ cN cJ lo r.b) (fun _ _ _ _ h => h) (fun U hU hW => trivial) hL hl.1 rfl rfl ⟨⟨Nat.le_of_ble_eq_true rfl, Nat.le_of_ble_eq_true rfl⟩, Nat.le_of_ble_eq_true rfl, Nat.le_of_ble_eq_true rfl⟩ (Nat.le_of_ble_eq_true rfl) d_Re_readCore_166 (fun v H65 locs hp hL => ?_)
    obtain ⟨rfl, rfl⟩ := hp
    refine W.eq (g2 := F0 m 169 ls [.int (f_Co_lengthFor r.b), .ref (a)]) rfl ?_
    refine hq_put (lo := lo) C f_Re_17 k63 rfl rfl (Nat.le_of_ble_eq_true rfl) hL (by omega) d_Re_readCore_169 (fun H66 locs u67 hL => ?_)
    have k68 : va_at D vwCl (a, .inr (4, [.int (r.p + 1), .int (f_Co_lengthFor r.b), .int (r.l), .int (r.e), .int (r.g), .int (r.i), .int (r.b), .int (r.d)])) H66 := u67.2.2
    have hf : R9 = (sRe.mk (r.p + 1) (f_Co_lengthFor r.b) r.l r.e r.g r.i r.b r.d) := by rw [← hR]; unfold f_Re_readCore_142; rw [if_pos c64]
    exact hq_vret C hret hlk (Nat.le_of_ble_eq_true rfl) (Nat.le_of_ble_eq_true rfl) hL ⟨rfl, by rw [hf]; exact k68, hq_Sput (hq_Sput (hS) u62 (by omega) (by omega)) u67 (by omega) (by omega)⟩ d_Re_readCore_172
set_option maxHeartbeats 4000000 in
set_option maxRecDepth 100000 in
theorem s_Re_readCore_46 {p : Program} {l : Launch} {e : Env} {s : State} {m : MethodId} {args : Array Value} {below : List Frame} {meth : Method} {c : Code} {H : Heap} {locs : List Loc} {ls : Array Slot} (D : va_G) (cI cZ cN cJ : ClassId) (lo a : Nat) (hlo : lo ≤ a) (r : sRe) (v1 : Int32) {R9 : sRe} (hR : f_Re_readCore_46 r v1 = R9) (C : hq_C p c s m args R_Re b_Re_readCore TB D vwCl (TY cI cZ cN cJ)) (hml : c.maxLocals = 2) (hret : meth.sig.returnType = none) (hlk : meth.locks = false) (hL : hq_L lo locs) (k0 : va_at D vwCl (a, .inr (4, [.int (r.p), .int (r.c), .int (r.l), .int (r.e), .int (r.g), .int (r.i), .int (r.b), .int (r.d)])) H) (hS : hq_S a 1 s.heap H) (hl : lv_has ls 2 [(0, .ref (a)), (1, .int (v1))]) : W p l e { frames := 1, cells := 0, slots := 0, locals := 23 } s m args below meth c H locs 0 0 (MQ below (hq_Q (fun H v H' => v = none ∧ va_at D vwCl (a, cRe (R9)) H' ∧ hq_S a 1 H H')) args s 0 0 (fun q => lo ≤ q)) (F0 m 46 ls []) := by
  refine lv_aload_n C.1 C.2.1 d_Re_readCore_46 rfl (lv_at hl 0 rfl) ?_
  refine hq_get (v := .int (r.p)) C f_Re_9 k0 rfl d_Re_readCore_47 ?_
  refine lv_iconst (v := 1) C.1 C.2.1 d_Re_readCore_50 (by decide) ?_
  refine lv_icmp_lt (tgt := 78) C.1 C.2.1 d_Re_readCore_51 (by decide) ?_ ?_
  · intro c61
    refine lv_aload_n C.1 C.2.1 d_Re_readCore_78 rfl (lv_at hl 0 rfl) ?_
    refine hq_get (v := .int (r.p)) C f_Re_9 k0 rfl d_Re_readCore_79 ?_
    refine lv_bipush (v := 15) C.1 C.2.1 d_Re_readCore_82 (by decide) ?_
    refine lv_icmp_lt (tgt := 111) C.1 C.2.1 d_Re_readCore_84 (by decide) ?_ ?_
    · intro c62
      refine lv_aload_n C.1 C.2.1 d_Re_readCore_111 rfl (lv_at hl 0 rfl) ?_
      refine hq_get (v := .int (r.p)) C f_Re_9 k0 rfl d_Re_readCore_112 ?_
      refine lv_bipush (v := 19) C.1 C.2.1 d_Re_readCore_115 (by decide) ?_
      refine lv_icmp_lt (tgt := 142) C.1 C.2.1 d_Re_readCore_117 (by decide) ?_ ?_
      · intro c63
        exact s_Re_readCore_142 D cI cZ cN cJ lo a hlo r v1 ((show f_Re_readCore_142 r v1 = f_Re_readCore_46 r v1 from (show f_Re_readCore_46 r v1 = f_Re_readCore_142 r v1 from by unfold f_Re_readCore_46; rw [if_pos c61, if_pos c62, if_pos c63]).symm).trans hR) C hml hret hlk hL k0 (hS) (lv_push (lv_push (lv_nil hl) (lv_at hl 1 rfl)) (lv_at hl 0 rfl))
      · intro c63
        refine lv_aload_n C.1 C.2.1 d_Re_readCore_120 rfl (lv_at hl 0 rfl) ?_
        refine hq_get (v := .int (r.p)) C f_Re_9 k0 rfl d_Re_readCore_121 ?_
        refine lv_bipush (v := 19) C.1 C.2.1 d_Re_readCore_124 (by decide) ?_
        refine lv_bipush (v := 8) C.1 C.2.1 d_Re_readCore_126 (by decide) ?_
        refine lv_aload_n C.1 C.2.1 d_Re_readCore_128 rfl (lv_at hl 0 rfl) ?_
        refine hq_get (v := .int (r.b)) C f_Re_32 k0 rfl d_Re_readCore_129 ?_
        refine lv_imul C.1 C.2.1 d_Re_readCore_132 ?_
        refine lv_iadd C.1 C.2.1 d_Re_readCore_133 ?_
        refine lv_icmp_ge (tgt := 142) C.1 C.2.1 d_Re_readCore_134 (by decide) ?_ ?_
        · intro c64
          exact s_Re_readCore_142 D cI cZ cN cJ lo a hlo r v1 ((show f_Re_readCore_142 r v1 = f_Re_readCore_46 r v1 from (show f_Re_readCore_46 r v1 = f_Re_readCore_142 r v1 from by unfold f_Re_readCore_46; rw [if_pos c61, if_pos c62, if_neg c63, if_pos c64]).symm).trans hR) C hml hret hlk hL k0 (hS) (lv_push (lv_push (lv_nil hl) (lv_at hl 1 rfl)) (lv_at hl 0 rfl))
        · intro c64
          refine lv_aload_n C.1 C.2.1 d_Re_readCore_137 rfl (lv_at hl 0 rfl) ?_
          refine lv_iload_n C.1 C.2.1 d_Re_readCore_138 rfl (lv_at hl 1 rfl) ?_
          refine hq_callV (lo := lo) (As := [.int (v1)]) (rest := []) C tb_good hml Y_Re_59 (c_Re_readData l D cI cZ cN cJ lo a (by omega) r v1) k0 rfl (fun _ _ _ _ h => h) (fun U hU hW => by show va_at D vwCl (a, .inr (4, [.int (r.p), .int (r.c), .int (r.l), .int (r.e), .int (r.g), .int (r.i), .int (r.b), .int (r.d)])) U.heap; rw [hU]; exact k0) hL hl.1 rfl rfl ⟨⟨Nat.le_of_ble_eq_true rfl, Nat.le_of_ble_eq_true rfl⟩, Nat.le_of_ble_eq_true rfl, Nat.le_of_ble_eq_true rfl⟩ (Nat.le_of_ble_eq_true rfl) d_Re_readCore_139 (fun v H67 locs hp hL => ?_)
          obtain ⟨rfl, k66, S65⟩ := hp
          refine W.eq (g2 := F0 m 142 ls []) rfl ?_
          exact s_Re_readCore_142 D cI cZ cN cJ lo a hlo (f_Re_readData r v1) v1 ((show f_Re_readCore_142 (f_Re_readData r v1) v1 = f_Re_readCore_46 r v1 from (show f_Re_readCore_46 r v1 = f_Re_readCore_142 (f_Re_readData r v1) v1 from by unfold f_Re_readCore_46; rw [if_pos c61, if_pos c62, if_neg c63, if_neg c64]).symm).trans hR) C hml hret hlk hL k66 (hq_Scall (hS) S65 (by omega) (by omega)) (lv_push (lv_push (lv_nil hl) (lv_at hl 1 rfl)) (lv_at hl 0 rfl))
    · intro c62
      refine lv_aload_n C.1 C.2.1 d_Re_readCore_87 rfl (lv_at hl 0 rfl) ?_
      refine hq_get (v := .int (r.p)) C f_Re_9 k0 rfl d_Re_readCore_88 ?_
      refine lv_bipush (v := 19) C.1 C.2.1 d_Re_readCore_91 (by decide) ?_
      refine lv_icmp_ge (tgt := 111) C.1 C.2.1 d_Re_readCore_93 (by decide) ?_ ?_
      · intro c68
        refine lv_aload_n C.1 C.2.1 d_Re_readCore_111 rfl (lv_at hl 0 rfl) ?_
        refine hq_get (v := .int (r.p)) C f_Re_9 k0 rfl d_Re_readCore_112 ?_
        refine lv_bipush (v := 19) C.1 C.2.1 d_Re_readCore_115 (by decide) ?_
        refine lv_icmp_lt (tgt := 142) C.1 C.2.1 d_Re_readCore_117 (by decide) ?_ ?_
        · intro c69
          exact s_Re_readCore_142 D cI cZ cN cJ lo a hlo r v1 ((show f_Re_readCore_142 r v1 = f_Re_readCore_46 r v1 from (show f_Re_readCore_46 r v1 = f_Re_readCore_142 r v1 from by unfold f_Re_readCore_46; rw [if_pos c61, if_neg c62, if_pos c68, if_pos c69]).symm).trans hR) C hml hret hlk hL k0 (hS) (lv_push (lv_push (lv_nil hl) (lv_at hl 1 rfl)) (lv_at hl 0 rfl))
        · intro c69
          refine lv_aload_n C.1 C.2.1 d_Re_readCore_120 rfl (lv_at hl 0 rfl) ?_
          refine hq_get (v := .int (r.p)) C f_Re_9 k0 rfl d_Re_readCore_121 ?_
          refine lv_bipush (v := 19) C.1 C.2.1 d_Re_readCore_124 (by decide) ?_
          refine lv_bipush (v := 8) C.1 C.2.1 d_Re_readCore_126 (by decide) ?_
          refine lv_aload_n C.1 C.2.1 d_Re_readCore_128 rfl (lv_at hl 0 rfl) ?_
          refine hq_get (v := .int (r.b)) C f_Re_32 k0 rfl d_Re_readCore_129 ?_
          refine lv_imul C.1 C.2.1 d_Re_readCore_132 ?_
          refine lv_iadd C.1 C.2.1 d_Re_readCore_133 ?_
          refine lv_icmp_ge (tgt := 142) C.1 C.2.1 d_Re_readCore_134 (by decide) ?_ ?_
          · intro c70
            exact s_Re_readCore_142 D cI cZ cN cJ lo a hlo r v1 ((show f_Re_readCore_142 r v1 = f_Re_readCore_46 r v1 from (show f_Re_readCore_46 r v1 = f_Re_readCore_142 r v1 from by unfold f_Re_readCore_46; rw [if_pos c61, if_neg c62, if_pos c68, if_neg c69, if_pos c70]).symm).trans hR) C hml hret hlk hL k0 (hS) (lv_push (lv_push (lv_nil hl) (lv_at hl 1 rfl)) (lv_at hl 0 rfl))
          · intro c70
            refine lv_aload_n C.1 C.2.1 d_Re_readCore_137 rfl (lv_at hl 0 rfl) ?_
            refine lv_iload_n C.1 C.2.1 d_Re_readCore_138 rfl (lv_at hl 1 rfl) ?_
            refine hq_callV (lo := lo) (As := [.int (v1)]) (rest := []) C tb_good hml Y_Re_59 (c_Re_readData l D cI cZ cN cJ lo a (by omega) r v1) k0 rfl (fun _ _ _ _ h => h) (fun U hU hW => by show va_at D vwCl (a, .inr (4, [.int (r.p), .int (r.c), .int (r.l), .int (r.e), .int (r.g), .int (r.i), .int (r.b), .int (r.d)])) U.heap; rw [hU]; exact k0) hL hl.1 rfl rfl ⟨⟨Nat.le_of_ble_eq_true rfl, Nat.le_of_ble_eq_true rfl⟩, Nat.le_of_ble_eq_true rfl, Nat.le_of_ble_eq_true rfl⟩ (Nat.le_of_ble_eq_true rfl) d_Re_readCore_139 (fun v H73 locs hp hL => ?_)
            obtain ⟨rfl, k72, S71⟩ := hp
            refine W.eq (g2 := F0 m 142 ls []) rfl ?_
            exact s_Re_readCore_142 D cI cZ cN cJ lo a hlo (f_Re_readData r v1) v1 ((show f_Re_readCore_142 (f_Re_readData r v1) v1 = f_Re_readCore_46 r v1 from (show f_Re_readCore_46 r v1 = f_Re_readCore_142 (f_Re_readData r v1) v1 from by unfold f_Re_readCore_46; rw [if_pos c61, if_neg c62, if_pos c68, if_neg c69, if_neg c70]).symm).trans hR) C hml hret hlk hL k72 (hq_Scall (hS) S71 (by omega) (by omega)) (lv_push (lv_push (lv_nil hl) (lv_at hl 1 rfl)) (lv_at hl 0 rfl))
      · intro c68
        refine lv_aload_n C.1 C.2.1 d_Re_readCore_96 rfl (lv_at hl 0 rfl) ?_
        refine lv_aload_n C.1 C.2.1 d_Re_readCore_97 rfl (lv_at hl 0 rfl) ?_
        refine hq_get (v := .int (r.b)) C f_Re_32 k0 rfl d_Re_readCore_98 ?_
        refine lv_iconst (v := 1) C.1 C.2.1 d_Re_readCore_101 (by decide) ?_
        refine lv_ishl C.1 C.2.1 d_Re_readCore_102 ?_
        refine lv_iload_n C.1 C.2.1 d_Re_readCore_103 rfl (lv_at hl 1 rfl) ?_
        refine lv_ior C.1 C.2.1 d_Re_readCore_104 ?_
        refine hq_put (lo := lo) C f_Re_32 k0 rfl rfl (Nat.le_of_ble_eq_true rfl) hL (by omega) d_Re_readCore_105 (fun H74 locs u75 hL => ?_)
        have k76 : va_at D vwCl (a, .inr (4, [.int (r.p), .int (r.c), .int (r.l), .int (r.e), .int (r.g), .int (r.i), .int ((r.b <<< (1 &&& 31)) ||| v1), .int (r.d)])) H74 := u75.2.2
        refine lv_goto (tgt := 142) C.1 C.2.1 d_Re_readCore_108 (by decide) ?_
        exact s_Re_readCore_142 D cI cZ cN cJ lo a hlo (sRe.mk r.p r.c r.l r.e r.g r.i ((r.b <<< (1 &&& 31)) ||| v1) r.d) v1 ((show f_Re_readCore_142 (sRe.mk r.p r.c r.l r.e r.g r.i ((r.b <<< (1 &&& 31)) ||| v1) r.d) v1 = f_Re_readCore_46 r v1 from (show f_Re_readCore_46 r v1 = f_Re_readCore_142 (sRe.mk r.p r.c r.l r.e r.g r.i ((r.b <<< (1 &&& 31)) ||| v1) r.d) v1 from by unfold f_Re_readCore_46; rw [if_pos c61, if_neg c62, if_neg c68]).symm).trans hR) C hml hret hlk hL k76 (hq_Sput (hS) u75 (by omega) (by omega)) (lv_push (lv_push (lv_nil hl) (lv_at hl 1 rfl)) (lv_at hl 0 rfl))
  · intro c61
    refine lv_aload_n C.1 C.2.1 d_Re_readCore_54 rfl (lv_at hl 0 rfl) ?_
    refine hq_get (v := .int (r.p)) C f_Re_9 k0 rfl d_Re_readCore_55 ?_
    refine lv_bipush (v := 12) C.1 C.2.1 d_Re_readCore_58 (by decide) ?_
    refine lv_icmp_ge (tgt := 78) C.1 C.2.1 d_Re_readCore_60 (by decide) ?_ ?_
    · intro c77
      refine lv_aload_n C.1 C.2.1 d_Re_readCore_78 rfl (lv_at hl 0 rfl) ?_
      refine hq_get (v := .int (r.p)) C f_Re_9 k0 rfl d_Re_readCore_79 ?_
      refine lv_bipush (v := 15) C.1 C.2.1 d_Re_readCore_82 (by decide) ?_
      refine lv_icmp_lt (tgt := 111) C.1 C.2.1 d_Re_readCore_84 (by decide) ?_ ?_
      · intro c78
        refine lv_aload_n C.1 C.2.1 d_Re_readCore_111 rfl (lv_at hl 0 rfl) ?_
        refine hq_get (v := .int (r.p)) C f_Re_9 k0 rfl d_Re_readCore_112 ?_
        refine lv_bipush (v := 19) C.1 C.2.1 d_Re_readCore_115 (by decide) ?_
        refine lv_icmp_lt (tgt := 142) C.1 C.2.1 d_Re_readCore_117 (by decide) ?_ ?_
        · intro c79
          exact s_Re_readCore_142 D cI cZ cN cJ lo a hlo r v1 ((show f_Re_readCore_142 r v1 = f_Re_readCore_46 r v1 from (show f_Re_readCore_46 r v1 = f_Re_readCore_142 r v1 from by unfold f_Re_readCore_46; rw [if_neg c61, if_pos c77, if_pos c78, if_pos c79]).symm).trans hR) C hml hret hlk hL k0 (hS) (lv_push (lv_push (lv_nil hl) (lv_at hl 1 rfl)) (lv_at hl 0 rfl))
        · intro c79
          refine lv_aload_n C.1 C.2.1 d_Re_readCore_120 rfl (lv_at hl 0 rfl) ?_
          refine hq_get (v := .int (r.p)) C f_Re_9 k0 rfl d_Re_readCore_121 ?_
          refine lv_bipush (v := 19) C.1 C.2.1 d_Re_readCore_124 (by decide) ?_
          refine lv_bipush (v := 8) C.1 C.2.1 d_Re_readCore_126 (by decide) ?_
          refine lv_aload_n C.1 C.2.1 d_Re_readCore_128 rfl (lv_at hl 0 rfl) ?_
          refine hq_get (v := .int (r.b)) C f_Re_32 k0 rfl d_Re_readCore_129 ?_
          refine lv_imul C.1 C.2.1 d_Re_readCore_132 ?_
          refine lv_iadd C.1 C.2.1 d_Re_readCore_133 ?_
          refine lv_icmp_ge (tgt := 142) C.1 C.2.1 d_Re_readCore_134 (by decide) ?_ ?_
          · intro c80
            exact s_Re_readCore_142 D cI cZ cN cJ lo a hlo r v1 ((show f_Re_readCore_142 r v1 = f_Re_readCore_46 r v1 from (show f_Re_readCore_46 r v1 = f_Re_readCore_142 r v1 from by unfold f_Re_readCore_46; rw [if_neg c61, if_pos c77, if_pos c78, if_neg c79, if_pos c80]).symm).trans hR) C hml hret hlk hL k0 (hS) (lv_push (lv_push (lv_nil hl) (lv_at hl 1 rfl)) (lv_at hl 0 rfl))
          · intro c80
            refine lv_aload_n C.1 C.2.1 d_Re_readCore_137 rfl (lv_at hl 0 rfl) ?_
            refine lv_iload_n C.1 C.2.1 d_Re_readCore_138 rfl (lv_at hl 1 rfl) ?_
            refine hq_callV (lo := lo) (As := [.int (v1)]) (rest := []) C tb_good hml Y_Re_59 (c_Re_readData l D cI cZ cN cJ lo a (by omega) r v1) k0 rfl (fun _ _ _ _ h => h) (fun U hU hW => by show va_at D vwCl (a, .inr (4, [.int (r.p), .int (r.c), .int (r.l), .int (r.e), .int (r.g), .int (r.i), .int (r.b), .int (r.d)])) U.heap; rw [hU]; exact k0) hL hl.1 rfl rfl ⟨⟨Nat.le_of_ble_eq_true rfl, Nat.le_of_ble_eq_true rfl⟩, Nat.le_of_ble_eq_true rfl, Nat.le_of_ble_eq_true rfl⟩ (Nat.le_of_ble_eq_true rfl) d_Re_readCore_139 (fun v H83 locs hp hL => ?_)
            obtain ⟨rfl, k82, S81⟩ := hp
            refine W.eq (g2 := F0 m 142 ls []) rfl ?_
            exact s_Re_readCore_142 D cI cZ cN cJ lo a hlo (f_Re_readData r v1) v1 ((show f_Re_readCore_142 (f_Re_readData r v1) v1 = f_Re_readCore_46 r v1 from (show f_Re_readCore_46 r v1 = f_Re_readCore_142 (f_Re_readData r v1) v1 from by unfold f_Re_readCore_46; rw [if_neg c61, if_pos c77, if_pos c78, if_neg c79, if_neg c80]).symm).trans hR) C hml hret hlk hL k82 (hq_Scall (hS) S81 (by omega) (by omega)) (lv_push (lv_push (lv_nil hl) (lv_at hl 1 rfl)) (lv_at hl 0 rfl))
      · intro c78
        refine lv_aload_n C.1 C.2.1 d_Re_readCore_87 rfl (lv_at hl 0 rfl) ?_
        refine hq_get (v := .int (r.p)) C f_Re_9 k0 rfl d_Re_readCore_88 ?_
        refine lv_bipush (v := 19) C.1 C.2.1 d_Re_readCore_91 (by decide) ?_
        refine lv_icmp_ge (tgt := 111) C.1 C.2.1 d_Re_readCore_93 (by decide) ?_ ?_
        · intro c84
          refine lv_aload_n C.1 C.2.1 d_Re_readCore_111 rfl (lv_at hl 0 rfl) ?_
          refine hq_get (v := .int (r.p)) C f_Re_9 k0 rfl d_Re_readCore_112 ?_
          refine lv_bipush (v := 19) C.1 C.2.1 d_Re_readCore_115 (by decide) ?_
          refine lv_icmp_lt (tgt := 142) C.1 C.2.1 d_Re_readCore_117 (by decide) ?_ ?_
          · intro c85
            exact s_Re_readCore_142 D cI cZ cN cJ lo a hlo r v1 ((show f_Re_readCore_142 r v1 = f_Re_readCore_46 r v1 from (show f_Re_readCore_46 r v1 = f_Re_readCore_142 r v1 from by unfold f_Re_readCore_46; rw [if_neg c61, if_pos c77, if_neg c78, if_pos c84, if_pos c85]).symm).trans hR) C hml hret hlk hL k0 (hS) (lv_push (lv_push (lv_nil hl) (lv_at hl 1 rfl)) (lv_at hl 0 rfl))
          · intro c85
            refine lv_aload_n C.1 C.2.1 d_Re_readCore_120 rfl (lv_at hl 0 rfl) ?_
            refine hq_get (v := .int (r.p)) C f_Re_9 k0 rfl d_Re_readCore_121 ?_
            refine lv_bipush (v := 19) C.1 C.2.1 d_Re_readCore_124 (by decide) ?_
            refine lv_bipush (v := 8) C.1 C.2.1 d_Re_readCore_126 (by decide) ?_
            refine lv_aload_n C.1 C.2.1 d_Re_readCore_128 rfl (lv_at hl 0 rfl) ?_
            refine hq_get (v := .int (r.b)) C f_Re_32 k0 rfl d_Re_readCore_129 ?_
            refine lv_imul C.1 C.2.1 d_Re_readCore_132 ?_
            refine lv_iadd C.1 C.2.1 d_Re_readCore_133 ?_
            refine lv_icmp_ge (tgt := 142) C.1 C.2.1 d_Re_readCore_134 (by decide) ?_ ?_
            · intro c86
              exact s_Re_readCore_142 D cI cZ cN cJ lo a hlo r v1 ((show f_Re_readCore_142 r v1 = f_Re_readCore_46 r v1 from (show f_Re_readCore_46 r v1 = f_Re_readCore_142 r v1 from by unfold f_Re_readCore_46; rw [if_neg c61, if_pos c77, if_neg c78, if_pos c84, if_neg c85, if_pos c86]).symm).trans hR) C hml hret hlk hL k0 (hS) (lv_push (lv_push (lv_nil hl) (lv_at hl 1 rfl)) (lv_at hl 0 rfl))
            · intro c86
              refine lv_aload_n C.1 C.2.1 d_Re_readCore_137 rfl (lv_at hl 0 rfl) ?_
              refine lv_iload_n C.1 C.2.1 d_Re_readCore_138 rfl (lv_at hl 1 rfl) ?_
              refine hq_callV (lo := lo) (As := [.int (v1)]) (rest := []) C tb_good hml Y_Re_59 (c_Re_readData l D cI cZ cN cJ lo a (by omega) r v1) k0 rfl (fun _ _ _ _ h => h) (fun U hU hW => by show va_at D vwCl (a, .inr (4, [.int (r.p), .int (r.c), .int (r.l), .int (r.e), .int (r.g), .int (r.i), .int (r.b), .int (r.d)])) U.heap; rw [hU]; exact k0) hL hl.1 rfl rfl ⟨⟨Nat.le_of_ble_eq_true rfl, Nat.le_of_ble_eq_true rfl⟩, Nat.le_of_ble_eq_true rfl, Nat.le_of_ble_eq_true rfl⟩ (Nat.le_of_ble_eq_true rfl) d_Re_readCore_139 (fun v H89 locs hp hL => ?_)
              obtain ⟨rfl, k88, S87⟩ := hp
              refine W.eq (g2 := F0 m 142 ls []) rfl ?_
              exact s_Re_readCore_142 D cI cZ cN cJ lo a hlo (f_Re_readData r v1) v1 ((show f_Re_readCore_142 (f_Re_readData r v1) v1 = f_Re_readCore_46 r v1 from (show f_Re_readCore_46 r v1 = f_Re_readCore_142 (f_Re_readData r v1) v1 from by unfold f_Re_readCore_46; rw [if_neg c61, if_pos c77, if_neg c78, if_pos c84, if_neg c85, if_neg c86]).symm).trans hR) C hml hret hlk hL k88 (hq_Scall (hS) S87 (by omega) (by omega)) (lv_push (lv_push (lv_nil hl) (lv_at hl 1 rfl)) (lv_at hl 0 rfl))
        · intro c84
          refine lv_aload_n C.1 C.2.1 d_Re_readCore_96 rfl (lv_at hl 0 rfl) ?_
          refine lv_aload_n C.1 C.2.1 d_Re_readCore_97 rfl (lv_at hl 0 rfl) ?_
          refine hq_get (v := .int (r.b)) C f_Re_32 k0 rfl d_Re_readCore_98 ?_
          refine lv_iconst (v := 1) C.1 C.2.1 d_Re_readCore_101 (by decide) ?_
          refine lv_ishl C.1 C.2.1 d_Re_readCore_102 ?_
          refine lv_iload_n C.1 C.2.1 d_Re_readCore_103 rfl (lv_at hl 1 rfl) ?_
          refine lv_ior C.1 C.2.1 d_Re_readCore_104 ?_
          refine hq_put (lo := lo) C f_Re_32 k0 rfl rfl (Nat.le_of_ble_eq_true rfl) hL (by omega) d_Re_readCore_105 (fun H90 locs u91 hL => ?_)
          have k92 : va_at D vwCl (a, .inr (4, [.int (r.p), .int (r.c), .int (r.l), .int (r.e), .int (r.g), .int (r.i), .int ((r.b <<< (1 &&& 31)) ||| v1), .int (r.d)])) H90 := u91.2.2
          refine lv_goto (tgt := 142) C.1 C.2.1 d_Re_readCore_108 (by decide) ?_
          exact s_Re_readCore_142 D cI cZ cN cJ lo a hlo (sRe.mk r.p r.c r.l r.e r.g r.i ((r.b <<< (1 &&& 31)) ||| v1) r.d) v1 ((show f_Re_readCore_142 (sRe.mk r.p r.c r.l r.e r.g r.i ((r.b <<< (1 &&& 31)) ||| v1) r.d) v1 = f_Re_readCore_46 r v1 from (show f_Re_readCore_46 r v1 = f_Re_readCore_142 (sRe.mk r.p r.c r.l r.e r.g r.i ((r.b <<< (1 &&& 31)) ||| v1) r.d) v1 from by unfold f_Re_readCore_46; rw [if_neg c61, if_pos c77, if_neg c78, if_neg c84]).symm).trans hR) C hml hret hlk hL k92 (hq_Sput (hS) u91 (by omega) (by omega)) (lv_push (lv_push (lv_nil hl) (lv_at hl 1 rfl)) (lv_at hl 0 rfl))
    · intro c77
      refine lv_aload_n C.1 C.2.1 d_Re_readCore_63 rfl (lv_at hl 0 rfl) ?_
      refine lv_aload_n C.1 C.2.1 d_Re_readCore_64 rfl (lv_at hl 0 rfl) ?_
      refine hq_get (v := .int (r.i)) C f_Re_29 k0 rfl d_Re_readCore_65 ?_
      refine lv_iconst (v := 1) C.1 C.2.1 d_Re_readCore_68 (by decide) ?_
      refine lv_ishl C.1 C.2.1 d_Re_readCore_69 ?_
      refine lv_iload_n C.1 C.2.1 d_Re_readCore_70 rfl (lv_at hl 1 rfl) ?_
      refine lv_ior C.1 C.2.1 d_Re_readCore_71 ?_
      refine hq_put (lo := lo) C f_Re_29 k0 rfl rfl (Nat.le_of_ble_eq_true rfl) hL (by omega) d_Re_readCore_72 (fun H93 locs u94 hL => ?_)
      have k95 : va_at D vwCl (a, .inr (4, [.int (r.p), .int (r.c), .int (r.l), .int (r.e), .int (r.g), .int ((r.i <<< (1 &&& 31)) ||| v1), .int (r.b), .int (r.d)])) H93 := u94.2.2
      refine lv_goto (tgt := 142) C.1 C.2.1 d_Re_readCore_75 (by decide) ?_
      exact s_Re_readCore_142 D cI cZ cN cJ lo a hlo (sRe.mk r.p r.c r.l r.e r.g ((r.i <<< (1 &&& 31)) ||| v1) r.b r.d) v1 ((show f_Re_readCore_142 (sRe.mk r.p r.c r.l r.e r.g ((r.i <<< (1 &&& 31)) ||| v1) r.b r.d) v1 = f_Re_readCore_46 r v1 from (show f_Re_readCore_46 r v1 = f_Re_readCore_142 (sRe.mk r.p r.c r.l r.e r.g ((r.i <<< (1 &&& 31)) ||| v1) r.b r.d) v1 from by unfold f_Re_readCore_46; rw [if_neg c61, if_neg c77]).symm).trans hR) C hml hret hlk hL k95 (hq_Sput (hS) u94 (by omega) (by omega)) (lv_push (lv_push (lv_nil hl) (lv_at hl 1 rfl)) (lv_at hl 0 rfl))
set_option maxHeartbeats 4000000 in
set_option maxRecDepth 100000 in
theorem c_Re_readCore (l : Launch) (D : va_G) (cI cZ cN cJ : ClassId) (lo : Nat) (a : Nat) (hlo : lo ≤ a) (r : sRe) (x : Int32) : hq_M l y_Re_readCore b_Re_readCore 2 none TB { frames := 1, cells := 0, slots := 0, locals := 23 } lo D vwCl (TY cI cZ cN cJ) [.ref (a), .int (x)] (fun U => va_at D vwCl (a, cRe r) U.heap) (fun H v H' => v = none ∧ va_at D vwCl (a, cRe (f_Re_readCore r x)) H' ∧ hq_S a 1 H H') := by
  refine hq_ofW (by decide) (Nat.le_of_ble_eq_true rfl) ?_
  intro p e s m below meth c ls C hml hret hlk hnm hl hP
  have hL : hq_L lo [] := hq_L0
  have hl : lv_has ls 2 [(0, .ref (a)), (1, .int (x))] := hl
  have k0 : va_at D vwCl (a, .inr (4, [.int (r.p), .int (r.c), .int (r.l), .int (r.e), .int (r.g), .int (r.i), .int (r.b), .int (r.d)])) s.heap := hP
  refine lv_aload_n C.1 C.2.1 d_Re_readCore_0 rfl (lv_at hl 0 rfl) ?_
  refine lv_iload_n C.1 C.2.1 d_Re_readCore_1 rfl (lv_at hl 1 rfl) ?_
  refine lv_aload_n C.1 C.2.1 d_Re_readCore_2 rfl (lv_at hl 0 rfl) ?_
  refine hq_get (v := .int (r.l)) C f_Re_20 k0 rfl d_Re_readCore_3 ?_
  refine lv_icmp_ne (tgt := 25) C.1 C.2.1 d_Re_readCore_6 (by decide) ?_ ?_
  · intro c41
    refine lv_iconst (v := 1) C.1 C.2.1 d_Re_readCore_25 (by decide) ?_
    refine hq_put (lo := lo) C f_Re_23 k0 rfl rfl (Nat.le_of_ble_eq_true rfl) hL (by omega) d_Re_readCore_26 (fun H42 locs u43 hL => ?_)
    have k44 : va_at D vwCl (a, .inr (4, [.int (r.p), .int (r.c), .int (r.l), .int (1), .int (r.g), .int (r.i), .int (r.b), .int (r.d)])) H42 := u43.2.2
    refine lv_aload_n C.1 C.2.1 d_Re_readCore_29 rfl (lv_at hl 0 rfl) ?_
    refine lv_iload_n C.1 C.2.1 d_Re_readCore_30 rfl (lv_at hl 1 rfl) ?_
    refine hq_put (lo := lo) C f_Re_20 k44 rfl rfl (Nat.le_of_ble_eq_true rfl) hL (by omega) d_Re_readCore_31 (fun H45 locs u46 hL => ?_)
    have k47 : va_at D vwCl (a, .inr (4, [.int (r.p), .int (r.c), .int (x), .int (1), .int (r.g), .int (r.i), .int (r.b), .int (r.d)])) H45 := u46.2.2
    refine lv_aload_n C.1 C.2.1 d_Re_readCore_34 rfl (lv_at hl 0 rfl) ?_
    refine lv_aload_n C.1 C.2.1 d_Re_readCore_35 rfl (lv_at hl 0 rfl) ?_
    refine hq_get (v := .int (r.g)) C f_Re_26 k47 rfl d_Re_readCore_36 ?_
    refine lv_iload_n C.1 C.2.1 d_Re_readCore_39 rfl (lv_at hl 1 rfl) ?_
    refine hq_callS (lo := lo) (As := [.int (r.g), .int (x)]) (rest := [.ref (a)]) C tb_good hml Y_Re_55 (c_Co_registerBehind l D cI cZ cN cJ lo r.g x) (fun _ _ _ _ h => h) (fun U hU hW => trivial) hL hl.1 rfl rfl ⟨⟨Nat.le_of_ble_eq_true rfl, Nat.le_of_ble_eq_true rfl⟩, Nat.le_of_ble_eq_true rfl, Nat.le_of_ble_eq_true rfl⟩ (Nat.le_of_ble_eq_true rfl) d_Re_readCore_40 (fun v H48 locs hp hL => ?_)
    obtain ⟨rfl, rfl⟩ := hp
    refine W.eq (g2 := F0 m 43 ls [.int (f_Co_registerBehind r.g x), .ref (a)]) rfl ?_
    refine hq_put (lo := lo) C f_Re_26 k47 rfl rfl (Nat.le_of_ble_eq_true rfl) hL (by omega) d_Re_readCore_43 (fun H49 locs u50 hL => ?_)
    have k51 : va_at D vwCl (a, .inr (4, [.int (r.p), .int (r.c), .int (x), .int (1), .int (f_Co_registerBehind r.g x), .int (r.i), .int (r.b), .int (r.d)])) H49 := u50.2.2
    exact s_Re_readCore_46 D cI cZ cN cJ lo a hlo (sRe.mk r.p r.c x 1 (f_Co_registerBehind r.g x) r.i r.b r.d) x (show f_Re_readCore_46 (sRe.mk r.p r.c x 1 (f_Co_registerBehind r.g x) r.i r.b r.d) x = f_Re_readCore r x from (show f_Re_readCore r x = f_Re_readCore_46 (sRe.mk r.p r.c x 1 (f_Co_registerBehind r.g x) r.i r.b r.d) x from by unfold f_Re_readCore; rw [if_neg c41]).symm) C hml hret hlk hL k51 (hq_Sput (hq_Sput (hq_Sput (hq_S0) u43 (by omega) (by omega)) u46 (by omega) (by omega)) u50 (by omega) (by omega)) (lv_push (lv_push (lv_nil hl) (lv_at hl 1 rfl)) (lv_at hl 0 rfl))
  · intro c41
    refine lv_aload_n C.1 C.2.1 d_Re_readCore_9 rfl (lv_at hl 0 rfl) ?_
    refine hq_get (v := .int (r.p)) C f_Re_9 k0 rfl d_Re_readCore_10 ?_
    refine lv_if_le (tgt := 25) C.1 C.2.1 d_Re_readCore_13 (by decide) ?_ ?_
    · intro c52
      refine lv_iconst (v := 1) C.1 C.2.1 d_Re_readCore_25 (by decide) ?_
      refine hq_put (lo := lo) C f_Re_23 k0 rfl rfl (Nat.le_of_ble_eq_true rfl) hL (by omega) d_Re_readCore_26 (fun H53 locs u54 hL => ?_)
      have k55 : va_at D vwCl (a, .inr (4, [.int (r.p), .int (r.c), .int (r.l), .int (1), .int (r.g), .int (r.i), .int (r.b), .int (r.d)])) H53 := u54.2.2
      refine lv_aload_n C.1 C.2.1 d_Re_readCore_29 rfl (lv_at hl 0 rfl) ?_
      refine lv_iload_n C.1 C.2.1 d_Re_readCore_30 rfl (lv_at hl 1 rfl) ?_
      refine hq_put (lo := lo) C f_Re_20 k55 rfl rfl (Nat.le_of_ble_eq_true rfl) hL (by omega) d_Re_readCore_31 (fun H56 locs u57 hL => ?_)
      have k58 : va_at D vwCl (a, .inr (4, [.int (r.p), .int (r.c), .int (x), .int (1), .int (r.g), .int (r.i), .int (r.b), .int (r.d)])) H56 := u57.2.2
      refine lv_aload_n C.1 C.2.1 d_Re_readCore_34 rfl (lv_at hl 0 rfl) ?_
      refine lv_aload_n C.1 C.2.1 d_Re_readCore_35 rfl (lv_at hl 0 rfl) ?_
      refine hq_get (v := .int (r.g)) C f_Re_26 k58 rfl d_Re_readCore_36 ?_
      refine lv_iload_n C.1 C.2.1 d_Re_readCore_39 rfl (lv_at hl 1 rfl) ?_
      refine hq_callS (lo := lo) (As := [.int (r.g), .int (x)]) (rest := [.ref (a)]) C tb_good hml Y_Re_55 (c_Co_registerBehind l D cI cZ cN cJ lo r.g x) (fun _ _ _ _ h => h) (fun U hU hW => trivial) hL hl.1 rfl rfl ⟨⟨Nat.le_of_ble_eq_true rfl, Nat.le_of_ble_eq_true rfl⟩, Nat.le_of_ble_eq_true rfl, Nat.le_of_ble_eq_true rfl⟩ (Nat.le_of_ble_eq_true rfl) d_Re_readCore_40 (fun v H59 locs hp hL => ?_)
      obtain ⟨rfl, rfl⟩ := hp
      refine W.eq (g2 := F0 m 43 ls [.int (f_Co_registerBehind r.g x), .ref (a)]) rfl ?_
      refine hq_put (lo := lo) C f_Re_26 k58 rfl rfl (Nat.le_of_ble_eq_true rfl) hL (by omega) d_Re_readCore_43 (fun H60 locs u61 hL => ?_)
      have k62 : va_at D vwCl (a, .inr (4, [.int (r.p), .int (r.c), .int (x), .int (1), .int (f_Co_registerBehind r.g x), .int (r.i), .int (r.b), .int (r.d)])) H60 := u61.2.2
      exact s_Re_readCore_46 D cI cZ cN cJ lo a hlo (sRe.mk r.p r.c x 1 (f_Co_registerBehind r.g x) r.i r.b r.d) x (show f_Re_readCore_46 (sRe.mk r.p r.c x 1 (f_Co_registerBehind r.g x) r.i r.b r.d) x = f_Re_readCore r x from (show f_Re_readCore r x = f_Re_readCore_46 (sRe.mk r.p r.c x 1 (f_Co_registerBehind r.g x) r.i r.b r.d) x from by unfold f_Re_readCore; rw [if_pos c41, if_pos c52]).symm) C hml hret hlk hL k62 (hq_Sput (hq_Sput (hq_Sput (hq_S0) u54 (by omega) (by omega)) u57 (by omega) (by omega)) u61 (by omega) (by omega)) (lv_push (lv_push (lv_nil hl) (lv_at hl 1 rfl)) (lv_at hl 0 rfl))
    · intro c52
      refine lv_aload_n C.1 C.2.1 d_Re_readCore_16 rfl (lv_at hl 0 rfl) ?_
      refine hq_get (v := .int (r.e)) C f_Re_23 k0 rfl d_Re_readCore_17 ?_
      refine lv_iconst (v := 1) C.1 C.2.1 d_Re_readCore_20 (by decide) ?_
      refine lv_iadd C.1 C.2.1 d_Re_readCore_21 ?_
      refine lv_goto (tgt := 26) C.1 C.2.1 d_Re_readCore_22 (by decide) ?_
      refine hq_put (lo := lo) C f_Re_23 k0 rfl rfl (Nat.le_of_ble_eq_true rfl) hL (by omega) d_Re_readCore_26 (fun H63 locs u64 hL => ?_)
      have k65 : va_at D vwCl (a, .inr (4, [.int (r.p), .int (r.c), .int (r.l), .int (r.e + 1), .int (r.g), .int (r.i), .int (r.b), .int (r.d)])) H63 := u64.2.2
      refine lv_aload_n C.1 C.2.1 d_Re_readCore_29 rfl (lv_at hl 0 rfl) ?_
      refine lv_iload_n C.1 C.2.1 d_Re_readCore_30 rfl (lv_at hl 1 rfl) ?_
      refine hq_put (lo := lo) C f_Re_20 k65 rfl rfl (Nat.le_of_ble_eq_true rfl) hL (by omega) d_Re_readCore_31 (fun H66 locs u67 hL => ?_)
      have k68 : va_at D vwCl (a, .inr (4, [.int (r.p), .int (r.c), .int (x), .int (r.e + 1), .int (r.g), .int (r.i), .int (r.b), .int (r.d)])) H66 := u67.2.2
      refine lv_aload_n C.1 C.2.1 d_Re_readCore_34 rfl (lv_at hl 0 rfl) ?_
      refine lv_aload_n C.1 C.2.1 d_Re_readCore_35 rfl (lv_at hl 0 rfl) ?_
      refine hq_get (v := .int (r.g)) C f_Re_26 k68 rfl d_Re_readCore_36 ?_
      refine lv_iload_n C.1 C.2.1 d_Re_readCore_39 rfl (lv_at hl 1 rfl) ?_
      refine hq_callS (lo := lo) (As := [.int (r.g), .int (x)]) (rest := [.ref (a)]) C tb_good hml Y_Re_55 (c_Co_registerBehind l D cI cZ cN cJ lo r.g x) (fun _ _ _ _ h => h) (fun U hU hW => trivial) hL hl.1 rfl rfl ⟨⟨Nat.le_of_ble_eq_true rfl, Nat.le_of_ble_eq_true rfl⟩, Nat.le_of_ble_eq_true rfl, Nat.le_of_ble_eq_true rfl⟩ (Nat.le_of_ble_eq_true rfl) d_Re_readCore_40 (fun v H69 locs hp hL => ?_)
      obtain ⟨rfl, rfl⟩ := hp
      refine W.eq (g2 := F0 m 43 ls [.int (f_Co_registerBehind r.g x), .ref (a)]) rfl ?_
      refine hq_put (lo := lo) C f_Re_26 k68 rfl rfl (Nat.le_of_ble_eq_true rfl) hL (by omega) d_Re_readCore_43 (fun H70 locs u71 hL => ?_)
      have k72 : va_at D vwCl (a, .inr (4, [.int (r.p), .int (r.c), .int (x), .int (r.e + 1), .int (f_Co_registerBehind r.g x), .int (r.i), .int (r.b), .int (r.d)])) H70 := u71.2.2
      exact s_Re_readCore_46 D cI cZ cN cJ lo a hlo (sRe.mk r.p r.c x (r.e + 1) (f_Co_registerBehind r.g x) r.i r.b r.d) x (show f_Re_readCore_46 (sRe.mk r.p r.c x (r.e + 1) (f_Co_registerBehind r.g x) r.i r.b r.d) x = f_Re_readCore r x from (show f_Re_readCore r x = f_Re_readCore_46 (sRe.mk r.p r.c x (r.e + 1) (f_Co_registerBehind r.g x) r.i r.b r.d) x from by unfold f_Re_readCore; rw [if_pos c41, if_neg c52]).symm) C hml hret hlk hL k72 (hq_Sput (hq_Sput (hq_Sput (hq_S0) u64 (by omega) (by omega)) u67 (by omega) (by omega)) u71 (by omega) (by omega)) (lv_push (lv_push (lv_nil hl) (lv_at hl 1 rfl)) (lv_at hl 0 rfl))
def f_Re_read (r : sRe) (x : Int32) : sRe := if (f_Re_padIsDue r) = 0 then (if (f_Re_isBehindCore r) = 0 then ((f_Re_readCore r x)) else ((sRe.mk (r.p + 1) r.c r.l r.e r.g r.i r.b r.d))) else ((sRe.mk r.p r.c x 1 r.g r.i r.b r.d))
set_option maxHeartbeats 4000000 in
set_option maxRecDepth 100000 in
theorem c_Re_read (l : Launch) (D : va_G) (cI cZ cN cJ : ClassId) (lo : Nat) (a : Nat) (hlo : lo ≤ a) (r : sRe) (x : Int32) : hq_M l y_Re_read b_Re_read 2 none TB { frames := 2, cells := 0, slots := 0, locals := 44 } lo D vwCl (TY cI cZ cN cJ) [.ref (a), .int (x)] (fun U => va_at D vwCl (a, cRe r) U.heap) (fun H v H' => v = none ∧ va_at D vwCl (a, cRe (f_Re_read r x)) H' ∧ hq_S a 1 H H') := by
  refine hq_ofW (by decide) (Nat.le_of_ble_eq_true rfl) ?_
  intro p e s m below meth c ls C hml hret hlk hnm hl hP
  have hL : hq_L lo [] := hq_L0
  have hl : lv_has ls 2 [(0, .ref (a)), (1, .int (x))] := hl
  have k0 : va_at D vwCl (a, .inr (4, [.int (r.p), .int (r.c), .int (r.l), .int (r.e), .int (r.g), .int (r.i), .int (r.b), .int (r.d)])) s.heap := hP
  refine lv_aload_n C.1 C.2.1 d_Re_read_0 rfl (lv_at hl 0 rfl) ?_
  refine hq_callV (lo := lo) (As := []) (rest := []) C tb_good hml Y_Re_38 (c_Re_padIsDue l D cI cZ cN cJ lo a r) k0 rfl (fun _ _ _ _ h => h) (fun U hU hW => by show va_at D vwCl (a, .inr (4, [.int (r.p), .int (r.c), .int (r.l), .int (r.e), .int (r.g), .int (r.i), .int (r.b), .int (r.d)])) U.heap; rw [hU]; exact k0) hL hl.1 rfl rfl ⟨⟨Nat.le_of_ble_eq_true rfl, Nat.le_of_ble_eq_true rfl⟩, Nat.le_of_ble_eq_true rfl, Nat.le_of_ble_eq_true rfl⟩ (Nat.le_of_ble_eq_true rfl) d_Re_read_1 (fun v H41 locs hp hL => ?_)
  obtain ⟨rfl, rfl⟩ := hp
  refine W.eq (g2 := F0 m 4 ls [.int (f_Re_padIsDue r)]) rfl ?_
  refine lv_if_eq (tgt := 20) C.1 C.2.1 d_Re_read_4 (by decide) ?_ ?_
  · intro c42
    refine lv_aload_n C.1 C.2.1 d_Re_read_20 rfl (lv_at hl 0 rfl) ?_
    refine hq_callV (lo := lo) (As := []) (rest := []) C tb_good hml Y_Re_42 (c_Re_isBehindCore l D cI cZ cN cJ lo a r) k0 rfl (fun _ _ _ _ h => h) (fun U hU hW => by show va_at D vwCl (a, .inr (4, [.int (r.p), .int (r.c), .int (r.l), .int (r.e), .int (r.g), .int (r.i), .int (r.b), .int (r.d)])) U.heap; rw [hU]; exact k0) hL hl.1 rfl rfl ⟨⟨Nat.le_of_ble_eq_true rfl, Nat.le_of_ble_eq_true rfl⟩, Nat.le_of_ble_eq_true rfl, Nat.le_of_ble_eq_true rfl⟩ (Nat.le_of_ble_eq_true rfl) d_Re_read_21 (fun v H43 locs hp hL => ?_)
    obtain ⟨rfl, rfl⟩ := hp
    refine W.eq (g2 := F0 m 24 ls [.int (f_Re_isBehindCore r)]) rfl ?_
    refine lv_if_eq (tgt := 40) C.1 C.2.1 d_Re_read_24 (by decide) ?_ ?_
    · intro c44
      refine lv_aload_n C.1 C.2.1 d_Re_read_40 rfl (lv_at hl 0 rfl) ?_
      refine lv_iload_n C.1 C.2.1 d_Re_read_41 rfl (lv_at hl 1 rfl) ?_
      refine hq_callV (lo := lo) (As := [.int (x)]) (rest := []) C tb_good hml Y_Re_51 (c_Re_readCore l D cI cZ cN cJ lo a (by omega) r x) k0 rfl (fun _ _ _ _ h => h) (fun U hU hW => by show va_at D vwCl (a, .inr (4, [.int (r.p), .int (r.c), .int (r.l), .int (r.e), .int (r.g), .int (r.i), .int (r.b), .int (r.d)])) U.heap; rw [hU]; exact k0) hL hl.1 rfl rfl ⟨⟨Nat.le_of_ble_eq_true rfl, Nat.le_of_ble_eq_true rfl⟩, Nat.le_of_ble_eq_true rfl, Nat.le_of_ble_eq_true rfl⟩ (Nat.le_of_ble_eq_true rfl) d_Re_read_42 (fun v H47 locs hp hL => ?_)
      obtain ⟨rfl, k46, S45⟩ := hp
      refine W.eq (g2 := F0 m 45 ls []) rfl ?_
      have hf : f_Re_read r x = (f_Re_readCore r x) := by unfold f_Re_read; rw [if_pos c42, if_pos c44]
      exact hq_vret C hret hlk (Nat.le_of_ble_eq_true rfl) (Nat.le_of_ble_eq_true rfl) hL ⟨rfl, by rw [hf]; exact k46, hq_Scall (hq_S0) S45 (by omega) (by omega)⟩ d_Re_read_45
    · intro c44
      refine lv_aload_n C.1 C.2.1 d_Re_read_27 rfl (lv_at hl 0 rfl) ?_
      refine lv_dup C.1 C.2.1 d_Re_read_28 rfl ?_
      refine hq_get (v := .int (r.p)) C f_Re_9 k0 rfl d_Re_read_29 ?_
      refine lv_iconst (v := 1) C.1 C.2.1 d_Re_read_32 (by decide) ?_
      refine lv_iadd C.1 C.2.1 d_Re_read_33 ?_
      refine hq_put (lo := lo) C f_Re_9 k0 rfl rfl (Nat.le_of_ble_eq_true rfl) hL (by omega) d_Re_read_34 (fun H48 locs u49 hL => ?_)
      have k50 : va_at D vwCl (a, .inr (4, [.int (r.p + 1), .int (r.c), .int (r.l), .int (r.e), .int (r.g), .int (r.i), .int (r.b), .int (r.d)])) H48 := u49.2.2
      refine lv_goto (tgt := 45) C.1 C.2.1 d_Re_read_37 (by decide) ?_
      have hf : f_Re_read r x = (sRe.mk (r.p + 1) r.c r.l r.e r.g r.i r.b r.d) := by unfold f_Re_read; rw [if_pos c42, if_neg c44]
      exact hq_vret C hret hlk (Nat.le_of_ble_eq_true rfl) (Nat.le_of_ble_eq_true rfl) hL ⟨rfl, by rw [hf]; exact k50, hq_Sput (hq_S0) u49 (by omega) (by omega)⟩ d_Re_read_45
  · intro c42
    refine lv_aload_n C.1 C.2.1 d_Re_read_7 rfl (lv_at hl 0 rfl) ?_
    refine lv_iload_n C.1 C.2.1 d_Re_read_8 rfl (lv_at hl 1 rfl) ?_
    refine hq_put (lo := lo) C f_Re_20 k0 rfl rfl (Nat.le_of_ble_eq_true rfl) hL (by omega) d_Re_read_9 (fun H51 locs u52 hL => ?_)
    have k53 : va_at D vwCl (a, .inr (4, [.int (r.p), .int (r.c), .int (x), .int (r.e), .int (r.g), .int (r.i), .int (r.b), .int (r.d)])) H51 := u52.2.2
    refine lv_aload_n C.1 C.2.1 d_Re_read_12 rfl (lv_at hl 0 rfl) ?_
    refine lv_iconst (v := 1) C.1 C.2.1 d_Re_read_13 (by decide) ?_
    refine hq_put (lo := lo) C f_Re_23 k53 rfl rfl (Nat.le_of_ble_eq_true rfl) hL (by omega) d_Re_read_14 (fun H54 locs u55 hL => ?_)
    have k56 : va_at D vwCl (a, .inr (4, [.int (r.p), .int (r.c), .int (x), .int (1), .int (r.g), .int (r.i), .int (r.b), .int (r.d)])) H54 := u55.2.2
    refine lv_goto (tgt := 45) C.1 C.2.1 d_Re_read_17 (by decide) ?_
    have hf : f_Re_read r x = (sRe.mk r.p r.c x 1 r.g r.i r.b r.d) := by unfold f_Re_read; rw [if_neg c42]
    exact hq_vret C hret hlk (Nat.le_of_ble_eq_true rfl) (Nat.le_of_ble_eq_true rfl) hL ⟨rfl, by rw [hf]; exact k56, hq_Sput (hq_Sput (hq_S0) u52 (by omega) (by omega)) u55 (by omega) (by omega)⟩ d_Re_read_45
def f_Re_errorBehindCore (r : sRe) (x y : Int32) : Int32 := if x = 2 then (if (f_Re_isRight r) = 0 then ((5 : Int32)) else (if x = 1 then (if y = 0 then ((0 : Int32)) else ((0 : Int32))) else (if x < 9 then (if y = 0 then ((4 : Int32)) else ((0 : Int32))) else (if y = 0 then ((0 : Int32)) else ((0 : Int32)))))) else (if x = 1 then (if y = 0 then ((0 : Int32)) else ((0 : Int32))) else (if x < 9 then (if y = 0 then ((4 : Int32)) else ((0 : Int32))) else (if y = 0 then ((0 : Int32)) else ((0 : Int32)))))
set_option maxHeartbeats 4000000 in
set_option maxRecDepth 100000 in
theorem c_Re_errorBehindCore (l : Launch) (D : va_G) (cI cZ cN cJ : ClassId) (lo : Nat) (a : Nat) (r : sRe) (x y : Int32) : hq_M l y_Re_errorBehindCore b_Re_errorBehindCore 4 (some .int) TB { frames := 1, cells := 0, slots := 0, locals := 20 } lo D vwCl (TY cI cZ cN cJ) [.ref (a), .int (x), .int (y)] (fun U => va_at D vwCl (a, cRe r) U.heap) (fun H v H' => v = some (.int (f_Re_errorBehindCore r x y)) ∧ H' = H) := by
  refine hq_ofW (by decide) (Nat.le_of_ble_eq_true rfl) ?_
  intro p e s m below meth c ls C hml hret hlk hnm hl hP
  have hL : hq_L lo [] := hq_L0
  have hl : lv_has ls 4 [(0, .ref (a)), (1, .int (x)), (2, .int (y))] := hl
  have k0 : va_at D vwCl (a, .inr (4, [.int (r.p), .int (r.c), .int (r.l), .int (r.e), .int (r.g), .int (r.i), .int (r.b), .int (r.d)])) s.heap := hP
  refine lv_iload_n C.1 C.2.1 d_Re_errorBehindCore_0 rfl (lv_at hl 1 rfl) ?_
  refine lv_iconst (v := 2) C.1 C.2.1 d_Re_errorBehindCore_1 (by decide) ?_
  refine lv_icmp_ne (tgt := 14) C.1 C.2.1 d_Re_errorBehindCore_2 (by decide) ?_ ?_
  · intro c41
    refine lv_iload_n C.1 C.2.1 d_Re_errorBehindCore_14 rfl (lv_at hl 1 rfl) ?_
    refine lv_iconst (v := 1) C.1 C.2.1 d_Re_errorBehindCore_15 (by decide) ?_
    refine lv_icmp_eq (tgt := 25) C.1 C.2.1 d_Re_errorBehindCore_16 (by decide) ?_ ?_
    · intro c42
      refine lv_iconst (v := 1) C.1 C.2.1 d_Re_errorBehindCore_25 (by decide) ?_
      refine lv_goto (tgt := 30) C.1 C.2.1 d_Re_errorBehindCore_26 (by decide) ?_
      refine lv_istore_n C.1 C.2.1 d_Re_errorBehindCore_30 rfl hl (by decide) rfl (lv' := [(3, .int (1)), (0, .ref (a)), (1, .int (x)), (2, .int (y))]) (fun ls hl => ?_)
      refine lv_iload_n C.1 C.2.1 d_Re_errorBehindCore_31 rfl (lv_at hl 3 rfl) ?_
      refine lv_if_ne (tgt := 43) C.1 C.2.1 d_Re_errorBehindCore_32 (by decide) ?_ ?_
      · intro c43
        refine lv_iconst (v := 0) C.1 C.2.1 d_Re_errorBehindCore_43 (by decide) ?_
        have hf : f_Re_errorBehindCore r x y = (0 : Int32) := by unfold f_Re_errorBehindCore; rw [if_neg c41, if_pos c42, if_neg c43]
        exact hq_iret C hret hlk (Nat.le_of_ble_eq_true rfl) (Nat.le_of_ble_eq_true rfl) hL ⟨by rw [hf], rfl⟩ d_Re_errorBehindCore_44
      · intro c43
        refine lv_iload_n C.1 C.2.1 d_Re_errorBehindCore_35 rfl (lv_at hl 0 rfl) ?_
        refine lv_if_ne (tgt := 43) C.1 C.2.1 d_Re_errorBehindCore_36 (by decide) (fun _ => ?_) (fun hn => absurd hn (by decide))
        refine lv_iconst (v := 0) C.1 C.2.1 d_Re_errorBehindCore_43 (by decide) ?_
        have hf : f_Re_errorBehindCore r x y = (0 : Int32) := by unfold f_Re_errorBehindCore; rw [if_neg c41, if_pos c42, if_pos c43]
        exact hq_iret C hret hlk (Nat.le_of_ble_eq_true rfl) (Nat.le_of_ble_eq_true rfl) hL ⟨by rw [hf], rfl⟩ d_Re_errorBehindCore_44
    · intro c42
      refine lv_iload_n C.1 C.2.1 d_Re_errorBehindCore_19 rfl (lv_at hl 1 rfl) ?_
      refine lv_bipush (v := 9) C.1 C.2.1 d_Re_errorBehindCore_20 (by decide) ?_
      refine lv_icmp_lt (tgt := 29) C.1 C.2.1 d_Re_errorBehindCore_22 (by decide) ?_ ?_
      · intro c44
        refine lv_iconst (v := 0) C.1 C.2.1 d_Re_errorBehindCore_29 (by decide) ?_
        refine lv_istore_n C.1 C.2.1 d_Re_errorBehindCore_30 rfl hl (by decide) rfl (lv' := [(3, .int (0)), (0, .ref (a)), (1, .int (x)), (2, .int (y))]) (fun ls hl => ?_)
        refine lv_iload_n C.1 C.2.1 d_Re_errorBehindCore_31 rfl (lv_at hl 3 rfl) ?_
        refine lv_if_ne (tgt := 43) C.1 C.2.1 d_Re_errorBehindCore_32 (by decide) ?_ ?_
        · intro c45
          refine lv_iconst (v := 0) C.1 C.2.1 d_Re_errorBehindCore_43 (by decide) ?_
          have hf : f_Re_errorBehindCore r x y = (0 : Int32) := by unfold f_Re_errorBehindCore; rw [if_neg c41, if_neg c42, if_pos c44, if_neg c45]
          exact hq_iret C hret hlk (Nat.le_of_ble_eq_true rfl) (Nat.le_of_ble_eq_true rfl) hL ⟨by rw [hf], rfl⟩ d_Re_errorBehindCore_44
        · intro c45
          refine lv_iload_n C.1 C.2.1 d_Re_errorBehindCore_35 rfl (lv_at hl 0 rfl) ?_
          refine lv_if_ne (tgt := 43) C.1 C.2.1 d_Re_errorBehindCore_36 (by decide) (fun hn => absurd hn (by decide)) (fun _ => ?_)
          refine lv_iconst (v := 4) C.1 C.2.1 d_Re_errorBehindCore_39 (by decide) ?_
          refine lv_goto (tgt := 44) C.1 C.2.1 d_Re_errorBehindCore_40 (by decide) ?_
          have hf : f_Re_errorBehindCore r x y = (4 : Int32) := by unfold f_Re_errorBehindCore; rw [if_neg c41, if_neg c42, if_pos c44, if_pos c45]
          exact hq_iret C hret hlk (Nat.le_of_ble_eq_true rfl) (Nat.le_of_ble_eq_true rfl) hL ⟨by rw [hf], rfl⟩ d_Re_errorBehindCore_44
      · intro c44
        refine lv_iconst (v := 1) C.1 C.2.1 d_Re_errorBehindCore_25 (by decide) ?_
        refine lv_goto (tgt := 30) C.1 C.2.1 d_Re_errorBehindCore_26 (by decide) ?_
        refine lv_istore_n C.1 C.2.1 d_Re_errorBehindCore_30 rfl hl (by decide) rfl (lv' := [(3, .int (1)), (0, .ref (a)), (1, .int (x)), (2, .int (y))]) (fun ls hl => ?_)
        refine lv_iload_n C.1 C.2.1 d_Re_errorBehindCore_31 rfl (lv_at hl 3 rfl) ?_
        refine lv_if_ne (tgt := 43) C.1 C.2.1 d_Re_errorBehindCore_32 (by decide) ?_ ?_
        · intro c46
          refine lv_iconst (v := 0) C.1 C.2.1 d_Re_errorBehindCore_43 (by decide) ?_
          have hf : f_Re_errorBehindCore r x y = (0 : Int32) := by unfold f_Re_errorBehindCore; rw [if_neg c41, if_neg c42, if_neg c44, if_neg c46]
          exact hq_iret C hret hlk (Nat.le_of_ble_eq_true rfl) (Nat.le_of_ble_eq_true rfl) hL ⟨by rw [hf], rfl⟩ d_Re_errorBehindCore_44
        · intro c46
          refine lv_iload_n C.1 C.2.1 d_Re_errorBehindCore_35 rfl (lv_at hl 0 rfl) ?_
          refine lv_if_ne (tgt := 43) C.1 C.2.1 d_Re_errorBehindCore_36 (by decide) (fun _ => ?_) (fun hn => absurd hn (by decide))
          refine lv_iconst (v := 0) C.1 C.2.1 d_Re_errorBehindCore_43 (by decide) ?_
          have hf : f_Re_errorBehindCore r x y = (0 : Int32) := by unfold f_Re_errorBehindCore; rw [if_neg c41, if_neg c42, if_neg c44, if_pos c46]
          exact hq_iret C hret hlk (Nat.le_of_ble_eq_true rfl) (Nat.le_of_ble_eq_true rfl) hL ⟨by rw [hf], rfl⟩ d_Re_errorBehindCore_44
  · intro c41
    refine lv_aload_n C.1 C.2.1 d_Re_errorBehindCore_5 rfl (lv_at hl 0 rfl) ?_
    refine hq_callV (lo := lo) (As := []) (rest := []) C tb_good hml Y_Re_69 (c_Re_isRight l D cI cZ cN cJ lo a r) k0 rfl (fun _ _ _ _ h => h) (fun U hU hW => by show va_at D vwCl (a, .inr (4, [.int (r.p), .int (r.c), .int (r.l), .int (r.e), .int (r.g), .int (r.i), .int (r.b), .int (r.d)])) U.heap; rw [hU]; exact k0) hL hl.1 rfl rfl ⟨⟨Nat.le_of_ble_eq_true rfl, Nat.le_of_ble_eq_true rfl⟩, Nat.le_of_ble_eq_true rfl, Nat.le_of_ble_eq_true rfl⟩ (Nat.le_of_ble_eq_true rfl) d_Re_errorBehindCore_6 (fun v H47 locs hp hL => ?_)
    obtain ⟨rfl, rfl⟩ := hp
    refine W.eq (g2 := F0 m 9 ls [.int (f_Re_isRight r)]) rfl ?_
    refine lv_if_ne (tgt := 14) C.1 C.2.1 d_Re_errorBehindCore_9 (by decide) ?_ ?_
    · intro c48
      refine lv_iload_n C.1 C.2.1 d_Re_errorBehindCore_14 rfl (lv_at hl 1 rfl) ?_
      refine lv_iconst (v := 1) C.1 C.2.1 d_Re_errorBehindCore_15 (by decide) ?_
      refine lv_icmp_eq (tgt := 25) C.1 C.2.1 d_Re_errorBehindCore_16 (by decide) ?_ ?_
      · intro c49
        refine lv_iconst (v := 1) C.1 C.2.1 d_Re_errorBehindCore_25 (by decide) ?_
        refine lv_goto (tgt := 30) C.1 C.2.1 d_Re_errorBehindCore_26 (by decide) ?_
        refine lv_istore_n C.1 C.2.1 d_Re_errorBehindCore_30 rfl hl (by decide) rfl (lv' := [(3, .int (1)), (0, .ref (a)), (1, .int (x)), (2, .int (y))]) (fun ls hl => ?_)
        refine lv_iload_n C.1 C.2.1 d_Re_errorBehindCore_31 rfl (lv_at hl 3 rfl) ?_
        refine lv_if_ne (tgt := 43) C.1 C.2.1 d_Re_errorBehindCore_32 (by decide) ?_ ?_
        · intro c50
          refine lv_iconst (v := 0) C.1 C.2.1 d_Re_errorBehindCore_43 (by decide) ?_
          have hf : f_Re_errorBehindCore r x y = (0 : Int32) := by unfold f_Re_errorBehindCore; rw [if_pos c41, if_neg c48, if_pos c49, if_neg c50]
          exact hq_iret C hret hlk (Nat.le_of_ble_eq_true rfl) (Nat.le_of_ble_eq_true rfl) hL ⟨by rw [hf], rfl⟩ d_Re_errorBehindCore_44
        · intro c50
          refine lv_iload_n C.1 C.2.1 d_Re_errorBehindCore_35 rfl (lv_at hl 0 rfl) ?_
          refine lv_if_ne (tgt := 43) C.1 C.2.1 d_Re_errorBehindCore_36 (by decide) (fun _ => ?_) (fun hn => absurd hn (by decide))
          refine lv_iconst (v := 0) C.1 C.2.1 d_Re_errorBehindCore_43 (by decide) ?_
          have hf : f_Re_errorBehindCore r x y = (0 : Int32) := by unfold f_Re_errorBehindCore; rw [if_pos c41, if_neg c48, if_pos c49, if_pos c50]
          exact hq_iret C hret hlk (Nat.le_of_ble_eq_true rfl) (Nat.le_of_ble_eq_true rfl) hL ⟨by rw [hf], rfl⟩ d_Re_errorBehindCore_44
      · intro c49
        refine lv_iload_n C.1 C.2.1 d_Re_errorBehindCore_19 rfl (lv_at hl 1 rfl) ?_
        refine lv_bipush (v := 9) C.1 C.2.1 d_Re_errorBehindCore_20 (by decide) ?_
        refine lv_icmp_lt (tgt := 29) C.1 C.2.1 d_Re_errorBehindCore_22 (by decide) ?_ ?_
        · intro c51
          refine lv_iconst (v := 0) C.1 C.2.1 d_Re_errorBehindCore_29 (by decide) ?_
          refine lv_istore_n C.1 C.2.1 d_Re_errorBehindCore_30 rfl hl (by decide) rfl (lv' := [(3, .int (0)), (0, .ref (a)), (1, .int (x)), (2, .int (y))]) (fun ls hl => ?_)
          refine lv_iload_n C.1 C.2.1 d_Re_errorBehindCore_31 rfl (lv_at hl 3 rfl) ?_
          refine lv_if_ne (tgt := 43) C.1 C.2.1 d_Re_errorBehindCore_32 (by decide) ?_ ?_
          · intro c52
            refine lv_iconst (v := 0) C.1 C.2.1 d_Re_errorBehindCore_43 (by decide) ?_
            have hf : f_Re_errorBehindCore r x y = (0 : Int32) := by unfold f_Re_errorBehindCore; rw [if_pos c41, if_neg c48, if_neg c49, if_pos c51, if_neg c52]
            exact hq_iret C hret hlk (Nat.le_of_ble_eq_true rfl) (Nat.le_of_ble_eq_true rfl) hL ⟨by rw [hf], rfl⟩ d_Re_errorBehindCore_44
          · intro c52
            refine lv_iload_n C.1 C.2.1 d_Re_errorBehindCore_35 rfl (lv_at hl 0 rfl) ?_
            refine lv_if_ne (tgt := 43) C.1 C.2.1 d_Re_errorBehindCore_36 (by decide) (fun hn => absurd hn (by decide)) (fun _ => ?_)
            refine lv_iconst (v := 4) C.1 C.2.1 d_Re_errorBehindCore_39 (by decide) ?_
            refine lv_goto (tgt := 44) C.1 C.2.1 d_Re_errorBehindCore_40 (by decide) ?_
            have hf : f_Re_errorBehindCore r x y = (4 : Int32) := by unfold f_Re_errorBehindCore; rw [if_pos c41, if_neg c48, if_neg c49, if_pos c51, if_pos c52]
            exact hq_iret C hret hlk (Nat.le_of_ble_eq_true rfl) (Nat.le_of_ble_eq_true rfl) hL ⟨by rw [hf], rfl⟩ d_Re_errorBehindCore_44
        · intro c51
          refine lv_iconst (v := 1) C.1 C.2.1 d_Re_errorBehindCore_25 (by decide) ?_
          refine lv_goto (tgt := 30) C.1 C.2.1 d_Re_errorBehindCore_26 (by decide) ?_
          refine lv_istore_n C.1 C.2.1 d_Re_errorBehindCore_30 rfl hl (by decide) rfl (lv' := [(3, .int (1)), (0, .ref (a)), (1, .int (x)), (2, .int (y))]) (fun ls hl => ?_)
          refine lv_iload_n C.1 C.2.1 d_Re_errorBehindCore_31 rfl (lv_at hl 3 rfl) ?_
          refine lv_if_ne (tgt := 43) C.1 C.2.1 d_Re_errorBehindCore_32 (by decide) ?_ ?_
          · intro c53
            refine lv_iconst (v := 0) C.1 C.2.1 d_Re_errorBehindCore_43 (by decide) ?_
            have hf : f_Re_errorBehindCore r x y = (0 : Int32) := by unfold f_Re_errorBehindCore; rw [if_pos c41, if_neg c48, if_neg c49, if_neg c51, if_neg c53]
            exact hq_iret C hret hlk (Nat.le_of_ble_eq_true rfl) (Nat.le_of_ble_eq_true rfl) hL ⟨by rw [hf], rfl⟩ d_Re_errorBehindCore_44
          · intro c53
            refine lv_iload_n C.1 C.2.1 d_Re_errorBehindCore_35 rfl (lv_at hl 0 rfl) ?_
            refine lv_if_ne (tgt := 43) C.1 C.2.1 d_Re_errorBehindCore_36 (by decide) (fun _ => ?_) (fun hn => absurd hn (by decide))
            refine lv_iconst (v := 0) C.1 C.2.1 d_Re_errorBehindCore_43 (by decide) ?_
            have hf : f_Re_errorBehindCore r x y = (0 : Int32) := by unfold f_Re_errorBehindCore; rw [if_pos c41, if_neg c48, if_neg c49, if_neg c51, if_pos c53]
            exact hq_iret C hret hlk (Nat.le_of_ble_eq_true rfl) (Nat.le_of_ble_eq_true rfl) hL ⟨by rw [hf], rfl⟩ d_Re_errorBehindCore_44
    · intro c48
      refine lv_iconst (v := 5) C.1 C.2.1 d_Re_errorBehindCore_12 (by decide) ?_
      have hf : f_Re_errorBehindCore r x y = (5 : Int32) := by unfold f_Re_errorBehindCore; rw [if_pos c41, if_pos c48]
      exact hq_iret C hret hlk (Nat.le_of_ble_eq_true rfl) (Nat.le_of_ble_eq_true rfl) hL ⟨by rw [hf], rfl⟩ d_Re_errorBehindCore_13
def f_Re_errorOf (r : sRe) (x : Int32) : Int32 := if (f_Re_padIsDue r) = 0 then (if (f_Re_isBehindCore r) = 0 then (if r.p < 12 then (if r.p = 18 then (if ((r.b <<< (1 &&& 31)) ||| x) ≤ 2 then ((0 : Int32)) else ((4 : Int32))) else ((0 : Int32))) else (if 15 ≤ r.p then (if r.p = 18 then (if ((r.b <<< (1 &&& 31)) ||| x) ≤ 2 then ((0 : Int32)) else ((4 : Int32))) else ((0 : Int32))) else (if x = 0 then (if r.p = 18 then (if ((r.b <<< (1 &&& 31)) ||| x) ≤ 2 then ((0 : Int32)) else ((4 : Int32))) else ((0 : Int32))) else (if r.p = 18 then (if ((r.b <<< (1 &&& 31)) ||| x) ≤ 2 then ((4 : Int32)) else ((4 : Int32))) else ((4 : Int32)))))) else (f_Re_errorBehindCore r (r.p - r.c) x)) else (if x = r.l then ((3 : Int32)) else ((0 : Int32)))
set_option maxHeartbeats 4000000 in
set_option maxRecDepth 100000 in
theorem c_Re_errorOf (l : Launch) (D : va_G) (cI cZ cN cJ : ClassId) (lo : Nat) (a : Nat) (r : sRe) (x : Int32) : hq_M l y_Re_errorOf b_Re_errorOf 4 (some .int) TB { frames := 2, cells := 0, slots := 0, locals := 43 } lo D vwCl (TY cI cZ cN cJ) [.ref (a), .int (x)] (fun U => va_at D vwCl (a, cRe r) U.heap) (fun H v H' => v = some (.int (f_Re_errorOf r x)) ∧ H' = H) := by
  refine hq_ofW (by decide) (Nat.le_of_ble_eq_true rfl) ?_
  intro p e s m below meth c ls C hml hret hlk hnm hl hP
  have hL : hq_L lo [] := hq_L0
  have hl : lv_has ls 4 [(0, .ref (a)), (1, .int (x))] := hl
  have k0 : va_at D vwCl (a, .inr (4, [.int (r.p), .int (r.c), .int (r.l), .int (r.e), .int (r.g), .int (r.i), .int (r.b), .int (r.d)])) s.heap := hP
  refine lv_aload_n C.1 C.2.1 d_Re_errorOf_0 rfl (lv_at hl 0 rfl) ?_
  refine hq_callV (lo := lo) (As := []) (rest := []) C tb_good hml Y_Re_38 (c_Re_padIsDue l D cI cZ cN cJ lo a r) k0 rfl (fun _ _ _ _ h => h) (fun U hU hW => by show va_at D vwCl (a, .inr (4, [.int (r.p), .int (r.c), .int (r.l), .int (r.e), .int (r.g), .int (r.i), .int (r.b), .int (r.d)])) U.heap; rw [hU]; exact k0) hL hl.1 rfl rfl ⟨⟨Nat.le_of_ble_eq_true rfl, Nat.le_of_ble_eq_true rfl⟩, Nat.le_of_ble_eq_true rfl, Nat.le_of_ble_eq_true rfl⟩ (Nat.le_of_ble_eq_true rfl) d_Re_errorOf_1 (fun v H41 locs hp hL => ?_)
  obtain ⟨rfl, rfl⟩ := hp
  refine W.eq (g2 := F0 m 4 ls [.int (f_Re_padIsDue r)]) rfl ?_
  refine lv_if_eq (tgt := 21) C.1 C.2.1 d_Re_errorOf_4 (by decide) ?_ ?_
  · intro c42
    refine lv_aload_n C.1 C.2.1 d_Re_errorOf_21 rfl (lv_at hl 0 rfl) ?_
    refine hq_callV (lo := lo) (As := []) (rest := []) C tb_good hml Y_Re_42 (c_Re_isBehindCore l D cI cZ cN cJ lo a r) k0 rfl (fun _ _ _ _ h => h) (fun U hU hW => by show va_at D vwCl (a, .inr (4, [.int (r.p), .int (r.c), .int (r.l), .int (r.e), .int (r.g), .int (r.i), .int (r.b), .int (r.d)])) U.heap; rw [hU]; exact k0) hL hl.1 rfl rfl ⟨⟨Nat.le_of_ble_eq_true rfl, Nat.le_of_ble_eq_true rfl⟩, Nat.le_of_ble_eq_true rfl, Nat.le_of_ble_eq_true rfl⟩ (Nat.le_of_ble_eq_true rfl) d_Re_errorOf_22 (fun v H43 locs hp hL => ?_)
    obtain ⟨rfl, rfl⟩ := hp
    refine W.eq (g2 := F0 m 25 ls [.int (f_Re_isBehindCore r)]) rfl ?_
    refine lv_if_eq (tgt := 43) C.1 C.2.1 d_Re_errorOf_25 (by decide) ?_ ?_
    · intro c44
      refine lv_aload_n C.1 C.2.1 d_Re_errorOf_43 rfl (lv_at hl 0 rfl) ?_
      refine hq_get (v := .int (r.p)) C f_Re_9 k0 rfl d_Re_errorOf_44 ?_
      refine lv_bipush (v := 12) C.1 C.2.1 d_Re_errorOf_47 (by decide) ?_
      refine lv_icmp_lt (tgt := 69) C.1 C.2.1 d_Re_errorOf_49 (by decide) ?_ ?_
      · intro c45
        refine lv_iconst (v := 0) C.1 C.2.1 d_Re_errorOf_69 (by decide) ?_
        refine lv_istore_n C.1 C.2.1 d_Re_errorOf_70 rfl hl (by decide) rfl (lv' := [(2, .int (0)), (0, .ref (a)), (1, .int (x))]) (fun ls hl => ?_)
        refine lv_aload_n C.1 C.2.1 d_Re_errorOf_71 rfl (lv_at hl 1 rfl) ?_
        refine hq_get (v := .int (r.p)) C f_Re_9 k0 rfl d_Re_errorOf_72 ?_
        refine lv_bipush (v := 18) C.1 C.2.1 d_Re_errorOf_75 (by decide) ?_
        refine lv_icmp_ne (tgt := 96) C.1 C.2.1 d_Re_errorOf_77 (by decide) ?_ ?_
        · intro c46
          refine lv_iconst (v := 0) C.1 C.2.1 d_Re_errorOf_96 (by decide) ?_
          refine lv_istore_n C.1 C.2.1 d_Re_errorOf_97 rfl hl (by decide) rfl (lv' := [(3, .int (0)), (2, .int (0)), (0, .ref (a)), (1, .int (x))]) (fun ls hl => ?_)
          refine lv_iload_n C.1 C.2.1 d_Re_errorOf_98 rfl (lv_at hl 1 rfl) ?_
          refine lv_if_ne (tgt := 106) C.1 C.2.1 d_Re_errorOf_99 (by decide) (fun hn => absurd hn (by decide)) (fun _ => ?_)
          refine lv_iload_n C.1 C.2.1 d_Re_errorOf_102 rfl (lv_at hl 0 rfl) ?_
          refine lv_if_eq (tgt := 110) C.1 C.2.1 d_Re_errorOf_103 (by decide) (fun _ => ?_) (fun hn => absurd (by decide) hn)
          refine lv_iconst (v := 0) C.1 C.2.1 d_Re_errorOf_110 (by decide) ?_
          have hf : f_Re_errorOf r x = (0 : Int32) := by unfold f_Re_errorOf; rw [if_pos c42, if_pos c44, if_pos c45, if_neg c46]
          exact hq_iret C hret hlk (Nat.le_of_ble_eq_true rfl) (Nat.le_of_ble_eq_true rfl) hL ⟨by rw [hf], rfl⟩ d_Re_errorOf_111
        · intro c46
          refine lv_aload_n C.1 C.2.1 d_Re_errorOf_80 rfl (lv_at hl 1 rfl) ?_
          refine hq_get (v := .int (r.b)) C f_Re_32 k0 rfl d_Re_errorOf_81 ?_
          refine lv_iconst (v := 1) C.1 C.2.1 d_Re_errorOf_84 (by decide) ?_
          refine lv_ishl C.1 C.2.1 d_Re_errorOf_85 ?_
          refine lv_iload_n C.1 C.2.1 d_Re_errorOf_86 rfl (lv_at hl 2 rfl) ?_
          refine lv_ior C.1 C.2.1 d_Re_errorOf_87 ?_
          refine lv_iconst (v := 2) C.1 C.2.1 d_Re_errorOf_88 (by decide) ?_
          refine lv_icmp_le (tgt := 96) C.1 C.2.1 d_Re_errorOf_89 (by decide) ?_ ?_
          · intro c47
            refine lv_iconst (v := 0) C.1 C.2.1 d_Re_errorOf_96 (by decide) ?_
            refine lv_istore_n C.1 C.2.1 d_Re_errorOf_97 rfl hl (by decide) rfl (lv' := [(3, .int (0)), (2, .int (0)), (0, .ref (a)), (1, .int (x))]) (fun ls hl => ?_)
            refine lv_iload_n C.1 C.2.1 d_Re_errorOf_98 rfl (lv_at hl 1 rfl) ?_
            refine lv_if_ne (tgt := 106) C.1 C.2.1 d_Re_errorOf_99 (by decide) (fun hn => absurd hn (by decide)) (fun _ => ?_)
            refine lv_iload_n C.1 C.2.1 d_Re_errorOf_102 rfl (lv_at hl 0 rfl) ?_
            refine lv_if_eq (tgt := 110) C.1 C.2.1 d_Re_errorOf_103 (by decide) (fun _ => ?_) (fun hn => absurd (by decide) hn)
            refine lv_iconst (v := 0) C.1 C.2.1 d_Re_errorOf_110 (by decide) ?_
            have hf : f_Re_errorOf r x = (0 : Int32) := by unfold f_Re_errorOf; rw [if_pos c42, if_pos c44, if_pos c45, if_pos c46, if_pos c47]
            exact hq_iret C hret hlk (Nat.le_of_ble_eq_true rfl) (Nat.le_of_ble_eq_true rfl) hL ⟨by rw [hf], rfl⟩ d_Re_errorOf_111
          · intro c47
            refine lv_iconst (v := 1) C.1 C.2.1 d_Re_errorOf_92 (by decide) ?_
            refine lv_goto (tgt := 97) C.1 C.2.1 d_Re_errorOf_93 (by decide) ?_
            refine lv_istore_n C.1 C.2.1 d_Re_errorOf_97 rfl hl (by decide) rfl (lv' := [(3, .int (1)), (2, .int (0)), (0, .ref (a)), (1, .int (x))]) (fun ls hl => ?_)
            refine lv_iload_n C.1 C.2.1 d_Re_errorOf_98 rfl (lv_at hl 1 rfl) ?_
            refine lv_if_ne (tgt := 106) C.1 C.2.1 d_Re_errorOf_99 (by decide) (fun hn => absurd hn (by decide)) (fun _ => ?_)
            refine lv_iload_n C.1 C.2.1 d_Re_errorOf_102 rfl (lv_at hl 0 rfl) ?_
            refine lv_if_eq (tgt := 110) C.1 C.2.1 d_Re_errorOf_103 (by decide) (fun hn => absurd hn (by decide)) (fun _ => ?_)
            refine lv_iconst (v := 4) C.1 C.2.1 d_Re_errorOf_106 (by decide) ?_
            refine lv_goto (tgt := 111) C.1 C.2.1 d_Re_errorOf_107 (by decide) ?_
            have hf : f_Re_errorOf r x = (4 : Int32) := by unfold f_Re_errorOf; rw [if_pos c42, if_pos c44, if_pos c45, if_pos c46, if_neg c47]
            exact hq_iret C hret hlk (Nat.le_of_ble_eq_true rfl) (Nat.le_of_ble_eq_true rfl) hL ⟨by rw [hf], rfl⟩ d_Re_errorOf_111
      · intro c45
        refine lv_aload_n C.1 C.2.1 d_Re_errorOf_52 rfl (lv_at hl 0 rfl) ?_
        refine hq_get (v := .int (r.p)) C f_Re_9 k0 rfl d_Re_errorOf_53 ?_
        refine lv_bipush (v := 15) C.1 C.2.1 d_Re_errorOf_56 (by decide) ?_
        refine lv_icmp_ge (tgt := 69) C.1 C.2.1 d_Re_errorOf_58 (by decide) ?_ ?_
        · intro c48
          refine lv_iconst (v := 0) C.1 C.2.1 d_Re_errorOf_69 (by decide) ?_
          refine lv_istore_n C.1 C.2.1 d_Re_errorOf_70 rfl hl (by decide) rfl (lv' := [(2, .int (0)), (0, .ref (a)), (1, .int (x))]) (fun ls hl => ?_)
          refine lv_aload_n C.1 C.2.1 d_Re_errorOf_71 rfl (lv_at hl 1 rfl) ?_
          refine hq_get (v := .int (r.p)) C f_Re_9 k0 rfl d_Re_errorOf_72 ?_
          refine lv_bipush (v := 18) C.1 C.2.1 d_Re_errorOf_75 (by decide) ?_
          refine lv_icmp_ne (tgt := 96) C.1 C.2.1 d_Re_errorOf_77 (by decide) ?_ ?_
          · intro c49
            refine lv_iconst (v := 0) C.1 C.2.1 d_Re_errorOf_96 (by decide) ?_
            refine lv_istore_n C.1 C.2.1 d_Re_errorOf_97 rfl hl (by decide) rfl (lv' := [(3, .int (0)), (2, .int (0)), (0, .ref (a)), (1, .int (x))]) (fun ls hl => ?_)
            refine lv_iload_n C.1 C.2.1 d_Re_errorOf_98 rfl (lv_at hl 1 rfl) ?_
            refine lv_if_ne (tgt := 106) C.1 C.2.1 d_Re_errorOf_99 (by decide) (fun hn => absurd hn (by decide)) (fun _ => ?_)
            refine lv_iload_n C.1 C.2.1 d_Re_errorOf_102 rfl (lv_at hl 0 rfl) ?_
            refine lv_if_eq (tgt := 110) C.1 C.2.1 d_Re_errorOf_103 (by decide) (fun _ => ?_) (fun hn => absurd (by decide) hn)
            refine lv_iconst (v := 0) C.1 C.2.1 d_Re_errorOf_110 (by decide) ?_
            have hf : f_Re_errorOf r x = (0 : Int32) := by unfold f_Re_errorOf; rw [if_pos c42, if_pos c44, if_neg c45, if_pos c48, if_neg c49]
            exact hq_iret C hret hlk (Nat.le_of_ble_eq_true rfl) (Nat.le_of_ble_eq_true rfl) hL ⟨by rw [hf], rfl⟩ d_Re_errorOf_111
          · intro c49
            refine lv_aload_n C.1 C.2.1 d_Re_errorOf_80 rfl (lv_at hl 1 rfl) ?_
            refine hq_get (v := .int (r.b)) C f_Re_32 k0 rfl d_Re_errorOf_81 ?_
            refine lv_iconst (v := 1) C.1 C.2.1 d_Re_errorOf_84 (by decide) ?_
            refine lv_ishl C.1 C.2.1 d_Re_errorOf_85 ?_
            refine lv_iload_n C.1 C.2.1 d_Re_errorOf_86 rfl (lv_at hl 2 rfl) ?_
            refine lv_ior C.1 C.2.1 d_Re_errorOf_87 ?_
            refine lv_iconst (v := 2) C.1 C.2.1 d_Re_errorOf_88 (by decide) ?_
            refine lv_icmp_le (tgt := 96) C.1 C.2.1 d_Re_errorOf_89 (by decide) ?_ ?_
            · intro c50
              refine lv_iconst (v := 0) C.1 C.2.1 d_Re_errorOf_96 (by decide) ?_
              refine lv_istore_n C.1 C.2.1 d_Re_errorOf_97 rfl hl (by decide) rfl (lv' := [(3, .int (0)), (2, .int (0)), (0, .ref (a)), (1, .int (x))]) (fun ls hl => ?_)
              refine lv_iload_n C.1 C.2.1 d_Re_errorOf_98 rfl (lv_at hl 1 rfl) ?_
              refine lv_if_ne (tgt := 106) C.1 C.2.1 d_Re_errorOf_99 (by decide) (fun hn => absurd hn (by decide)) (fun _ => ?_)
              refine lv_iload_n C.1 C.2.1 d_Re_errorOf_102 rfl (lv_at hl 0 rfl) ?_
              refine lv_if_eq (tgt := 110) C.1 C.2.1 d_Re_errorOf_103 (by decide) (fun _ => ?_) (fun hn => absurd (by decide) hn)
              refine lv_iconst (v := 0) C.1 C.2.1 d_Re_errorOf_110 (by decide) ?_
              have hf : f_Re_errorOf r x = (0 : Int32) := by unfold f_Re_errorOf; rw [if_pos c42, if_pos c44, if_neg c45, if_pos c48, if_pos c49, if_pos c50]
              exact hq_iret C hret hlk (Nat.le_of_ble_eq_true rfl) (Nat.le_of_ble_eq_true rfl) hL ⟨by rw [hf], rfl⟩ d_Re_errorOf_111
            · intro c50
              refine lv_iconst (v := 1) C.1 C.2.1 d_Re_errorOf_92 (by decide) ?_
              refine lv_goto (tgt := 97) C.1 C.2.1 d_Re_errorOf_93 (by decide) ?_
              refine lv_istore_n C.1 C.2.1 d_Re_errorOf_97 rfl hl (by decide) rfl (lv' := [(3, .int (1)), (2, .int (0)), (0, .ref (a)), (1, .int (x))]) (fun ls hl => ?_)
              refine lv_iload_n C.1 C.2.1 d_Re_errorOf_98 rfl (lv_at hl 1 rfl) ?_
              refine lv_if_ne (tgt := 106) C.1 C.2.1 d_Re_errorOf_99 (by decide) (fun hn => absurd hn (by decide)) (fun _ => ?_)
              refine lv_iload_n C.1 C.2.1 d_Re_errorOf_102 rfl (lv_at hl 0 rfl) ?_
              refine lv_if_eq (tgt := 110) C.1 C.2.1 d_Re_errorOf_103 (by decide) (fun hn => absurd hn (by decide)) (fun _ => ?_)
              refine lv_iconst (v := 4) C.1 C.2.1 d_Re_errorOf_106 (by decide) ?_
              refine lv_goto (tgt := 111) C.1 C.2.1 d_Re_errorOf_107 (by decide) ?_
              have hf : f_Re_errorOf r x = (4 : Int32) := by unfold f_Re_errorOf; rw [if_pos c42, if_pos c44, if_neg c45, if_pos c48, if_pos c49, if_neg c50]
              exact hq_iret C hret hlk (Nat.le_of_ble_eq_true rfl) (Nat.le_of_ble_eq_true rfl) hL ⟨by rw [hf], rfl⟩ d_Re_errorOf_111
        · intro c48
          refine lv_iload_n C.1 C.2.1 d_Re_errorOf_61 rfl (lv_at hl 1 rfl) ?_
          refine lv_if_eq (tgt := 69) C.1 C.2.1 d_Re_errorOf_62 (by decide) ?_ ?_
          · intro c51
            refine lv_iconst (v := 0) C.1 C.2.1 d_Re_errorOf_69 (by decide) ?_
            refine lv_istore_n C.1 C.2.1 d_Re_errorOf_70 rfl hl (by decide) rfl (lv' := [(2, .int (0)), (0, .ref (a)), (1, .int (x))]) (fun ls hl => ?_)
            refine lv_aload_n C.1 C.2.1 d_Re_errorOf_71 rfl (lv_at hl 1 rfl) ?_
            refine hq_get (v := .int (r.p)) C f_Re_9 k0 rfl d_Re_errorOf_72 ?_
            refine lv_bipush (v := 18) C.1 C.2.1 d_Re_errorOf_75 (by decide) ?_
            refine lv_icmp_ne (tgt := 96) C.1 C.2.1 d_Re_errorOf_77 (by decide) ?_ ?_
            · intro c52
              refine lv_iconst (v := 0) C.1 C.2.1 d_Re_errorOf_96 (by decide) ?_
              refine lv_istore_n C.1 C.2.1 d_Re_errorOf_97 rfl hl (by decide) rfl (lv' := [(3, .int (0)), (2, .int (0)), (0, .ref (a)), (1, .int (x))]) (fun ls hl => ?_)
              refine lv_iload_n C.1 C.2.1 d_Re_errorOf_98 rfl (lv_at hl 1 rfl) ?_
              refine lv_if_ne (tgt := 106) C.1 C.2.1 d_Re_errorOf_99 (by decide) (fun hn => absurd hn (by decide)) (fun _ => ?_)
              refine lv_iload_n C.1 C.2.1 d_Re_errorOf_102 rfl (lv_at hl 0 rfl) ?_
              refine lv_if_eq (tgt := 110) C.1 C.2.1 d_Re_errorOf_103 (by decide) (fun _ => ?_) (fun hn => absurd (by decide) hn)
              refine lv_iconst (v := 0) C.1 C.2.1 d_Re_errorOf_110 (by decide) ?_
              have hf : f_Re_errorOf r x = (0 : Int32) := by unfold f_Re_errorOf; rw [if_pos c42, if_pos c44, if_neg c45, if_neg c48, if_pos c51, if_neg c52]
              exact hq_iret C hret hlk (Nat.le_of_ble_eq_true rfl) (Nat.le_of_ble_eq_true rfl) hL ⟨by rw [hf], rfl⟩ d_Re_errorOf_111
            · intro c52
              refine lv_aload_n C.1 C.2.1 d_Re_errorOf_80 rfl (lv_at hl 1 rfl) ?_
              refine hq_get (v := .int (r.b)) C f_Re_32 k0 rfl d_Re_errorOf_81 ?_
              refine lv_iconst (v := 1) C.1 C.2.1 d_Re_errorOf_84 (by decide) ?_
              refine lv_ishl C.1 C.2.1 d_Re_errorOf_85 ?_
              refine lv_iload_n C.1 C.2.1 d_Re_errorOf_86 rfl (lv_at hl 2 rfl) ?_
              refine lv_ior C.1 C.2.1 d_Re_errorOf_87 ?_
              refine lv_iconst (v := 2) C.1 C.2.1 d_Re_errorOf_88 (by decide) ?_
              refine lv_icmp_le (tgt := 96) C.1 C.2.1 d_Re_errorOf_89 (by decide) ?_ ?_
              · intro c53
                refine lv_iconst (v := 0) C.1 C.2.1 d_Re_errorOf_96 (by decide) ?_
                refine lv_istore_n C.1 C.2.1 d_Re_errorOf_97 rfl hl (by decide) rfl (lv' := [(3, .int (0)), (2, .int (0)), (0, .ref (a)), (1, .int (x))]) (fun ls hl => ?_)
                refine lv_iload_n C.1 C.2.1 d_Re_errorOf_98 rfl (lv_at hl 1 rfl) ?_
                refine lv_if_ne (tgt := 106) C.1 C.2.1 d_Re_errorOf_99 (by decide) (fun hn => absurd hn (by decide)) (fun _ => ?_)
                refine lv_iload_n C.1 C.2.1 d_Re_errorOf_102 rfl (lv_at hl 0 rfl) ?_
                refine lv_if_eq (tgt := 110) C.1 C.2.1 d_Re_errorOf_103 (by decide) (fun _ => ?_) (fun hn => absurd (by decide) hn)
                refine lv_iconst (v := 0) C.1 C.2.1 d_Re_errorOf_110 (by decide) ?_
                have hf : f_Re_errorOf r x = (0 : Int32) := by unfold f_Re_errorOf; rw [if_pos c42, if_pos c44, if_neg c45, if_neg c48, if_pos c51, if_pos c52, if_pos c53]
                exact hq_iret C hret hlk (Nat.le_of_ble_eq_true rfl) (Nat.le_of_ble_eq_true rfl) hL ⟨by rw [hf], rfl⟩ d_Re_errorOf_111
              · intro c53
                refine lv_iconst (v := 1) C.1 C.2.1 d_Re_errorOf_92 (by decide) ?_
                refine lv_goto (tgt := 97) C.1 C.2.1 d_Re_errorOf_93 (by decide) ?_
                refine lv_istore_n C.1 C.2.1 d_Re_errorOf_97 rfl hl (by decide) rfl (lv' := [(3, .int (1)), (2, .int (0)), (0, .ref (a)), (1, .int (x))]) (fun ls hl => ?_)
                refine lv_iload_n C.1 C.2.1 d_Re_errorOf_98 rfl (lv_at hl 1 rfl) ?_
                refine lv_if_ne (tgt := 106) C.1 C.2.1 d_Re_errorOf_99 (by decide) (fun hn => absurd hn (by decide)) (fun _ => ?_)
                refine lv_iload_n C.1 C.2.1 d_Re_errorOf_102 rfl (lv_at hl 0 rfl) ?_
                refine lv_if_eq (tgt := 110) C.1 C.2.1 d_Re_errorOf_103 (by decide) (fun hn => absurd hn (by decide)) (fun _ => ?_)
                refine lv_iconst (v := 4) C.1 C.2.1 d_Re_errorOf_106 (by decide) ?_
                refine lv_goto (tgt := 111) C.1 C.2.1 d_Re_errorOf_107 (by decide) ?_
                have hf : f_Re_errorOf r x = (4 : Int32) := by unfold f_Re_errorOf; rw [if_pos c42, if_pos c44, if_neg c45, if_neg c48, if_pos c51, if_pos c52, if_neg c53]
                exact hq_iret C hret hlk (Nat.le_of_ble_eq_true rfl) (Nat.le_of_ble_eq_true rfl) hL ⟨by rw [hf], rfl⟩ d_Re_errorOf_111
          · intro c51
            refine lv_iconst (v := 1) C.1 C.2.1 d_Re_errorOf_65 (by decide) ?_
            refine lv_goto (tgt := 70) C.1 C.2.1 d_Re_errorOf_66 (by decide) ?_
            refine lv_istore_n C.1 C.2.1 d_Re_errorOf_70 rfl hl (by decide) rfl (lv' := [(2, .int (1)), (0, .ref (a)), (1, .int (x))]) (fun ls hl => ?_)
            refine lv_aload_n C.1 C.2.1 d_Re_errorOf_71 rfl (lv_at hl 1 rfl) ?_
            refine hq_get (v := .int (r.p)) C f_Re_9 k0 rfl d_Re_errorOf_72 ?_
            refine lv_bipush (v := 18) C.1 C.2.1 d_Re_errorOf_75 (by decide) ?_
            refine lv_icmp_ne (tgt := 96) C.1 C.2.1 d_Re_errorOf_77 (by decide) ?_ ?_
            · intro c54
              refine lv_iconst (v := 0) C.1 C.2.1 d_Re_errorOf_96 (by decide) ?_
              refine lv_istore_n C.1 C.2.1 d_Re_errorOf_97 rfl hl (by decide) rfl (lv' := [(3, .int (0)), (2, .int (1)), (0, .ref (a)), (1, .int (x))]) (fun ls hl => ?_)
              refine lv_iload_n C.1 C.2.1 d_Re_errorOf_98 rfl (lv_at hl 1 rfl) ?_
              refine lv_if_ne (tgt := 106) C.1 C.2.1 d_Re_errorOf_99 (by decide) (fun _ => ?_) (fun hn => absurd hn (by decide))
              refine lv_iconst (v := 4) C.1 C.2.1 d_Re_errorOf_106 (by decide) ?_
              refine lv_goto (tgt := 111) C.1 C.2.1 d_Re_errorOf_107 (by decide) ?_
              have hf : f_Re_errorOf r x = (4 : Int32) := by unfold f_Re_errorOf; rw [if_pos c42, if_pos c44, if_neg c45, if_neg c48, if_neg c51, if_neg c54]
              exact hq_iret C hret hlk (Nat.le_of_ble_eq_true rfl) (Nat.le_of_ble_eq_true rfl) hL ⟨by rw [hf], rfl⟩ d_Re_errorOf_111
            · intro c54
              refine lv_aload_n C.1 C.2.1 d_Re_errorOf_80 rfl (lv_at hl 1 rfl) ?_
              refine hq_get (v := .int (r.b)) C f_Re_32 k0 rfl d_Re_errorOf_81 ?_
              refine lv_iconst (v := 1) C.1 C.2.1 d_Re_errorOf_84 (by decide) ?_
              refine lv_ishl C.1 C.2.1 d_Re_errorOf_85 ?_
              refine lv_iload_n C.1 C.2.1 d_Re_errorOf_86 rfl (lv_at hl 2 rfl) ?_
              refine lv_ior C.1 C.2.1 d_Re_errorOf_87 ?_
              refine lv_iconst (v := 2) C.1 C.2.1 d_Re_errorOf_88 (by decide) ?_
              refine lv_icmp_le (tgt := 96) C.1 C.2.1 d_Re_errorOf_89 (by decide) ?_ ?_
              · intro c55
                refine lv_iconst (v := 0) C.1 C.2.1 d_Re_errorOf_96 (by decide) ?_
                refine lv_istore_n C.1 C.2.1 d_Re_errorOf_97 rfl hl (by decide) rfl (lv' := [(3, .int (0)), (2, .int (1)), (0, .ref (a)), (1, .int (x))]) (fun ls hl => ?_)
                refine lv_iload_n C.1 C.2.1 d_Re_errorOf_98 rfl (lv_at hl 1 rfl) ?_
                refine lv_if_ne (tgt := 106) C.1 C.2.1 d_Re_errorOf_99 (by decide) (fun _ => ?_) (fun hn => absurd hn (by decide))
                refine lv_iconst (v := 4) C.1 C.2.1 d_Re_errorOf_106 (by decide) ?_
                refine lv_goto (tgt := 111) C.1 C.2.1 d_Re_errorOf_107 (by decide) ?_
                have hf : f_Re_errorOf r x = (4 : Int32) := by unfold f_Re_errorOf; rw [if_pos c42, if_pos c44, if_neg c45, if_neg c48, if_neg c51, if_pos c54, if_pos c55]
                exact hq_iret C hret hlk (Nat.le_of_ble_eq_true rfl) (Nat.le_of_ble_eq_true rfl) hL ⟨by rw [hf], rfl⟩ d_Re_errorOf_111
              · intro c55
                refine lv_iconst (v := 1) C.1 C.2.1 d_Re_errorOf_92 (by decide) ?_
                refine lv_goto (tgt := 97) C.1 C.2.1 d_Re_errorOf_93 (by decide) ?_
                refine lv_istore_n C.1 C.2.1 d_Re_errorOf_97 rfl hl (by decide) rfl (lv' := [(3, .int (1)), (2, .int (1)), (0, .ref (a)), (1, .int (x))]) (fun ls hl => ?_)
                refine lv_iload_n C.1 C.2.1 d_Re_errorOf_98 rfl (lv_at hl 1 rfl) ?_
                refine lv_if_ne (tgt := 106) C.1 C.2.1 d_Re_errorOf_99 (by decide) (fun _ => ?_) (fun hn => absurd hn (by decide))
                refine lv_iconst (v := 4) C.1 C.2.1 d_Re_errorOf_106 (by decide) ?_
                refine lv_goto (tgt := 111) C.1 C.2.1 d_Re_errorOf_107 (by decide) ?_
                have hf : f_Re_errorOf r x = (4 : Int32) := by unfold f_Re_errorOf; rw [if_pos c42, if_pos c44, if_neg c45, if_neg c48, if_neg c51, if_pos c54, if_neg c55]
                exact hq_iret C hret hlk (Nat.le_of_ble_eq_true rfl) (Nat.le_of_ble_eq_true rfl) hL ⟨by rw [hf], rfl⟩ d_Re_errorOf_111
    · intro c44
      refine lv_aload_n C.1 C.2.1 d_Re_errorOf_28 rfl (lv_at hl 0 rfl) ?_
      refine lv_aload_n C.1 C.2.1 d_Re_errorOf_29 rfl (lv_at hl 0 rfl) ?_
      refine hq_get (v := .int (r.p)) C f_Re_9 k0 rfl d_Re_errorOf_30 ?_
      refine lv_aload_n C.1 C.2.1 d_Re_errorOf_33 rfl (lv_at hl 0 rfl) ?_
      refine hq_get (v := .int (r.c)) C f_Re_17 k0 rfl d_Re_errorOf_34 ?_
      refine lv_isub C.1 C.2.1 d_Re_errorOf_37 ?_
      refine lv_iload_n C.1 C.2.1 d_Re_errorOf_38 rfl (lv_at hl 1 rfl) ?_
      refine hq_callV (lo := lo) (As := [.int (r.p - r.c), .int (x)]) (rest := []) C tb_good hml Y_Re_66 (c_Re_errorBehindCore l D cI cZ cN cJ lo a r (r.p - r.c) x) k0 rfl (fun _ _ _ _ h => h) (fun U hU hW => by show va_at D vwCl (a, .inr (4, [.int (r.p), .int (r.c), .int (r.l), .int (r.e), .int (r.g), .int (r.i), .int (r.b), .int (r.d)])) U.heap; rw [hU]; exact k0) hL hl.1 rfl rfl ⟨⟨Nat.le_of_ble_eq_true rfl, Nat.le_of_ble_eq_true rfl⟩, Nat.le_of_ble_eq_true rfl, Nat.le_of_ble_eq_true rfl⟩ (Nat.le_of_ble_eq_true rfl) d_Re_errorOf_39 (fun v H56 locs hp hL => ?_)
      obtain ⟨rfl, rfl⟩ := hp
      refine W.eq (g2 := F0 m 42 ls [.int (f_Re_errorBehindCore r (r.p - r.c) x)]) rfl ?_
      have hf : f_Re_errorOf r x = f_Re_errorBehindCore r (r.p - r.c) x := by unfold f_Re_errorOf; rw [if_pos c42, if_neg c44]
      exact hq_iret C hret hlk (Nat.le_of_ble_eq_true rfl) (Nat.le_of_ble_eq_true rfl) hL ⟨by rw [hf], rfl⟩ d_Re_errorOf_42
  · intro c42
    refine lv_iload_n C.1 C.2.1 d_Re_errorOf_7 rfl (lv_at hl 1 rfl) ?_
    refine lv_aload_n C.1 C.2.1 d_Re_errorOf_8 rfl (lv_at hl 0 rfl) ?_
    refine hq_get (v := .int (r.l)) C f_Re_20 k0 rfl d_Re_errorOf_9 ?_
    refine lv_icmp_ne (tgt := 19) C.1 C.2.1 d_Re_errorOf_12 (by decide) ?_ ?_
    · intro c57
      refine lv_iconst (v := 0) C.1 C.2.1 d_Re_errorOf_19 (by decide) ?_
      have hf : f_Re_errorOf r x = (0 : Int32) := by unfold f_Re_errorOf; rw [if_neg c42, if_neg c57]
      exact hq_iret C hret hlk (Nat.le_of_ble_eq_true rfl) (Nat.le_of_ble_eq_true rfl) hL ⟨by rw [hf], rfl⟩ d_Re_errorOf_20
    · intro c57
      refine lv_iconst (v := 3) C.1 C.2.1 d_Re_errorOf_15 (by decide) ?_
      refine lv_goto (tgt := 20) C.1 C.2.1 d_Re_errorOf_16 (by decide) ?_
      have hf : f_Re_errorOf r x = (3 : Int32) := by unfold f_Re_errorOf; rw [if_neg c42, if_pos c57]
      exact hq_iret C hret hlk (Nat.le_of_ble_eq_true rfl) (Nat.le_of_ble_eq_true rfl) hL ⟨by rw [hf], rfl⟩ d_Re_errorOf_20
