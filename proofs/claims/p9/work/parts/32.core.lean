/-! The core that a node writes, and the ring of disturbances, as functions. -/
abbrev sCo := (Nat → Int32) × Nat × Int32
abbrev sCo.bits (k : sCo) : Nat → Int32 := k.1
abbrev sCo.len (k : sCo) : Nat := k.2.1
abbrev sCo.reg (k : sCo) : Int32 := k.2.2
def CoP (D : va_G) (cI : ClassId) (a : Nat) (k : sCo) (H : Heap) : Prop := va_at D vwCl (a, .inr (0, [.ref (a + 1), .int (nI k.len), .int k.reg])) H ∧ va_at D vwCl (a + 1, .inl (cI, 50, .inl k.bits)) H
def f_Co_bitAt (k : sCo) (x : Int32) : Int32 := if x < 0 then 1 else if nI k.len ≤ x then 1 else k.bits x.toNatClampNeg
def app1 (k : sCo) (b : Int32) : sCo := if k.len < 50 then ⟨upd k.bits k.len b, k.len + 1, f_Co_registerBehind k.reg b⟩ else ⟨k.bits, k.len, f_Co_registerBehind k.reg b⟩
def f_Co_append (x : Int32) : Nat → sCo → sCo
  | 0, k => k
  | d + 1, k => f_Co_append x d (app1 k ((x >>> (nI d &&& 31)) &&& 1))
theorem app1_len {k : sCo} {b : Int32} (h : k.len ≤ 50) : (app1 k b).len ≤ 50 := by
  unfold app1
  split
  · show k.len + 1 ≤ 50; omega
  · exact h
theorem append_len (x : Int32) : ∀ (d : Nat) (k : sCo), k.len ≤ 50 → (f_Co_append x d k).len ≤ 50 := by
  intro d
  induction d with
  | zero => intro k h; exact h
  | succ d ih => intro k h; exact ih _ (app1_len h)
set_option maxHeartbeats 4000000 in
set_option maxRecDepth 100000 in
theorem c_Co_bitAt (l : Launch) (D : va_G) (cI cZ cN cJ : ClassId) (lo : Nat) (a : Nat) (k : sCo) (hk : k.len ≤ 50) (x : Int32) : hq_M l y_Co_bitAt b_Co_bitAt 2 (some .int) TB { frames := 0, cells := 0, slots := 0, locals := 0 } lo D vwCl (TY cI cZ cN cJ) [.ref (a), .int (x)] (fun U => CoP D cI a k U.heap) (fun H v H' => v = some (.int (f_Co_bitAt k x)) ∧ H' = H) := by
  refine hq_ofW (by decide) (Nat.le_of_ble_eq_true rfl) ?_
  intro p e s m below meth c ls C hml hret hlk hnm hl hP
  obtain ⟨k0, k1⟩ := hP
  have hL : hq_L lo [] := hq_L0
  have hl : lv_has ls 2 [(0, .ref (a)), (1, .int (x))] := hl
  refine lv_iload_n C.1 C.2.1 d_Co_bitAt_0 rfl (lv_at hl 1 rfl) ?_
  refine lv_if_lt (tgt := 21) C.1 C.2.1 d_Co_bitAt_1 (by decide) ?_ ?_
  · intro c0
    refine lv_iconst (v := 1) C.1 C.2.1 d_Co_bitAt_21 (by decide) ?_
    exact hq_iret C hret hlk (Nat.le_of_ble_eq_true rfl) (Nat.le_of_ble_eq_true rfl) hL ⟨by unfold f_Co_bitAt; rw [if_pos c0], rfl⟩ d_Co_bitAt_22
  · intro c0
    refine lv_iload_n C.1 C.2.1 d_Co_bitAt_4 rfl (lv_at hl 1 rfl) ?_
    refine lv_aload_n C.1 C.2.1 d_Co_bitAt_5 rfl (lv_at hl 0 rfl) ?_
    refine hq_get (v := .int (nI k.len)) C f_Co_15 k0 rfl d_Co_bitAt_6 ?_
    refine lv_icmp_ge (tgt := 21) C.1 C.2.1 d_Co_bitAt_9 (by decide) ?_ ?_
    · intro c1
      refine lv_iconst (v := 1) C.1 C.2.1 d_Co_bitAt_21 (by decide) ?_
      exact hq_iret C hret hlk (Nat.le_of_ble_eq_true rfl) (Nat.le_of_ble_eq_true rfl) hL ⟨by unfold f_Co_bitAt; rw [if_neg c0, if_pos c1], rfl⟩ d_Co_bitAt_22
    · intro c1
      refine lv_aload_n C.1 C.2.1 d_Co_bitAt_12 rfl (lv_at hl 0 rfl) ?_
      refine hq_get (v := .ref (a + 1)) C f_Co_11 k0 rfl d_Co_bitAt_13 ?_
      refine lv_iload_n C.1 C.2.1 d_Co_bitAt_16 rfl (lv_at hl 1 rfl) ?_
      obtain ⟨j, hj, hj2⟩ := fr_ix (by omega) c0 c1
      refine hq_iald C 0 rfl k1 (by rw [hj2]; exact vp_in_nI (by omega) (by decide)) d_Co_bitAt_17 ?_
      refine W.eq (g2 := F0 m 18 ls [.int (k.bits x.toNatClampNeg)]) rfl ?_
      refine lv_goto (tgt := 22) C.1 C.2.1 d_Co_bitAt_18 (by decide) ?_
      exact hq_iret C hret hlk (Nat.le_of_ble_eq_true rfl) (Nat.le_of_ble_eq_true rfl) hL ⟨by unfold f_Co_bitAt; rw [if_neg c0, if_neg c1], rfl⟩ d_Co_bitAt_22
set_option maxHeartbeats 4000000 in
set_option maxRecDepth 100000 in
theorem co_append {p : Program} {l : Launch} {e : Env} {s : State} {m : MethodId} {args : Array Value} {below : List Frame} {meth : Method} {c : Code} (D : va_G) (cI cZ cN cJ : ClassId) (lo a : Nat) (hlo : lo ≤ a) (x : Int32) {R9 : sCo} (C : hq_C p c s m args R_Co b_Co_append TB D vwCl (TY cI cZ cN cJ)) (hml : c.maxLocals = 5) (hret : meth.sig.returnType = none) (hlk : meth.locks = false) :
    ∀ (d : Nat) (hd : d < 100) (k : sCo) (H : Heap) (ls : Array Slot) (locs : List Loc), k.len ≤ 50 → f_Co_append x d k = R9 → hq_S a 2 s.heap H → hq_L lo locs → lv_has ls 5 [(3, .int (nI d - 1)), (1, .int x), (0, .ref a)] → va_at D vwCl (a, .inr (0, [.ref (a + 1), .int (nI k.len), .int (k.reg)])) H → va_at D vwCl (a + 1, .inl (cI, 50, .inl (k.bits))) H →
      W p l e { frames := 1, cells := 0, slots := 0, locals := 30 } s m args below meth c H locs 0 0 (MQ below (hq_Q (fun H v H' => v = none ∧ CoP D cI a R9 H' ∧ hq_S a 2 H H')) args s 0 0 (fun q => lo ≤ q)) (F0 m 4 ls []) := by
  intro d
  induction d with
  | zero =>
    intro hd
    intro k H ls locs hk hR hS hL hl k0 k1
    refine lv_iload_n C.1 C.2.1 d_Co_append_4 rfl (lv_at hl 0 rfl) ?_
    refine lv_if_lt (tgt := 64) C.1 C.2.1 d_Co_append_5 (by decide) (fun _ => ?_) (fun hn => absurd (show nI 0 - 1 < 0 from by decide) hn)
    subst hR
    exact hq_vret C hret hlk (Nat.le_of_ble_eq_true rfl) (Nat.le_of_ble_eq_true rfl) hL ⟨rfl, ⟨k0, k1⟩, hS⟩ d_Co_append_64
  | succ d ih =>
    intro hd
    have ih := ih (by omega)
    intro k H ls locs hk hR hS hL hl k0 k1
    rw [show nI (d + 1) - 1 = nI d from fr_pred (k := d + 1) (by omega)] at hl
    refine lv_iload_n C.1 C.2.1 d_Co_append_4 rfl (lv_at hl 0 rfl) ?_
    refine lv_if_lt (tgt := 64) C.1 C.2.1 d_Co_append_5 (by decide) (fun hn => absurd hn (nI_pos (by omega))) (fun _ => ?_)
    refine lv_iload_n C.1 C.2.1 d_Co_append_8 rfl (lv_at hl 1 rfl) ?_
    refine lv_iload_n C.1 C.2.1 d_Co_append_9 rfl (lv_at hl 0 rfl) ?_
    refine lv_ishr C.1 C.2.1 d_Co_append_10 ?_
    refine lv_iconst (v := 1) C.1 C.2.1 d_Co_append_11 (by decide) ?_
    refine lv_iand C.1 C.2.1 d_Co_append_12 ?_
    refine lv_istore C.1 C.2.1 d_Co_append_13 hl (by decide) rfl (lv' := [(4, .int ((x >>> ((nI d) &&& 31)) &&& 1)), (3, .int (nI d)), (1, .int (x)), (0, .ref (a))]) (fun ls hl => ?_)
    refine lv_aload_n C.1 C.2.1 d_Co_append_15 rfl (lv_at hl 3 rfl) ?_
    refine hq_get (v := .int (nI k.len)) C f_Co_15 k0 rfl d_Co_append_16 ?_
    refine lv_bipush (v := 50) C.1 C.2.1 d_Co_append_19 (by decide) ?_
    by_cases h50 : k.len < 50
    · skip
      refine lv_icmp_ge (tgt := 45) C.1 C.2.1 d_Co_append_21 (by decide) (fun hn => absurd hn (nI_ge h50 (by decide))) (fun _ => ?_)
      refine lv_aload_n C.1 C.2.1 d_Co_append_24 rfl (lv_at hl 3 rfl) ?_
      refine hq_get (v := .ref (a + 1)) C f_Co_11 k0 rfl d_Co_append_25 ?_
      refine lv_aload_n C.1 C.2.1 d_Co_append_28 rfl (lv_at hl 3 rfl) ?_
      refine hq_get (v := .int (nI k.len)) C f_Co_15 k0 rfl d_Co_append_29 ?_
      refine lv_iload C.1 C.2.1 d_Co_append_32 (lv_at hl 0 rfl) ?_
      refine hq_iast (lo := lo) C 0 rfl k1 (vp_in_nI h50 (by decide)) hL (by omega) d_Co_append_34 (fun H1 locs u1 hL => ?_)
      have k41 : va_at D vwCl (a + 1, .inl (cI, 50, .inl (upd k.bits (nI k.len).toNatClampNeg ((x >>> (nI d &&& 31)) &&& 1)))) H1 := u1.2.2
      rw [nI_clamp (by omega)] at k41
      refine lv_aload_n C.1 C.2.1 d_Co_append_35 rfl (lv_at hl 3 rfl) ?_
      refine lv_dup C.1 C.2.1 d_Co_append_36 rfl ?_
      have k42 := hq_au k0 u1 (by omega)
      refine hq_get (v := .int (nI k.len)) C f_Co_15 k42 rfl d_Co_append_37 ?_
      refine lv_iconst (v := 1) C.1 C.2.1 d_Co_append_40 (by decide) ?_
      refine lv_iadd C.1 C.2.1 d_Co_append_41 ?_
      rw [nI_1 k.len]
      refine hq_put (lo := lo) C f_Co_15 k42 rfl rfl (Nat.le_of_ble_eq_true rfl) hL (by omega) d_Co_append_42 (fun H43 locs u44 hL => ?_)
      have k45 : va_at D vwCl (a, .inr (0, [.ref (a + 1), .int (nI (k.len + 1)), .int (k.reg)])) H43 := u44.2.2
      refine lv_aload_n C.1 C.2.1 d_Co_append_45 rfl (lv_at hl 3 rfl) ?_
      refine lv_aload_n C.1 C.2.1 d_Co_append_46 rfl (lv_at hl 3 rfl) ?_
      refine hq_get (v := .int (k.reg)) C f_Co_19 k45 rfl d_Co_append_47 ?_
      refine lv_iload C.1 C.2.1 d_Co_append_50 (lv_at hl 0 rfl) ?_
      refine hq_callS (lo := lo) (As := [.int (k.reg), .int ((x >>> ((nI d) &&& 31)) &&& 1)]) (rest := [.ref (a)]) C tb_good hml Y_Co_38 (c_Co_registerBehind l D cI cZ cN cJ lo k.reg ((x >>> (nI d &&& 31)) &&& 1)) (fun _ _ _ _ h => h) (fun U hU hW => trivial) hL hl.1 rfl rfl ⟨⟨Nat.le_of_ble_eq_true rfl, Nat.le_of_ble_eq_true rfl⟩, Nat.le_of_ble_eq_true rfl, Nat.le_of_ble_eq_true rfl⟩ (Nat.le_of_ble_eq_true rfl) d_Co_append_52 (fun v H46 locs hp hL => ?_)
      obtain ⟨rfl, rfl⟩ := hp
      refine W.eq (g2 := F0 m 55 ls [.int (f_Co_registerBehind k.reg ((x >>> (nI d &&& 31)) &&& 1)), .ref (a)]) rfl ?_
      refine hq_put (lo := lo) C f_Co_19 k45 rfl rfl (Nat.le_of_ble_eq_true rfl) hL (by omega) d_Co_append_55 (fun H47 locs u48 hL => ?_)
      have k49 : va_at D vwCl (a, .inr (0, [.ref (a + 1), .int (nI (k.len + 1)), .int (f_Co_registerBehind k.reg ((x >>> (nI d &&& 31)) &&& 1))])) H47 := u48.2.2
      refine lv_iinc (k := 1) (v := nI d - 1) C.1 C.2.1 d_Co_append_58 hl rfl (by rw [Int32.sub_eq_add_neg]; rfl) (by decide) (lv' := [(3, .int (nI d - 1)), (4, .int ((x >>> ((nI d) &&& 31)) &&& 1)), (1, .int (x)), (0, .ref (a))]) rfl (fun ls hl => ?_)
      refine lv_goto (tgt := 4) C.1 C.2.1 d_Co_append_61 (by decide) ?_
      have k50 := hq_au (hq_au k41 u44 (by omega)) u48 (by omega)
      exact ih ⟨upd k.bits k.len ((x >>> (nI d &&& 31)) &&& 1), k.len + 1, f_Co_registerBehind k.reg ((x >>> (nI d &&& 31)) &&& 1)⟩ _ ls _ (by show k.len + 1 ≤ 50; omega) (by rw [← hR, show f_Co_append x (d + 1) k = f_Co_append x d (app1 k ((x >>> (nI d &&& 31)) &&& 1)) from rfl]; unfold app1; rw [if_pos h50]) (hq_Sput (hq_Sput (hq_Sput (hS) u1 (by omega) (by omega)) u44 (by omega) (by omega)) u48 (by omega) (by omega)) hL (lv_push (lv_push (lv_push (lv_nil hl) (lv_at hl 3 rfl)) (lv_at hl 2 rfl)) (lv_at hl 0 rfl)) k49 k50
    · skip
      refine lv_icmp_ge (tgt := 45) C.1 C.2.1 d_Co_append_21 (by decide) (fun _ => ?_) (fun hn => absurd (nI_le (a := 50) (by omega) (by omega)) hn)
      refine lv_aload_n C.1 C.2.1 d_Co_append_45 rfl (lv_at hl 3 rfl) ?_
      refine lv_aload_n C.1 C.2.1 d_Co_append_46 rfl (lv_at hl 3 rfl) ?_
      refine hq_get (v := .int (k.reg)) C f_Co_19 k0 rfl d_Co_append_47 ?_
      refine lv_iload C.1 C.2.1 d_Co_append_50 (lv_at hl 0 rfl) ?_
      refine hq_callS (lo := lo) (As := [.int (k.reg), .int ((x >>> ((nI d) &&& 31)) &&& 1)]) (rest := [.ref (a)]) C tb_good hml Y_Co_38 (c_Co_registerBehind l D cI cZ cN cJ lo k.reg ((x >>> (nI d &&& 31)) &&& 1)) (fun _ _ _ _ h => h) (fun U hU hW => trivial) hL hl.1 rfl rfl ⟨⟨Nat.le_of_ble_eq_true rfl, Nat.le_of_ble_eq_true rfl⟩, Nat.le_of_ble_eq_true rfl, Nat.le_of_ble_eq_true rfl⟩ (Nat.le_of_ble_eq_true rfl) d_Co_append_52 (fun v H51 locs hp hL => ?_)
      obtain ⟨rfl, rfl⟩ := hp
      refine W.eq (g2 := F0 m 55 ls [.int (f_Co_registerBehind k.reg ((x >>> (nI d &&& 31)) &&& 1)), .ref (a)]) rfl ?_
      refine hq_put (lo := lo) C f_Co_19 k0 rfl rfl (Nat.le_of_ble_eq_true rfl) hL (by omega) d_Co_append_55 (fun H52 locs u53 hL => ?_)
      have k54 : va_at D vwCl (a, .inr (0, [.ref (a + 1), .int (nI k.len), .int (f_Co_registerBehind k.reg ((x >>> (nI d &&& 31)) &&& 1))])) H52 := u53.2.2
      refine lv_iinc (k := 1) (v := nI d - 1) C.1 C.2.1 d_Co_append_58 hl rfl (by rw [Int32.sub_eq_add_neg]; rfl) (by decide) (lv' := [(3, .int (nI d - 1)), (4, .int ((x >>> ((nI d) &&& 31)) &&& 1)), (1, .int (x)), (0, .ref (a))]) rfl (fun ls hl => ?_)
      refine lv_goto (tgt := 4) C.1 C.2.1 d_Co_append_61 (by decide) ?_
      have k55 := hq_au k1 u53 (by omega)
      exact ih ⟨k.bits, k.len, f_Co_registerBehind k.reg ((x >>> (nI d &&& 31)) &&& 1)⟩ _ ls _ (by show k.len ≤ 50; omega) (by rw [← hR, show f_Co_append x (d + 1) k = f_Co_append x d (app1 k ((x >>> (nI d &&& 31)) &&& 1)) from rfl]; unfold app1; rw [if_neg h50]) (hq_Sput (hS) u53 (by omega) (by omega)) hL (lv_push (lv_push (lv_push (lv_nil hl) (lv_at hl 3 rfl)) (lv_at hl 2 rfl)) (lv_at hl 0 rfl)) k54 k55
set_option maxHeartbeats 4000000 in
set_option maxRecDepth 100000 in
theorem c_Co_append (l : Launch) (D : va_G) (cI cZ cN cJ : ClassId) (lo : Nat) (a : Nat) (hlo : lo ≤ a) (k : sCo) (hk : k.len ≤ 50) (x : Int32) (wd : Nat) (hw : wd < 100) : hq_M l y_Co_append b_Co_append 5 none TB { frames := 1, cells := 0, slots := 0, locals := 30 } lo D vwCl (TY cI cZ cN cJ) [.ref (a), .int (x), .int (nI wd)] (fun U => CoP D cI a k U.heap) (fun H v H' => v = none ∧ CoP D cI a (f_Co_append x wd k) H' ∧ hq_S a 2 H H') := by
  refine hq_ofW (by decide) (Nat.le_of_ble_eq_true rfl) ?_
  intro p e s m below meth c ls C hml hret hlk hnm hl hP
  obtain ⟨k0, k1⟩ := hP
  have hL : hq_L lo [] := hq_L0
  have hl : lv_has ls 5 [(0, .ref (a)), (1, .int (x)), (2, .int (nI wd))] := hl
  refine lv_iload_n C.1 C.2.1 d_Co_append_0 rfl (lv_at hl 2 rfl) ?_
  refine lv_iconst (v := 1) C.1 C.2.1 d_Co_append_1 (by decide) ?_
  refine lv_isub C.1 C.2.1 d_Co_append_2 ?_
  refine lv_istore_n C.1 C.2.1 d_Co_append_3 rfl hl (by decide) rfl (lv' := [(3, .int ((nI wd) - 1)), (0, .ref (a)), (1, .int (x)), (2, .int (nI wd))]) (fun ls hl => ?_)
  exact co_append D cI cZ cN cJ lo a hlo x C hml hret hlk wd hw k _ ls [] hk rfl hq_S0 hL (lv_push (lv_push (lv_push (lv_nil hl) (lv_at hl 1 rfl)) (lv_at hl 2 rfl)) (lv_at hl 0 rfl)) k0 k1
def f_Co_write (k : sCo) (x : Int32) : sCo := if f_Fr_bytesOf x ≤ 0 then f_Co_append (f_Co_append (f_Fr_bytesOf x) 4 (f_Co_append 0 3 (f_Co_append (f_Fr_idOf x) 11 (f_Co_append 0 1 (⟨k.bits, 0, 0⟩ : sCo))))).reg 15 (f_Co_append (f_Fr_bytesOf x) 4 (f_Co_append 0 3 (f_Co_append (f_Fr_idOf x) 11 (f_Co_append 0 1 (⟨k.bits, 0, 0⟩ : sCo))))) else if f_Fr_bytesOf x ≤ 1 then f_Co_append (f_Co_append ((f_Fr_dataOf x) >>> ((8 * 0) &&& 31)) 8 (f_Co_append (f_Fr_bytesOf x) 4 (f_Co_append 0 3 (f_Co_append (f_Fr_idOf x) 11 (f_Co_append 0 1 (⟨k.bits, 0, 0⟩ : sCo)))))).reg 15 (f_Co_append ((f_Fr_dataOf x) >>> ((8 * 0) &&& 31)) 8 (f_Co_append (f_Fr_bytesOf x) 4 (f_Co_append 0 3 (f_Co_append (f_Fr_idOf x) 11 (f_Co_append 0 1 (⟨k.bits, 0, 0⟩ : sCo)))))) else f_Co_append (f_Co_append ((f_Fr_dataOf x) >>> ((8 * 1) &&& 31)) 8 (f_Co_append ((f_Fr_dataOf x) >>> ((8 * 0) &&& 31)) 8 (f_Co_append (f_Fr_bytesOf x) 4 (f_Co_append 0 3 (f_Co_append (f_Fr_idOf x) 11 (f_Co_append 0 1 (⟨k.bits, 0, 0⟩ : sCo))))))).reg 15 (f_Co_append ((f_Fr_dataOf x) >>> ((8 * 1) &&& 31)) 8 (f_Co_append ((f_Fr_dataOf x) >>> ((8 * 0) &&& 31)) 8 (f_Co_append (f_Fr_bytesOf x) 4 (f_Co_append 0 3 (f_Co_append (f_Fr_idOf x) 11 (f_Co_append 0 1 (⟨k.bits, 0, 0⟩ : sCo)))))))
set_option maxHeartbeats 4000000 in
set_option maxRecDepth 100000 in
theorem c_Co_write (l : Launch) (D : va_G) (cI cZ cN cJ : ClassId) (lo : Nat) (a : Nat) (hlo : lo ≤ a) (k : sCo) (x : Int32) : hq_M l y_Co_write b_Co_write 5 none TB { frames := 2, cells := 0, slots := 0, locals := 60 } lo D vwCl (TY cI cZ cN cJ) [.ref (a), .int (x)] (fun U => CoP D cI a k U.heap) (fun H v H' => v = none ∧ CoP D cI a (f_Co_write k x) H' ∧ hq_S a 2 H H') := by
  refine hq_ofW (by decide) (Nat.le_of_ble_eq_true rfl) ?_
  intro p e s m below meth c ls C hml hret hlk hnm hl hP
  obtain ⟨k0, k1⟩ := hP
  have hL : hq_L lo [] := hq_L0
  have hl : lv_has ls 5 [(0, .ref (a)), (1, .int (x))] := hl
  refine lv_iload_n C.1 C.2.1 d_Co_write_0 rfl (lv_at hl 1 rfl) ?_
  refine hq_callS (lo := lo) (As := [.int (x)]) (rest := []) C tb_good hml Y_Co_22 (c_Fr_dataOf l D cI cZ cN cJ lo x) (fun _ _ _ _ h => h) (fun U hU hW => trivial) hL hl.1 rfl rfl ⟨⟨Nat.le_of_ble_eq_true rfl, Nat.le_of_ble_eq_true rfl⟩, Nat.le_of_ble_eq_true rfl, Nat.le_of_ble_eq_true rfl⟩ (Nat.le_of_ble_eq_true rfl) d_Co_write_1 (fun v H41 locs hp hL => ?_)
  obtain ⟨rfl, rfl⟩ := hp
  refine W.eq (g2 := F0 m 4 ls [.int (f_Fr_dataOf x)]) rfl ?_
  refine lv_istore_n C.1 C.2.1 d_Co_write_4 rfl hl (by decide) rfl (lv' := [(2, .int (f_Fr_dataOf x)), (0, .ref (a)), (1, .int (x))]) (fun ls hl => ?_)
  refine lv_iload_n C.1 C.2.1 d_Co_write_5 rfl (lv_at hl 2 rfl) ?_
  refine hq_callS (lo := lo) (As := [.int (x)]) (rest := []) C tb_good hml Y_Co_28 (c_Fr_bytesOf l D cI cZ cN cJ lo x) (fun _ _ _ _ h => h) (fun U hU hW => trivial) hL hl.1 rfl rfl ⟨⟨Nat.le_of_ble_eq_true rfl, Nat.le_of_ble_eq_true rfl⟩, Nat.le_of_ble_eq_true rfl, Nat.le_of_ble_eq_true rfl⟩ (Nat.le_of_ble_eq_true rfl) d_Co_write_6 (fun v H42 locs hp hL => ?_)
  obtain ⟨rfl, rfl⟩ := hp
  refine W.eq (g2 := F0 m 9 ls [.int (f_Fr_bytesOf x)]) rfl ?_
  refine lv_istore_n C.1 C.2.1 d_Co_write_9 rfl hl (by decide) rfl (lv' := [(3, .int (f_Fr_bytesOf x)), (2, .int (f_Fr_dataOf x)), (0, .ref (a)), (1, .int (x))]) (fun ls hl => ?_)
  refine lv_aload_n C.1 C.2.1 d_Co_write_10 rfl (lv_at hl 2 rfl) ?_
  refine lv_iconst (v := 0) C.1 C.2.1 d_Co_write_11 (by decide) ?_
  refine hq_put (lo := lo) C f_Co_15 k0 rfl rfl (Nat.le_of_ble_eq_true rfl) hL (by omega) d_Co_write_12 (fun H43 locs u44 hL => ?_)
  have k45 : va_at D vwCl (a, .inr (0, [.ref (a + 1), .int (0), .int (k.reg)])) H43 := u44.2.2
  refine lv_aload_n C.1 C.2.1 d_Co_write_15 rfl (lv_at hl 2 rfl) ?_
  refine lv_iconst (v := 0) C.1 C.2.1 d_Co_write_16 (by decide) ?_
  refine hq_put (lo := lo) C f_Co_19 k45 rfl rfl (Nat.le_of_ble_eq_true rfl) hL (by omega) d_Co_write_17 (fun H46 locs u47 hL => ?_)
  have k48 : va_at D vwCl (a, .inr (0, [.ref (a + 1), .int (0), .int (0)])) H46 := u47.2.2
  refine lv_aload_n C.1 C.2.1 d_Co_write_20 rfl (lv_at hl 2 rfl) ?_
  refine lv_iconst (v := 0) C.1 C.2.1 d_Co_write_21 (by decide) ?_
  refine lv_iconst (v := 1) C.1 C.2.1 d_Co_write_22 (by decide) ?_
  have k49 := hq_au (hq_au k1 u44 (by omega)) u47 (by omega)
  refine hq_callV (lo := lo) (As := [.int (0), .int (nI 1)]) (rest := []) C tb_good hml Y_Co_31 (c_Co_append l D cI cZ cN cJ lo a hlo (⟨k.bits, 0, 0⟩ : sCo) (Nat.zero_le 50) (0) 1 (by decide)) k48 rfl (fun _ _ _ _ h => h) (fun U hU hW => by show CoP D cI a (⟨k.bits, 0, 0⟩ : sCo) U.heap; rw [hU]; exact ⟨k48, k49⟩) hL hl.1 rfl rfl ⟨⟨Nat.le_of_ble_eq_true rfl, Nat.le_of_ble_eq_true rfl⟩, Nat.le_of_ble_eq_true rfl, Nat.le_of_ble_eq_true rfl⟩ (Nat.le_of_ble_eq_true rfl) d_Co_write_23 (fun v H53 locs hp hL => ?_)
  obtain ⟨rfl, ⟨k51, k52⟩, S50⟩ := hp
  refine W.eq (g2 := F0 m 26 ls []) rfl ?_
  refine lv_aload_n C.1 C.2.1 d_Co_write_26 rfl (lv_at hl 2 rfl) ?_
  refine lv_iload_n C.1 C.2.1 d_Co_write_27 rfl (lv_at hl 3 rfl) ?_
  refine hq_callS (lo := lo) (As := [.int (x)]) (rest := [.ref (a)]) C tb_good hml Y_Co_35 (c_Fr_idOf l D cI cZ cN cJ lo x) (fun _ _ _ _ h => h) (fun U hU hW => trivial) hL hl.1 rfl rfl ⟨⟨Nat.le_of_ble_eq_true rfl, Nat.le_of_ble_eq_true rfl⟩, Nat.le_of_ble_eq_true rfl, Nat.le_of_ble_eq_true rfl⟩ (Nat.le_of_ble_eq_true rfl) d_Co_write_28 (fun v H54 locs hp hL => ?_)
  obtain ⟨rfl, rfl⟩ := hp
  refine W.eq (g2 := F0 m 31 ls [.int (f_Fr_idOf x), .ref (a)]) rfl ?_
  refine lv_bipush (v := 11) C.1 C.2.1 d_Co_write_31 (by decide) ?_
  refine hq_callV (lo := lo) (As := [.int (f_Fr_idOf x), .int (nI 11)]) (rest := []) C tb_good hml Y_Co_31 (c_Co_append l D cI cZ cN cJ lo a hlo (f_Co_append 0 1 (⟨k.bits, 0, 0⟩ : sCo)) (append_len _ _ _ (Nat.zero_le 50)) (f_Fr_idOf x) 11 (by decide)) k51 rfl (fun _ _ _ _ h => h) (fun U hU hW => by show CoP D cI a (f_Co_append 0 1 (⟨k.bits, 0, 0⟩ : sCo)) U.heap; rw [hU]; exact ⟨k51, k52⟩) hL hl.1 rfl rfl ⟨⟨Nat.le_of_ble_eq_true rfl, Nat.le_of_ble_eq_true rfl⟩, Nat.le_of_ble_eq_true rfl, Nat.le_of_ble_eq_true rfl⟩ (Nat.le_of_ble_eq_true rfl) d_Co_write_33 (fun v H58 locs hp hL => ?_)
  obtain ⟨rfl, ⟨k56, k57⟩, S55⟩ := hp
  refine W.eq (g2 := F0 m 36 ls []) rfl ?_
  refine lv_aload_n C.1 C.2.1 d_Co_write_36 rfl (lv_at hl 2 rfl) ?_
  refine lv_iconst (v := 0) C.1 C.2.1 d_Co_write_37 (by decide) ?_
  refine lv_iconst (v := 3) C.1 C.2.1 d_Co_write_38 (by decide) ?_
  refine hq_callV (lo := lo) (As := [.int (0), .int (nI 3)]) (rest := []) C tb_good hml Y_Co_31 (c_Co_append l D cI cZ cN cJ lo a hlo (f_Co_append (f_Fr_idOf x) 11 (f_Co_append 0 1 (⟨k.bits, 0, 0⟩ : sCo))) (append_len _ _ _ (append_len _ _ _ (Nat.zero_le 50))) (0) 3 (by decide)) k56 rfl (fun _ _ _ _ h => h) (fun U hU hW => by show CoP D cI a (f_Co_append (f_Fr_idOf x) 11 (f_Co_append 0 1 (⟨k.bits, 0, 0⟩ : sCo))) U.heap; rw [hU]; exact ⟨k56, k57⟩) hL hl.1 rfl rfl ⟨⟨Nat.le_of_ble_eq_true rfl, Nat.le_of_ble_eq_true rfl⟩, Nat.le_of_ble_eq_true rfl, Nat.le_of_ble_eq_true rfl⟩ (Nat.le_of_ble_eq_true rfl) d_Co_write_39 (fun v H62 locs hp hL => ?_)
  obtain ⟨rfl, ⟨k60, k61⟩, S59⟩ := hp
  refine W.eq (g2 := F0 m 42 ls []) rfl ?_
  refine lv_aload_n C.1 C.2.1 d_Co_write_42 rfl (lv_at hl 2 rfl) ?_
  refine lv_iload_n C.1 C.2.1 d_Co_write_43 rfl (lv_at hl 0 rfl) ?_
  refine lv_iconst (v := 4) C.1 C.2.1 d_Co_write_44 (by decide) ?_
  refine hq_callV (lo := lo) (As := [.int (f_Fr_bytesOf x), .int (nI 4)]) (rest := []) C tb_good hml Y_Co_31 (c_Co_append l D cI cZ cN cJ lo a hlo (f_Co_append 0 3 (f_Co_append (f_Fr_idOf x) 11 (f_Co_append 0 1 (⟨k.bits, 0, 0⟩ : sCo)))) (append_len _ _ _ (append_len _ _ _ (append_len _ _ _ (Nat.zero_le 50)))) (f_Fr_bytesOf x) 4 (by decide)) k60 rfl (fun _ _ _ _ h => h) (fun U hU hW => by show CoP D cI a (f_Co_append 0 3 (f_Co_append (f_Fr_idOf x) 11 (f_Co_append 0 1 (⟨k.bits, 0, 0⟩ : sCo)))) U.heap; rw [hU]; exact ⟨k60, k61⟩) hL hl.1 rfl rfl ⟨⟨Nat.le_of_ble_eq_true rfl, Nat.le_of_ble_eq_true rfl⟩, Nat.le_of_ble_eq_true rfl, Nat.le_of_ble_eq_true rfl⟩ (Nat.le_of_ble_eq_true rfl) d_Co_write_45 (fun v H66 locs hp hL => ?_)
  obtain ⟨rfl, ⟨k64, k65⟩, S63⟩ := hp
  refine W.eq (g2 := F0 m 48 ls []) rfl ?_
  refine lv_iconst (v := 0) C.1 C.2.1 d_Co_write_48 (by decide) ?_
  refine lv_istore C.1 C.2.1 d_Co_write_49 hl (by decide) rfl (lv' := [(4, .int (0)), (3, .int (f_Fr_bytesOf x)), (2, .int (f_Fr_dataOf x)), (0, .ref (a)), (1, .int (x))]) (fun ls hl => ?_)
  refine lv_iload C.1 C.2.1 d_Co_write_51 (lv_at hl 0 rfl) ?_
  refine lv_iload_n C.1 C.2.1 d_Co_write_53 rfl (lv_at hl 1 rfl) ?_
  refine lv_icmp_ge (tgt := 82) C.1 C.2.1 d_Co_write_54 (by decide) ?_ ?_
  · intro c0
    refine lv_aload_n C.1 C.2.1 d_Co_write_82 rfl (lv_at hl 3 rfl) ?_
    refine lv_aload_n C.1 C.2.1 d_Co_write_83 rfl (lv_at hl 3 rfl) ?_
    refine hq_get (v := .int ((f_Co_append (f_Fr_bytesOf x) 4 (f_Co_append 0 3 (f_Co_append (f_Fr_idOf x) 11 (f_Co_append 0 1 (⟨k.bits, 0, 0⟩ : sCo))))).reg)) C f_Co_19 k64 rfl d_Co_write_84 ?_
    refine lv_bipush (v := 15) C.1 C.2.1 d_Co_write_87 (by decide) ?_
    refine hq_callV (lo := lo) (As := [.int ((f_Co_append (f_Fr_bytesOf x) 4 (f_Co_append 0 3 (f_Co_append (f_Fr_idOf x) 11 (f_Co_append 0 1 (⟨k.bits, 0, 0⟩ : sCo))))).reg), .int (nI 15)]) (rest := []) C tb_good hml Y_Co_31 (c_Co_append l D cI cZ cN cJ lo a hlo (f_Co_append (f_Fr_bytesOf x) 4 (f_Co_append 0 3 (f_Co_append (f_Fr_idOf x) 11 (f_Co_append 0 1 (⟨k.bits, 0, 0⟩ : sCo))))) (append_len _ _ _ (append_len _ _ _ (append_len _ _ _ (append_len _ _ _ (Nat.zero_le 50))))) ((f_Co_append (f_Fr_bytesOf x) 4 (f_Co_append 0 3 (f_Co_append (f_Fr_idOf x) 11 (f_Co_append 0 1 (⟨k.bits, 0, 0⟩ : sCo))))).reg) 15 (by decide)) k64 rfl (fun _ _ _ _ h => h) (fun U hU hW => by show CoP D cI a (f_Co_append (f_Fr_bytesOf x) 4 (f_Co_append 0 3 (f_Co_append (f_Fr_idOf x) 11 (f_Co_append 0 1 (⟨k.bits, 0, 0⟩ : sCo))))) U.heap; rw [hU]; exact ⟨k64, k65⟩) hL hl.1 rfl rfl ⟨⟨Nat.le_of_ble_eq_true rfl, Nat.le_of_ble_eq_true rfl⟩, Nat.le_of_ble_eq_true rfl, Nat.le_of_ble_eq_true rfl⟩ (Nat.le_of_ble_eq_true rfl) d_Co_write_89 (fun v H70 locs hp hL => ?_)
    obtain ⟨rfl, ⟨k68, k69⟩, S67⟩ := hp
    refine W.eq (g2 := F0 m 92 ls []) rfl ?_
    exact hq_vret C hret hlk (Nat.le_of_ble_eq_true rfl) (Nat.le_of_ble_eq_true rfl) hL ⟨rfl, by unfold f_Co_write; rw [if_pos c0]; exact ⟨k68, k69⟩, hq_Scall (hq_Scall (hq_Scall (hq_Scall (hq_Scall (hq_Sput (hq_Sput hq_S0 u44 (by omega) (by omega)) u47 (by omega) (by omega)) S50 (by omega) (by omega)) S55 (by omega) (by omega)) S59 (by omega) (by omega)) S63 (by omega) (by omega)) S67 (by omega) (by omega)⟩ d_Co_write_92
  · intro c0
    refine lv_iload C.1 C.2.1 d_Co_write_57 (lv_at hl 0 rfl) ?_
    refine lv_iconst (v := 2) C.1 C.2.1 d_Co_write_59 (by decide) ?_
    refine lv_icmp_ge (tgt := 82) C.1 C.2.1 d_Co_write_60 (by decide) (fun hn => absurd hn (by decide)) (fun _ => ?_)
    refine lv_aload_n C.1 C.2.1 d_Co_write_63 rfl (lv_at hl 3 rfl) ?_
    refine lv_iload_n C.1 C.2.1 d_Co_write_64 rfl (lv_at hl 2 rfl) ?_
    refine lv_bipush (v := 8) C.1 C.2.1 d_Co_write_65 (by decide) ?_
    refine lv_iload C.1 C.2.1 d_Co_write_67 (lv_at hl 0 rfl) ?_
    refine lv_imul C.1 C.2.1 d_Co_write_69 ?_
    refine lv_ishr C.1 C.2.1 d_Co_write_70 ?_
    refine lv_bipush (v := 8) C.1 C.2.1 d_Co_write_71 (by decide) ?_
    refine hq_callV (lo := lo) (As := [.int ((f_Fr_dataOf x) >>> ((8 * 0) &&& 31)), .int (nI 8)]) (rest := []) C tb_good hml Y_Co_31 (c_Co_append l D cI cZ cN cJ lo a hlo (f_Co_append (f_Fr_bytesOf x) 4 (f_Co_append 0 3 (f_Co_append (f_Fr_idOf x) 11 (f_Co_append 0 1 (⟨k.bits, 0, 0⟩ : sCo))))) (append_len _ _ _ (append_len _ _ _ (append_len _ _ _ (append_len _ _ _ (Nat.zero_le 50))))) ((f_Fr_dataOf x) >>> ((8 * 0) &&& 31)) 8 (by decide)) k64 rfl (fun _ _ _ _ h => h) (fun U hU hW => by show CoP D cI a (f_Co_append (f_Fr_bytesOf x) 4 (f_Co_append 0 3 (f_Co_append (f_Fr_idOf x) 11 (f_Co_append 0 1 (⟨k.bits, 0, 0⟩ : sCo))))) U.heap; rw [hU]; exact ⟨k64, k65⟩) hL hl.1 rfl rfl ⟨⟨Nat.le_of_ble_eq_true rfl, Nat.le_of_ble_eq_true rfl⟩, Nat.le_of_ble_eq_true rfl, Nat.le_of_ble_eq_true rfl⟩ (Nat.le_of_ble_eq_true rfl) d_Co_write_73 (fun v H74 locs hp hL => ?_)
    obtain ⟨rfl, ⟨k72, k73⟩, S71⟩ := hp
    refine W.eq (g2 := F0 m 76 ls []) rfl ?_
    refine lv_iinc (k := 0) (v := 1) C.1 C.2.1 d_Co_write_76 hl rfl (by rfl) (by decide) rfl (lv' := [(4, .int (1)), (3, .int (f_Fr_bytesOf x)), (2, .int (f_Fr_dataOf x)), (0, .ref (a)), (1, .int (x))]) (fun ls hl => ?_)
    refine lv_goto (tgt := 51) C.1 C.2.1 d_Co_write_79 (by decide) ?_
    refine lv_iload C.1 C.2.1 d_Co_write_51 (lv_at hl 0 rfl) ?_
    refine lv_iload_n C.1 C.2.1 d_Co_write_53 rfl (lv_at hl 1 rfl) ?_
    refine lv_icmp_ge (tgt := 82) C.1 C.2.1 d_Co_write_54 (by decide) ?_ ?_
    · intro c1
      refine lv_aload_n C.1 C.2.1 d_Co_write_82 rfl (lv_at hl 3 rfl) ?_
      refine lv_aload_n C.1 C.2.1 d_Co_write_83 rfl (lv_at hl 3 rfl) ?_
      refine hq_get (v := .int ((f_Co_append ((f_Fr_dataOf x) >>> ((8 * 0) &&& 31)) 8 (f_Co_append (f_Fr_bytesOf x) 4 (f_Co_append 0 3 (f_Co_append (f_Fr_idOf x) 11 (f_Co_append 0 1 (⟨k.bits, 0, 0⟩ : sCo)))))).reg)) C f_Co_19 k72 rfl d_Co_write_84 ?_
      refine lv_bipush (v := 15) C.1 C.2.1 d_Co_write_87 (by decide) ?_
      refine hq_callV (lo := lo) (As := [.int ((f_Co_append ((f_Fr_dataOf x) >>> ((8 * 0) &&& 31)) 8 (f_Co_append (f_Fr_bytesOf x) 4 (f_Co_append 0 3 (f_Co_append (f_Fr_idOf x) 11 (f_Co_append 0 1 (⟨k.bits, 0, 0⟩ : sCo)))))).reg), .int (nI 15)]) (rest := []) C tb_good hml Y_Co_31 (c_Co_append l D cI cZ cN cJ lo a hlo (f_Co_append ((f_Fr_dataOf x) >>> ((8 * 0) &&& 31)) 8 (f_Co_append (f_Fr_bytesOf x) 4 (f_Co_append 0 3 (f_Co_append (f_Fr_idOf x) 11 (f_Co_append 0 1 (⟨k.bits, 0, 0⟩ : sCo)))))) (append_len _ _ _ (append_len _ _ _ (append_len _ _ _ (append_len _ _ _ (append_len _ _ _ (Nat.zero_le 50)))))) ((f_Co_append ((f_Fr_dataOf x) >>> ((8 * 0) &&& 31)) 8 (f_Co_append (f_Fr_bytesOf x) 4 (f_Co_append 0 3 (f_Co_append (f_Fr_idOf x) 11 (f_Co_append 0 1 (⟨k.bits, 0, 0⟩ : sCo)))))).reg) 15 (by decide)) k72 rfl (fun _ _ _ _ h => h) (fun U hU hW => by show CoP D cI a (f_Co_append ((f_Fr_dataOf x) >>> ((8 * 0) &&& 31)) 8 (f_Co_append (f_Fr_bytesOf x) 4 (f_Co_append 0 3 (f_Co_append (f_Fr_idOf x) 11 (f_Co_append 0 1 (⟨k.bits, 0, 0⟩ : sCo)))))) U.heap; rw [hU]; exact ⟨k72, k73⟩) hL hl.1 rfl rfl ⟨⟨Nat.le_of_ble_eq_true rfl, Nat.le_of_ble_eq_true rfl⟩, Nat.le_of_ble_eq_true rfl, Nat.le_of_ble_eq_true rfl⟩ (Nat.le_of_ble_eq_true rfl) d_Co_write_89 (fun v H78 locs hp hL => ?_)
      obtain ⟨rfl, ⟨k76, k77⟩, S75⟩ := hp
      refine W.eq (g2 := F0 m 92 ls []) rfl ?_
      exact hq_vret C hret hlk (Nat.le_of_ble_eq_true rfl) (Nat.le_of_ble_eq_true rfl) hL ⟨rfl, by unfold f_Co_write; rw [if_neg c0, if_pos c1]; exact ⟨k76, k77⟩, hq_Scall (hq_Scall (hq_Scall (hq_Scall (hq_Scall (hq_Scall (hq_Sput (hq_Sput hq_S0 u44 (by omega) (by omega)) u47 (by omega) (by omega)) S50 (by omega) (by omega)) S55 (by omega) (by omega)) S59 (by omega) (by omega)) S63 (by omega) (by omega)) S71 (by omega) (by omega)) S75 (by omega) (by omega)⟩ d_Co_write_92
    · intro c1
      refine lv_iload C.1 C.2.1 d_Co_write_57 (lv_at hl 0 rfl) ?_
      refine lv_iconst (v := 2) C.1 C.2.1 d_Co_write_59 (by decide) ?_
      refine lv_icmp_ge (tgt := 82) C.1 C.2.1 d_Co_write_60 (by decide) (fun hn => absurd hn (by decide)) (fun _ => ?_)
      refine lv_aload_n C.1 C.2.1 d_Co_write_63 rfl (lv_at hl 3 rfl) ?_
      refine lv_iload_n C.1 C.2.1 d_Co_write_64 rfl (lv_at hl 2 rfl) ?_
      refine lv_bipush (v := 8) C.1 C.2.1 d_Co_write_65 (by decide) ?_
      refine lv_iload C.1 C.2.1 d_Co_write_67 (lv_at hl 0 rfl) ?_
      refine lv_imul C.1 C.2.1 d_Co_write_69 ?_
      refine lv_ishr C.1 C.2.1 d_Co_write_70 ?_
      refine lv_bipush (v := 8) C.1 C.2.1 d_Co_write_71 (by decide) ?_
      refine hq_callV (lo := lo) (As := [.int ((f_Fr_dataOf x) >>> ((8 * 1) &&& 31)), .int (nI 8)]) (rest := []) C tb_good hml Y_Co_31 (c_Co_append l D cI cZ cN cJ lo a hlo (f_Co_append ((f_Fr_dataOf x) >>> ((8 * 0) &&& 31)) 8 (f_Co_append (f_Fr_bytesOf x) 4 (f_Co_append 0 3 (f_Co_append (f_Fr_idOf x) 11 (f_Co_append 0 1 (⟨k.bits, 0, 0⟩ : sCo)))))) (append_len _ _ _ (append_len _ _ _ (append_len _ _ _ (append_len _ _ _ (append_len _ _ _ (Nat.zero_le 50)))))) ((f_Fr_dataOf x) >>> ((8 * 1) &&& 31)) 8 (by decide)) k72 rfl (fun _ _ _ _ h => h) (fun U hU hW => by show CoP D cI a (f_Co_append ((f_Fr_dataOf x) >>> ((8 * 0) &&& 31)) 8 (f_Co_append (f_Fr_bytesOf x) 4 (f_Co_append 0 3 (f_Co_append (f_Fr_idOf x) 11 (f_Co_append 0 1 (⟨k.bits, 0, 0⟩ : sCo)))))) U.heap; rw [hU]; exact ⟨k72, k73⟩) hL hl.1 rfl rfl ⟨⟨Nat.le_of_ble_eq_true rfl, Nat.le_of_ble_eq_true rfl⟩, Nat.le_of_ble_eq_true rfl, Nat.le_of_ble_eq_true rfl⟩ (Nat.le_of_ble_eq_true rfl) d_Co_write_73 (fun v H82 locs hp hL => ?_)
      obtain ⟨rfl, ⟨k80, k81⟩, S79⟩ := hp
      refine W.eq (g2 := F0 m 76 ls []) rfl ?_
      refine lv_iinc (k := 0) (v := 2) C.1 C.2.1 d_Co_write_76 hl rfl (by rfl) (by decide) rfl (lv' := [(4, .int (2)), (3, .int (f_Fr_bytesOf x)), (2, .int (f_Fr_dataOf x)), (0, .ref (a)), (1, .int (x))]) (fun ls hl => ?_)
      refine lv_goto (tgt := 51) C.1 C.2.1 d_Co_write_79 (by decide) ?_
      refine lv_iload C.1 C.2.1 d_Co_write_51 (lv_at hl 0 rfl) ?_
      refine lv_iload_n C.1 C.2.1 d_Co_write_53 rfl (lv_at hl 1 rfl) ?_
      refine lv_icmp_ge (tgt := 82) C.1 C.2.1 d_Co_write_54 (by decide) ?_ ?_
      · intro c2
        refine lv_aload_n C.1 C.2.1 d_Co_write_82 rfl (lv_at hl 3 rfl) ?_
        refine lv_aload_n C.1 C.2.1 d_Co_write_83 rfl (lv_at hl 3 rfl) ?_
        refine hq_get (v := .int ((f_Co_append ((f_Fr_dataOf x) >>> ((8 * 1) &&& 31)) 8 (f_Co_append ((f_Fr_dataOf x) >>> ((8 * 0) &&& 31)) 8 (f_Co_append (f_Fr_bytesOf x) 4 (f_Co_append 0 3 (f_Co_append (f_Fr_idOf x) 11 (f_Co_append 0 1 (⟨k.bits, 0, 0⟩ : sCo))))))).reg)) C f_Co_19 k80 rfl d_Co_write_84 ?_
        refine lv_bipush (v := 15) C.1 C.2.1 d_Co_write_87 (by decide) ?_
        refine hq_callV (lo := lo) (As := [.int ((f_Co_append ((f_Fr_dataOf x) >>> ((8 * 1) &&& 31)) 8 (f_Co_append ((f_Fr_dataOf x) >>> ((8 * 0) &&& 31)) 8 (f_Co_append (f_Fr_bytesOf x) 4 (f_Co_append 0 3 (f_Co_append (f_Fr_idOf x) 11 (f_Co_append 0 1 (⟨k.bits, 0, 0⟩ : sCo))))))).reg), .int (nI 15)]) (rest := []) C tb_good hml Y_Co_31 (c_Co_append l D cI cZ cN cJ lo a hlo (f_Co_append ((f_Fr_dataOf x) >>> ((8 * 1) &&& 31)) 8 (f_Co_append ((f_Fr_dataOf x) >>> ((8 * 0) &&& 31)) 8 (f_Co_append (f_Fr_bytesOf x) 4 (f_Co_append 0 3 (f_Co_append (f_Fr_idOf x) 11 (f_Co_append 0 1 (⟨k.bits, 0, 0⟩ : sCo))))))) (append_len _ _ _ (append_len _ _ _ (append_len _ _ _ (append_len _ _ _ (append_len _ _ _ (append_len _ _ _ (Nat.zero_le 50))))))) ((f_Co_append ((f_Fr_dataOf x) >>> ((8 * 1) &&& 31)) 8 (f_Co_append ((f_Fr_dataOf x) >>> ((8 * 0) &&& 31)) 8 (f_Co_append (f_Fr_bytesOf x) 4 (f_Co_append 0 3 (f_Co_append (f_Fr_idOf x) 11 (f_Co_append 0 1 (⟨k.bits, 0, 0⟩ : sCo))))))).reg) 15 (by decide)) k80 rfl (fun _ _ _ _ h => h) (fun U hU hW => by show CoP D cI a (f_Co_append ((f_Fr_dataOf x) >>> ((8 * 1) &&& 31)) 8 (f_Co_append ((f_Fr_dataOf x) >>> ((8 * 0) &&& 31)) 8 (f_Co_append (f_Fr_bytesOf x) 4 (f_Co_append 0 3 (f_Co_append (f_Fr_idOf x) 11 (f_Co_append 0 1 (⟨k.bits, 0, 0⟩ : sCo))))))) U.heap; rw [hU]; exact ⟨k80, k81⟩) hL hl.1 rfl rfl ⟨⟨Nat.le_of_ble_eq_true rfl, Nat.le_of_ble_eq_true rfl⟩, Nat.le_of_ble_eq_true rfl, Nat.le_of_ble_eq_true rfl⟩ (Nat.le_of_ble_eq_true rfl) d_Co_write_89 (fun v H86 locs hp hL => ?_)
        obtain ⟨rfl, ⟨k84, k85⟩, S83⟩ := hp
        refine W.eq (g2 := F0 m 92 ls []) rfl ?_
        exact hq_vret C hret hlk (Nat.le_of_ble_eq_true rfl) (Nat.le_of_ble_eq_true rfl) hL ⟨rfl, by unfold f_Co_write; rw [if_neg c0, if_neg c1]; exact ⟨k84, k85⟩, hq_Scall (hq_Scall (hq_Scall (hq_Scall (hq_Scall (hq_Scall (hq_Scall (hq_Sput (hq_Sput hq_S0 u44 (by omega) (by omega)) u47 (by omega) (by omega)) S50 (by omega) (by omega)) S55 (by omega) (by omega)) S59 (by omega) (by omega)) S63 (by omega) (by omega)) S71 (by omega) (by omega)) S79 (by omega) (by omega)) S83 (by omega) (by omega)⟩ d_Co_write_92
      · intro c2
        refine lv_iload C.1 C.2.1 d_Co_write_57 (lv_at hl 0 rfl) ?_
        refine lv_iconst (v := 2) C.1 C.2.1 d_Co_write_59 (by decide) ?_
        refine lv_icmp_ge (tgt := 82) C.1 C.2.1 d_Co_write_60 (by decide) (fun _ => ?_) (fun hn => absurd (by decide) hn)
        refine lv_aload_n C.1 C.2.1 d_Co_write_82 rfl (lv_at hl 3 rfl) ?_
        refine lv_aload_n C.1 C.2.1 d_Co_write_83 rfl (lv_at hl 3 rfl) ?_
        refine hq_get (v := .int ((f_Co_append ((f_Fr_dataOf x) >>> ((8 * 1) &&& 31)) 8 (f_Co_append ((f_Fr_dataOf x) >>> ((8 * 0) &&& 31)) 8 (f_Co_append (f_Fr_bytesOf x) 4 (f_Co_append 0 3 (f_Co_append (f_Fr_idOf x) 11 (f_Co_append 0 1 (⟨k.bits, 0, 0⟩ : sCo))))))).reg)) C f_Co_19 k80 rfl d_Co_write_84 ?_
        refine lv_bipush (v := 15) C.1 C.2.1 d_Co_write_87 (by decide) ?_
        refine hq_callV (lo := lo) (As := [.int ((f_Co_append ((f_Fr_dataOf x) >>> ((8 * 1) &&& 31)) 8 (f_Co_append ((f_Fr_dataOf x) >>> ((8 * 0) &&& 31)) 8 (f_Co_append (f_Fr_bytesOf x) 4 (f_Co_append 0 3 (f_Co_append (f_Fr_idOf x) 11 (f_Co_append 0 1 (⟨k.bits, 0, 0⟩ : sCo))))))).reg), .int (nI 15)]) (rest := []) C tb_good hml Y_Co_31 (c_Co_append l D cI cZ cN cJ lo a hlo (f_Co_append ((f_Fr_dataOf x) >>> ((8 * 1) &&& 31)) 8 (f_Co_append ((f_Fr_dataOf x) >>> ((8 * 0) &&& 31)) 8 (f_Co_append (f_Fr_bytesOf x) 4 (f_Co_append 0 3 (f_Co_append (f_Fr_idOf x) 11 (f_Co_append 0 1 (⟨k.bits, 0, 0⟩ : sCo))))))) (append_len _ _ _ (append_len _ _ _ (append_len _ _ _ (append_len _ _ _ (append_len _ _ _ (append_len _ _ _ (Nat.zero_le 50))))))) ((f_Co_append ((f_Fr_dataOf x) >>> ((8 * 1) &&& 31)) 8 (f_Co_append ((f_Fr_dataOf x) >>> ((8 * 0) &&& 31)) 8 (f_Co_append (f_Fr_bytesOf x) 4 (f_Co_append 0 3 (f_Co_append (f_Fr_idOf x) 11 (f_Co_append 0 1 (⟨k.bits, 0, 0⟩ : sCo))))))).reg) 15 (by decide)) k80 rfl (fun _ _ _ _ h => h) (fun U hU hW => by show CoP D cI a (f_Co_append ((f_Fr_dataOf x) >>> ((8 * 1) &&& 31)) 8 (f_Co_append ((f_Fr_dataOf x) >>> ((8 * 0) &&& 31)) 8 (f_Co_append (f_Fr_bytesOf x) 4 (f_Co_append 0 3 (f_Co_append (f_Fr_idOf x) 11 (f_Co_append 0 1 (⟨k.bits, 0, 0⟩ : sCo))))))) U.heap; rw [hU]; exact ⟨k80, k81⟩) hL hl.1 rfl rfl ⟨⟨Nat.le_of_ble_eq_true rfl, Nat.le_of_ble_eq_true rfl⟩, Nat.le_of_ble_eq_true rfl, Nat.le_of_ble_eq_true rfl⟩ (Nat.le_of_ble_eq_true rfl) d_Co_write_89 (fun v H90 locs hp hL => ?_)
        obtain ⟨rfl, ⟨k88, k89⟩, S87⟩ := hp
        refine W.eq (g2 := F0 m 92 ls []) rfl ?_
        exact hq_vret C hret hlk (Nat.le_of_ble_eq_true rfl) (Nat.le_of_ble_eq_true rfl) hL ⟨rfl, by unfold f_Co_write; rw [if_neg c0, if_neg c1]; exact ⟨k88, k89⟩, hq_Scall (hq_Scall (hq_Scall (hq_Scall (hq_Scall (hq_Scall (hq_Scall (hq_Sput (hq_Sput hq_S0 u44 (by omega) (by omega)) u47 (by omega) (by omega)) S50 (by omega) (by omega)) S55 (by omega) (by omega)) S59 (by omega) (by omega)) S63 (by omega) (by omega)) S71 (by omega) (by omega)) S79 (by omega) (by omega)) S87 (by omega) (by omega)⟩ d_Co_write_92
