/-! The rows of frames, as functions: the size is a number k, at most 4. -/
abbrev sFr := (Nat → Int32) × Nat
abbrev sFr.row (w : sFr) : Nat → Int32 := w.1
abbrev sFr.k (w : sFr) : Nat := w.2
def FrP (D : va_G) (cI : ClassId) (a : Nat) (w : sFr) (H : Heap) : Prop := va_at D vwCl (a, .inr (2, [.ref (a + 1), .int (nI w.k)])) H ∧ va_at D vwCl (a + 1, .inl (cI, 4, .inl w.row)) H
def f_Fr_at (w : sFr) (x : Int32) : Int32 := if x < 0 then 0 else if nI w.k ≤ x then 0 else w.row x.toNatClampNeg
def f_Fr_add (w : sFr) (x : Int32) : sFr := if w.k < 4 then ⟨upd w.row w.k x, w.k + 1⟩ else w
def leastF (row : Nat → Int32) : Nat → Nat → Nat → Nat
  | 0, _, m => m
  | d + 1, i, m => leastF row d (i + 1) (if f_Fr_idOf (row m) ≤ f_Fr_idOf (row i) then m else i)
def f_Fr_placeOfLeastId (w : sFr) : Nat := leastF w.row (w.k - 1) 1 0
def shiftF : Nat → Nat → (Nat → Int32) → (Nat → Int32)
  | 0, _, row => row
  | d + 1, i, row => shiftF d (i + 1) (upd row i (row (i + 1)))
def f_Fr_remove (w : sFr) (x : Int32) : sFr × Int32 := if x < 0 then (w, 0) else if nI w.k ≤ x then (w, 0) else (⟨shiftF (w.k - 1 - x.toNatClampNeg) x.toNatClampNeg w.row, w.k - 1⟩, w.row x.toNatClampNeg)
theorem fr_ix {x : Int32} {k : Nat} (hk : k < 2 ^ 31) (h1 : ¬ x < 0) (h2 : ¬ nI k ≤ x) : ∃ j : Nat, j < k ∧ x = nI j := by
  rcases pk_ix x hk with h | h | h
  · exact absurd h h1
  · exact absurd h h2
  · exact h
theorem leastF_lt (row : Nat → Int32) : ∀ d i m n : Nat, m < n → i + d ≤ n → leastF row d i m < n := by
  intro d
  induction d with
  | zero => intro i m n h1 _; exact h1
  | succ d ih =>
    intro i m n h1 h2
    unfold leastF
    refine ih (i + 1) _ n ?_ (by omega)
    split
    · exact h1
    · omega
set_option maxHeartbeats 4000000 in
set_option maxRecDepth 100000 in
theorem c_Fr_at (l : Launch) (D : va_G) (cI cZ cN cJ : ClassId) (lo : Nat) (a : Nat) (w : sFr) (hk : w.k ≤ 4) (x : Int32) : hq_M l y_Fr_at b_Fr_at 2 (some .int) TB { frames := 0, cells := 0, slots := 0, locals := 0 } lo D vwCl (TY cI cZ cN cJ) [.ref (a), .int (x)] (fun U => FrP D cI a w U.heap) (fun H v H' => v = some (.int (f_Fr_at w x)) ∧ H' = H) := by
  refine hq_ofW (by decide) (Nat.le_of_ble_eq_true rfl) ?_
  intro p e s m below meth c ls C hml hret hlk hnm hl hP
  obtain ⟨k0, k1⟩ := hP
  have hL : hq_L lo [] := hq_L0
  have hl : lv_has ls 2 [(0, .ref (a)), (1, .int (x))] := hl
  refine lv_iload_n C.1 C.2.1 d_Fr_at_0 rfl (lv_at hl 1 rfl) ?_
  refine lv_if_lt (tgt := 21) C.1 C.2.1 d_Fr_at_1 (by decide) ?_ ?_
  · intro c0
    refine lv_iconst (v := 0) C.1 C.2.1 d_Fr_at_21 (by decide) ?_
    exact hq_iret C hret hlk (Nat.le_of_ble_eq_true rfl) (Nat.le_of_ble_eq_true rfl) hL ⟨by unfold f_Fr_at; rw [if_pos c0], rfl⟩ d_Fr_at_22
  · intro c0
    refine lv_iload_n C.1 C.2.1 d_Fr_at_4 rfl (lv_at hl 1 rfl) ?_
    refine lv_aload_n C.1 C.2.1 d_Fr_at_5 rfl (lv_at hl 0 rfl) ?_
    refine hq_get (v := .int (nI w.k)) C f_Fr_15 k0 rfl d_Fr_at_6 ?_
    refine lv_icmp_ge (tgt := 21) C.1 C.2.1 d_Fr_at_9 (by decide) ?_ ?_
    · intro c1
      refine lv_iconst (v := 0) C.1 C.2.1 d_Fr_at_21 (by decide) ?_
      exact hq_iret C hret hlk (Nat.le_of_ble_eq_true rfl) (Nat.le_of_ble_eq_true rfl) hL ⟨by unfold f_Fr_at; rw [if_neg c0, if_pos c1], rfl⟩ d_Fr_at_22
    · intro c1
      refine lv_aload_n C.1 C.2.1 d_Fr_at_12 rfl (lv_at hl 0 rfl) ?_
      refine hq_get (v := .ref (a + 1)) C f_Fr_9 k0 rfl d_Fr_at_13 ?_
      refine lv_iload_n C.1 C.2.1 d_Fr_at_16 rfl (lv_at hl 1 rfl) ?_
      obtain ⟨j, hj, hj2⟩ := fr_ix (by omega) c0 c1
      refine hq_iald C 0 rfl k1 (by rw [hj2]; exact vp_in_nI (by omega) (by decide)) d_Fr_at_17 ?_
      refine W.eq (g2 := F0 m 18 ls [.int (w.row x.toNatClampNeg)]) rfl ?_
      refine lv_goto (tgt := 22) C.1 C.2.1 d_Fr_at_18 (by decide) ?_
      exact hq_iret C hret hlk (Nat.le_of_ble_eq_true rfl) (Nat.le_of_ble_eq_true rfl) hL ⟨by unfold f_Fr_at; rw [if_neg c0, if_neg c1], rfl⟩ d_Fr_at_22
set_option maxHeartbeats 4000000 in
set_option maxRecDepth 100000 in
theorem c_Fr_add (l : Launch) (D : va_G) (cI cZ cN cJ : ClassId) (lo : Nat) (a : Nat) (hlo : lo ≤ a) (w : sFr) (hk : w.k ≤ 4) (x : Int32) : hq_M l y_Fr_add b_Fr_add 2 none TB { frames := 1, cells := 0, slots := 0, locals := 30 } lo D vwCl (TY cI cZ cN cJ) [.ref (a), .int (x)] (fun U => FrP D cI a w U.heap) (fun H v H' => v = none ∧ FrP D cI a (f_Fr_add w x) H' ∧ hq_S a 2 H H') := by
  refine hq_ofW (by decide) (Nat.le_of_ble_eq_true rfl) ?_
  intro p e s m below meth c ls C hml hret hlk hnm hl hP
  obtain ⟨k0, k1⟩ := hP
  have hL : hq_L lo [] := hq_L0
  have hl : lv_has ls 2 [(0, .ref (a)), (1, .int (x))] := hl
  refine lv_aload_n C.1 C.2.1 d_Fr_add_0 rfl (lv_at hl 0 rfl) ?_
  refine hq_callV (lo := lo) (As := []) (rest := []) C tb_good hml Y_Fr_19 (c_isFull l D cI cZ cN cJ lo a (a + 1) (nI w.k)) k0 rfl (fun _ _ _ _ h => h) (fun U hU hW => by show va_at D vwCl (a, .inr (2, [.ref (a + 1), .int (nI w.k)])) U.heap; rw [hU]; exact k0) hL hl.1 rfl rfl ⟨⟨Nat.le_of_ble_eq_true rfl, Nat.le_of_ble_eq_true rfl⟩, Nat.le_of_ble_eq_true rfl, Nat.le_of_ble_eq_true rfl⟩ (Nat.le_of_ble_eq_true rfl) d_Fr_add_1 (fun v H41 locs hp hL => ?_)
  obtain ⟨rfl, rfl⟩ := hp
  refine W.eq (g2 := F0 m 4 ls [.int (fl (nI w.k))]) rfl ?_
  by_cases h4 : w.k < 4
  · have hfl : fl (nI w.k) = 0 := by unfold fl; rw [if_pos (show nI w.k < 4 from nI_lt h4 (by decide))]
    refine lv_if_ne (tgt := 27) C.1 C.2.1 d_Fr_add_4 (by decide) (fun hn => absurd hn (fun h9 => h9 hfl)) (fun _ => ?_)
    refine lv_aload_n C.1 C.2.1 d_Fr_add_7 rfl (lv_at hl 0 rfl) ?_
    refine hq_get (v := .ref (a + 1)) C f_Fr_9 k0 rfl d_Fr_add_8 ?_
    refine lv_aload_n C.1 C.2.1 d_Fr_add_11 rfl (lv_at hl 0 rfl) ?_
    refine hq_get (v := .int (nI w.k)) C f_Fr_15 k0 rfl d_Fr_add_12 ?_
    refine lv_iload_n C.1 C.2.1 d_Fr_add_15 rfl (lv_at hl 1 rfl) ?_
    refine hq_iast (lo := lo) C 0 rfl k1 (vp_in_nI h4 (by decide)) hL (by omega) d_Fr_add_16 (fun H1 locs u1 hL => ?_)
    have k42 : va_at D vwCl (a + 1, .inl (cI, 4, .inl (upd w.row (nI w.k).toNatClampNeg x))) H1 := u1.2.2
    rw [nI_clamp (by omega)] at k42
    refine lv_aload_n C.1 C.2.1 d_Fr_add_17 rfl (lv_at hl 0 rfl) ?_
    refine lv_dup C.1 C.2.1 d_Fr_add_18 rfl ?_
    have k43 := hq_au k0 u1 (by omega)
    refine hq_get (v := .int (nI w.k)) C f_Fr_15 k43 rfl d_Fr_add_19 ?_
    refine lv_iconst (v := 1) C.1 C.2.1 d_Fr_add_22 (by decide) ?_
    refine lv_iadd C.1 C.2.1 d_Fr_add_23 ?_
    rw [nI_1 w.k]
    refine hq_put (lo := lo) C f_Fr_15 k43 rfl rfl (Nat.le_of_ble_eq_true rfl) hL (by omega) d_Fr_add_24 (fun H44 locs u45 hL => ?_)
    have k46 : va_at D vwCl (a, .inr (2, [.ref (a + 1), .int (nI (w.k + 1))])) H44 := u45.2.2
    have k47 := hq_au k42 u45 (by omega)
    exact hq_vret C hret hlk (Nat.le_of_ble_eq_true rfl) (Nat.le_of_ble_eq_true rfl) hL ⟨rfl, by unfold f_Fr_add; rw [if_pos h4]; exact ⟨k46, k47⟩, hq_Sput (hq_Sput hq_S0 u1 (by omega) (by omega)) u45 (by omega) (by omega)⟩ d_Fr_add_27
  · have hfl : ¬ fl (nI w.k) = 0 := by
      unfold fl; rw [if_neg (show ¬ nI w.k < 4 from nI_nlt (a := w.k) (b := 4) (by omega) (by omega))]; decide
    refine lv_if_ne (tgt := 27) C.1 C.2.1 d_Fr_add_4 (by decide) (fun _ => ?_) (fun hn => absurd hn (hfl))
    exact hq_vret C hret hlk (Nat.le_of_ble_eq_true rfl) (Nat.le_of_ble_eq_true rfl) hL ⟨rfl, by unfold f_Fr_add; rw [if_neg h4]; exact ⟨k0, k1⟩, hq_S0⟩ d_Fr_add_27
set_option maxHeartbeats 4000000 in
set_option maxRecDepth 100000 in
theorem fr_least {p : Program} {l : Launch} {e : Env} {s : State} {m : MethodId} {args : Array Value} {below : List Frame} {meth : Method} {c : Code} (D : va_G) (cI cZ cN cJ : ClassId) (lo a : Nat) (w : sFr) (hk : w.k ≤ 4) {R9 : Nat} (C : hq_C p c s m args R_Fr b_Fr_placeOfLeastId TB D vwCl (TY cI cZ cN cJ)) (hml : c.maxLocals = 3) (hret : meth.sig.returnType = some .int) (hlk : meth.locks = false) (k0 : va_at D vwCl (a, .inr (2, [.ref (a + 1), .int (nI w.k)])) s.heap) (k1 : va_at D vwCl (a + 1, .inl (cI, 4, .inl (w.row))) s.heap) :
    ∀ (d i q : Nat) (ls : Array Slot) (locs : List Loc), d = w.k - i → q < i → leastF w.row d i q = R9 → hq_L lo locs → lv_has ls 3 [(2, .int (nI i)), (1, .int (nI q)), (0, .ref a)] → i ≤ 4 →
      W p l e { frames := 1, cells := 0, slots := 0, locals := 20 } s m args below meth c s.heap locs 0 0 (MQ below (hq_Q (fun H v H' => v = some (.int (nI R9)) ∧ H' = H)) args s 0 0 (fun q => lo ≤ q)) (F0 m 4 ls []) := by
  intro d
  induction d with
  | zero =>
    intro i q ls locs hd hqi hR hL hl hi4
    refine lv_iload_n C.1 C.2.1 d_Fr_placeOfLeastId_4 rfl (lv_at hl 0 rfl) ?_
    refine lv_aload_n C.1 C.2.1 d_Fr_placeOfLeastId_5 rfl (lv_at hl 2 rfl) ?_
    refine hq_get (v := .int (nI w.k)) C f_Fr_15 k0 rfl d_Fr_placeOfLeastId_6 ?_
    have hik : w.k ≤ i := by omega
    refine lv_icmp_ge (tgt := 41) C.1 C.2.1 d_Fr_placeOfLeastId_9 (by decide) (fun _ => ?_) (fun hn => absurd (nI_le hik (by omega)) hn)
    refine lv_iload_n C.1 C.2.1 d_Fr_placeOfLeastId_41 rfl (lv_at hl 1 rfl) ?_
    exact hq_iret C hret hlk (Nat.le_of_ble_eq_true rfl) (Nat.le_of_ble_eq_true rfl) hL ⟨by rw [← hR]; rfl, rfl⟩ d_Fr_placeOfLeastId_42
  | succ d ih =>
    intro i q ls locs hd hqi hR hL hl hi4
    refine lv_iload_n C.1 C.2.1 d_Fr_placeOfLeastId_4 rfl (lv_at hl 0 rfl) ?_
    refine lv_aload_n C.1 C.2.1 d_Fr_placeOfLeastId_5 rfl (lv_at hl 2 rfl) ?_
    refine hq_get (v := .int (nI w.k)) C f_Fr_15 k0 rfl d_Fr_placeOfLeastId_6 ?_
    have hik : i < w.k := by omega
    refine lv_icmp_ge (tgt := 41) C.1 C.2.1 d_Fr_placeOfLeastId_9 (by decide) (fun hn => absurd hn (nI_ge hik (by omega))) (fun _ => ?_)
    refine lv_aload_n C.1 C.2.1 d_Fr_placeOfLeastId_12 rfl (lv_at hl 2 rfl) ?_
    refine hq_get (v := .ref (a + 1)) C f_Fr_9 k0 rfl d_Fr_placeOfLeastId_13 ?_
    refine lv_iload_n C.1 C.2.1 d_Fr_placeOfLeastId_16 rfl (lv_at hl 0 rfl) ?_
    refine hq_iald C 0 rfl k1 (vp_in_nI (show i < 4 by omega) (by decide)) d_Fr_placeOfLeastId_17 ?_
    rw [nI_clamp (show i < 2 ^ 31 by omega)]
    refine W.eq (g2 := F0 m 18 ls [.int (w.row i)]) rfl ?_
    refine hq_callS (lo := lo) (As := [.int (w.row i)]) (rest := []) C tb_good hml Y_Fr_23 (c_Fr_idOf l D cI cZ cN cJ lo (w.row i)) (fun _ _ _ _ h => h) (fun U hU hW => trivial) hL hl.1 rfl rfl ⟨⟨Nat.le_of_ble_eq_true rfl, Nat.le_of_ble_eq_true rfl⟩, Nat.le_of_ble_eq_true rfl, Nat.le_of_ble_eq_true rfl⟩ (Nat.le_of_ble_eq_true rfl) d_Fr_placeOfLeastId_18 (fun v H41 locs hp hL => ?_)
    obtain ⟨rfl, rfl⟩ := hp
    refine W.eq (g2 := F0 m 21 ls [.int (f_Fr_idOf (w.row i))]) rfl ?_
    refine lv_aload_n C.1 C.2.1 d_Fr_placeOfLeastId_21 rfl (lv_at hl 2 rfl) ?_
    refine hq_get (v := .ref (a + 1)) C f_Fr_9 k0 rfl d_Fr_placeOfLeastId_22 ?_
    refine lv_iload_n C.1 C.2.1 d_Fr_placeOfLeastId_25 rfl (lv_at hl 1 rfl) ?_
    refine hq_iald C 0 rfl k1 (vp_in_nI (show q < 4 by omega) (by decide)) d_Fr_placeOfLeastId_26 ?_
    rw [nI_clamp (show q < 2 ^ 31 by omega)]
    refine W.eq (g2 := F0 m 27 ls [.int (w.row q), .int (f_Fr_idOf (w.row i))]) rfl ?_
    refine hq_callS (lo := lo) (As := [.int (w.row q)]) (rest := [.int (f_Fr_idOf (w.row i))]) C tb_good hml Y_Fr_23 (c_Fr_idOf l D cI cZ cN cJ lo (w.row q)) (fun _ _ _ _ h => h) (fun U hU hW => trivial) hL hl.1 rfl rfl ⟨⟨Nat.le_of_ble_eq_true rfl, Nat.le_of_ble_eq_true rfl⟩, Nat.le_of_ble_eq_true rfl, Nat.le_of_ble_eq_true rfl⟩ (Nat.le_of_ble_eq_true rfl) d_Fr_placeOfLeastId_27 (fun v H42 locs hp hL => ?_)
    obtain ⟨rfl, rfl⟩ := hp
    refine W.eq (g2 := F0 m 30 ls [.int (f_Fr_idOf (w.row q)), .int (f_Fr_idOf (w.row i))]) rfl ?_
    refine lv_icmp_ge (tgt := 35) C.1 C.2.1 d_Fr_placeOfLeastId_30 (by decide) ?_ ?_
    · intro c0
      refine lv_iinc (k := 0) (v := nI (i + 1)) C.1 C.2.1 d_Fr_placeOfLeastId_35 hl rfl (nI_1 i) (by decide) (lv' := [(2, .int (nI (i + 1))), (1, .int (nI q)), (0, .ref (a))]) rfl (fun ls hl => ?_)
      refine lv_goto (tgt := 4) C.1 C.2.1 d_Fr_placeOfLeastId_38 (by decide) ?_
      exact ih (i + 1) q ls locs (by omega) (by omega) (by rw [← hR, show leastF w.row (d + 1) i q = leastF w.row d (i + 1) (if f_Fr_idOf (w.row q) ≤ f_Fr_idOf (w.row i) then q else i) from rfl, if_pos c0]) hL hl (by omega)
    · intro c0
      refine lv_iload_n C.1 C.2.1 d_Fr_placeOfLeastId_33 rfl (lv_at hl 0 rfl) ?_
      refine lv_istore_n C.1 C.2.1 d_Fr_placeOfLeastId_34 rfl hl (by decide) rfl (lv' := [(1, .int (nI i)), (2, .int (nI i)), (0, .ref (a))]) (fun ls hl => ?_)
      refine lv_iinc (k := 1) (v := nI (i + 1)) C.1 C.2.1 d_Fr_placeOfLeastId_35 hl rfl (nI_1 i) (by decide) (lv' := [(2, .int (nI (i + 1))), (1, .int (nI i)), (0, .ref (a))]) rfl (fun ls hl => ?_)
      refine lv_goto (tgt := 4) C.1 C.2.1 d_Fr_placeOfLeastId_38 (by decide) ?_
      exact ih (i + 1) i ls locs (by omega) (by omega) (by rw [← hR, show leastF w.row (d + 1) i q = leastF w.row d (i + 1) (if f_Fr_idOf (w.row q) ≤ f_Fr_idOf (w.row i) then q else i) from rfl, if_neg c0]) hL (lv_push (lv_push (lv_push (lv_nil hl) (lv_at hl 2 rfl)) (lv_at hl 1 rfl)) (lv_at hl 0 rfl)) (by omega)
set_option maxHeartbeats 4000000 in
set_option maxRecDepth 100000 in
theorem c_Fr_placeOfLeastId (l : Launch) (D : va_G) (cI cZ cN cJ : ClassId) (lo : Nat) (a : Nat) (w : sFr) (hk : w.k ≤ 4) : hq_M l y_Fr_placeOfLeastId b_Fr_placeOfLeastId 3 (some .int) TB { frames := 1, cells := 0, slots := 0, locals := 20 } lo D vwCl (TY cI cZ cN cJ) [.ref (a)] (fun U => FrP D cI a w U.heap) (fun H v H' => v = some (.int (nI (f_Fr_placeOfLeastId w))) ∧ H' = H) := by
  refine hq_ofW (by decide) (Nat.le_of_ble_eq_true rfl) ?_
  intro p e s m below meth c ls C hml hret hlk hnm hl hP
  obtain ⟨k0, k1⟩ := hP
  have hL : hq_L lo [] := hq_L0
  have hl : lv_has ls 3 [(0, .ref (a))] := hl
  refine lv_iconst (v := 0) C.1 C.2.1 d_Fr_placeOfLeastId_0 (by decide) ?_
  refine lv_istore_n C.1 C.2.1 d_Fr_placeOfLeastId_1 rfl hl (by decide) rfl (lv' := [(1, .int (0)), (0, .ref (a))]) (fun ls hl => ?_)
  refine lv_iconst (v := 1) C.1 C.2.1 d_Fr_placeOfLeastId_2 (by decide) ?_
  refine lv_istore_n C.1 C.2.1 d_Fr_placeOfLeastId_3 rfl hl (by decide) rfl (lv' := [(2, .int (1)), (1, .int (0)), (0, .ref (a))]) (fun ls hl => ?_)
  exact fr_least D cI cZ cN cJ lo a w hk C hml hret hlk k0 k1 (w.k - 1) 1 0 ls [] rfl (by decide) rfl hL hl (by decide)
set_option maxHeartbeats 4000000 in
set_option maxRecDepth 100000 in
theorem fr_shift {p : Program} {l : Launch} {e : Env} {s : State} {m : MethodId} {args : Array Value} {below : List Frame} {meth : Method} {c : Code} (D : va_G) (cI cZ cN cJ : ClassId) (lo a : Nat) (hlo : lo ≤ a) (k : Nat) (hk : k ≤ 3) (g : Int32) {R9 : Nat → Int32} (C : hq_C p c s m args R_Fr b_Fr_remove TB D vwCl (TY cI cZ cN cJ)) (hml : c.maxLocals = 4) (hret : meth.sig.returnType = some .int) (hlk : meth.locks = false) :
    ∀ (d i : Nat) (row : Nat → Int32) (H : Heap) (ls : Array Slot) (locs : List Loc), i ≤ 4 → d = k - i → shiftF d i row = R9 → hq_S a 2 s.heap H → hq_L lo locs → lv_has ls 4 [(3, .int (nI i)), (2, .int g), (0, .ref a)] → va_at D vwCl (a, .inr (2, [.ref (a + 1), .int (nI k)])) H → va_at D vwCl (a + 1, .inl (cI, 4, .inl (row))) H →
      W p l e { frames := 1, cells := 0, slots := 0, locals := 30 } s m args below meth c H locs 0 0 (MQ below (hq_Q (fun H v H' => v = some (.int g) ∧ FrP D cI a ⟨R9, k⟩ H' ∧ hq_S a 2 H H')) args s 0 0 (fun q => lo ≤ q)) (F0 m 30 ls []) := by
  intro d
  induction d with
  | zero =>
    intro i row H ls locs hi hd hR hS hL hl k0 k1
    refine lv_iload_n C.1 C.2.1 d_Fr_remove_30 rfl (lv_at hl 0 rfl) ?_
    refine lv_aload_n C.1 C.2.1 d_Fr_remove_31 rfl (lv_at hl 2 rfl) ?_
    refine hq_get (v := .int (nI k)) C f_Fr_15 k0 rfl d_Fr_remove_32 ?_
    have hik : k ≤ i := by omega
    refine lv_icmp_ge (tgt := 58) C.1 C.2.1 d_Fr_remove_35 (by decide) (fun _ => ?_) (fun hn => absurd (nI_le hik (by omega)) hn)
    refine lv_iload_n C.1 C.2.1 d_Fr_remove_58 rfl (lv_at hl 1 rfl) ?_
    subst hR
    exact hq_iret C hret hlk (Nat.le_of_ble_eq_true rfl) (Nat.le_of_ble_eq_true rfl) hL ⟨rfl, ⟨k0, k1⟩, hS⟩ d_Fr_remove_59
  | succ d ih =>
    intro i row H ls locs hi hd hR hS hL hl k0 k1
    refine lv_iload_n C.1 C.2.1 d_Fr_remove_30 rfl (lv_at hl 0 rfl) ?_
    refine lv_aload_n C.1 C.2.1 d_Fr_remove_31 rfl (lv_at hl 2 rfl) ?_
    refine hq_get (v := .int (nI k)) C f_Fr_15 k0 rfl d_Fr_remove_32 ?_
    have hik : i < k := by omega
    refine lv_icmp_ge (tgt := 58) C.1 C.2.1 d_Fr_remove_35 (by decide) (fun hn => absurd hn (nI_ge hik (by omega))) (fun _ => ?_)
    refine lv_aload_n C.1 C.2.1 d_Fr_remove_38 rfl (lv_at hl 2 rfl) ?_
    refine hq_get (v := .ref (a + 1)) C f_Fr_9 k0 rfl d_Fr_remove_39 ?_
    refine lv_iload_n C.1 C.2.1 d_Fr_remove_42 rfl (lv_at hl 0 rfl) ?_
    refine lv_aload_n C.1 C.2.1 d_Fr_remove_43 rfl (lv_at hl 2 rfl) ?_
    refine hq_get (v := .ref (a + 1)) C f_Fr_9 k0 rfl d_Fr_remove_44 ?_
    refine lv_iload_n C.1 C.2.1 d_Fr_remove_47 rfl (lv_at hl 0 rfl) ?_
    refine lv_iconst (v := 1) C.1 C.2.1 d_Fr_remove_48 (by decide) ?_
    refine lv_iadd C.1 C.2.1 d_Fr_remove_49 ?_
    rw [nI_1 i]
    refine hq_iald C 0 rfl k1 (vp_in_nI (show i + 1 < 4 by omega) (by decide)) d_Fr_remove_50 ?_
    rw [nI_clamp (show i + 1 < 2 ^ 31 by omega)]
    refine W.eq (g2 := F0 m 51 ls [.int (row (i + 1)), .int (nI i), .ref (a + 1)]) rfl ?_
    refine hq_iast (lo := lo) C 0 rfl k1 (vp_in_nI (show i < 4 by omega) (by decide)) hL (by omega) d_Fr_remove_51 (fun H1 locs u1 hL => ?_)
    have k41 : va_at D vwCl (a + 1, .inl (cI, 4, .inl (upd row (nI i).toNatClampNeg (row (i + 1))))) H1 := u1.2.2
    rw [nI_clamp (show i < 2 ^ 31 by omega)] at k41
    have k42 := hq_au k0 u1 (by omega)
    refine lv_iinc (k := 0) (v := nI (i + 1)) C.1 C.2.1 d_Fr_remove_52 hl rfl (nI_1 i) (by decide) (lv' := [(3, .int (nI (i + 1))), (2, .int (g)), (0, .ref (a))]) rfl (fun ls hl => ?_)
    refine lv_goto (tgt := 30) C.1 C.2.1 d_Fr_remove_55 (by decide) ?_
    exact ih (i + 1) _ H1 ls locs (by omega) (by omega) hR (hq_Sput hS u1 (by omega) (by omega)) hL hl k42 k41
theorem fr_pred {k : Nat} (h : 0 < k) : nI k - 1 = nI (k - 1) := by
  have h1 : nI (k - 1) + 1 = nI (k - 1 + 1) := nI_1 (k - 1)
  rw [show k - 1 + 1 = k by omega] at h1
  rw [← h1, Int32.add_sub_cancel]
set_option maxHeartbeats 4000000 in
set_option maxRecDepth 100000 in
theorem c_Fr_remove (l : Launch) (D : va_G) (cI cZ cN cJ : ClassId) (lo : Nat) (a : Nat) (hlo : lo ≤ a) (w : sFr) (hk : w.k ≤ 4) (x : Int32) : hq_M l y_Fr_remove b_Fr_remove 4 (some .int) TB { frames := 1, cells := 0, slots := 0, locals := 30 } lo D vwCl (TY cI cZ cN cJ) [.ref (a), .int (x)] (fun U => FrP D cI a w U.heap) (fun H v H' => v = some (.int (f_Fr_remove w x).2) ∧ FrP D cI a (f_Fr_remove w x).1 H' ∧ hq_S a 2 H H') := by
  refine hq_ofW (by decide) (Nat.le_of_ble_eq_true rfl) ?_
  intro p e s m below meth c ls C hml hret hlk hnm hl hP
  obtain ⟨k0, k1⟩ := hP
  have hL : hq_L lo [] := hq_L0
  have hl : lv_has ls 4 [(0, .ref (a)), (1, .int (x))] := hl
  refine lv_aload_n C.1 C.2.1 d_Fr_remove_0 rfl (lv_at hl 0 rfl) ?_
  refine lv_iload_n C.1 C.2.1 d_Fr_remove_1 rfl (lv_at hl 1 rfl) ?_
  refine hq_callV (lo := lo) (As := [.int (x)]) (rest := []) C tb_good hml Y_Fr_27 (c_Fr_at l D cI cZ cN cJ lo a w hk x) k0 rfl (fun _ _ _ _ h => h) (fun U hU hW => by show FrP D cI a w U.heap; rw [hU]; exact ⟨k0, k1⟩) hL hl.1 rfl rfl ⟨⟨Nat.le_of_ble_eq_true rfl, Nat.le_of_ble_eq_true rfl⟩, Nat.le_of_ble_eq_true rfl, Nat.le_of_ble_eq_true rfl⟩ (Nat.le_of_ble_eq_true rfl) d_Fr_remove_2 (fun v H41 locs hp hL => ?_)
  obtain ⟨rfl, rfl⟩ := hp
  refine W.eq (g2 := F0 m 5 ls [.int (f_Fr_at w x)]) rfl ?_
  refine lv_istore_n C.1 C.2.1 d_Fr_remove_5 rfl hl (by decide) rfl (lv' := [(2, .int (f_Fr_at w x)), (0, .ref (a)), (1, .int (x))]) (fun ls hl => ?_)
  refine lv_iload_n C.1 C.2.1 d_Fr_remove_6 rfl (lv_at hl 2 rfl) ?_
  refine lv_if_lt (tgt := 58) C.1 C.2.1 d_Fr_remove_7 (by decide) ?_ ?_
  · intro c0
    refine lv_iload_n C.1 C.2.1 d_Fr_remove_58 rfl (lv_at hl 0 rfl) ?_
    have hf : f_Fr_remove w x = (w, f_Fr_at w x) := by unfold f_Fr_remove f_Fr_at; rw [if_pos c0, if_pos c0]
    exact hq_iret C hret hlk (Nat.le_of_ble_eq_true rfl) (Nat.le_of_ble_eq_true rfl) hL ⟨by rw [hf], by rw [hf]; exact ⟨k0, k1⟩, hq_S0⟩ d_Fr_remove_59
  · intro c0
    refine lv_iload_n C.1 C.2.1 d_Fr_remove_10 rfl (lv_at hl 2 rfl) ?_
    refine lv_aload_n C.1 C.2.1 d_Fr_remove_11 rfl (lv_at hl 1 rfl) ?_
    refine hq_get (v := .int (nI w.k)) C f_Fr_15 k0 rfl d_Fr_remove_12 ?_
    refine lv_icmp_ge (tgt := 58) C.1 C.2.1 d_Fr_remove_15 (by decide) ?_ ?_
    · intro c1
      refine lv_iload_n C.1 C.2.1 d_Fr_remove_58 rfl (lv_at hl 0 rfl) ?_
      have hf : f_Fr_remove w x = (w, f_Fr_at w x) := by unfold f_Fr_remove f_Fr_at; rw [if_neg c0, if_neg c0, if_pos c1, if_pos c1]
      exact hq_iret C hret hlk (Nat.le_of_ble_eq_true rfl) (Nat.le_of_ble_eq_true rfl) hL ⟨by rw [hf], by rw [hf]; exact ⟨k0, k1⟩, hq_S0⟩ d_Fr_remove_59
    · intro c1
      obtain ⟨j, hj, hj2⟩ := fr_ix (by omega) c0 c1
      have hf : f_Fr_remove w x = (⟨shiftF (w.k - 1 - j) j w.row, w.k - 1⟩, f_Fr_at w x) := by unfold f_Fr_remove f_Fr_at; rw [if_neg c0, if_neg c0, if_neg c1, if_neg c1, hj2, nI_clamp (by omega)]
      refine lv_aload_n C.1 C.2.1 d_Fr_remove_18 rfl (lv_at hl 1 rfl) ?_
      refine lv_dup C.1 C.2.1 d_Fr_remove_19 rfl ?_
      refine hq_get (v := .int (nI w.k)) C f_Fr_15 k0 rfl d_Fr_remove_20 ?_
      refine lv_iconst (v := 1) C.1 C.2.1 d_Fr_remove_23 (by decide) ?_
      refine lv_isub C.1 C.2.1 d_Fr_remove_24 ?_
      rw [show nI w.k - 1 = nI (w.k - 1) from fr_pred (by omega)]
      refine hq_put (lo := lo) C f_Fr_15 k0 rfl rfl (Nat.le_of_ble_eq_true rfl) hL (by omega) d_Fr_remove_25 (fun H42 locs u43 hL => ?_)
      have k44 : va_at D vwCl (a, .inr (2, [.ref (a + 1), .int (nI (w.k - 1))])) H42 := u43.2.2
      refine lv_iload_n C.1 C.2.1 d_Fr_remove_28 rfl (lv_at hl 2 rfl) ?_
      refine lv_istore_n C.1 C.2.1 d_Fr_remove_29 rfl hl (by decide) rfl (lv' := [(3, .int (x)), (2, .int (f_Fr_at w x)), (0, .ref (a)), (1, .int (x))]) (fun ls hl => ?_)
      have k45 := hq_au k1 u43 (by omega)
      have hl9 : lv_has ls 4 [(3, .int (nI j)), (2, .int (f_Fr_at w x)), (0, .ref a)] := by rw [← hj2]; exact lv_push (lv_push (lv_push (lv_nil hl) (lv_at hl 2 rfl)) (lv_at hl 1 rfl)) (lv_at hl 0 rfl)
      have hW := fr_shift (p := p) (l := l) (e := e) (below := below) D cI cZ cN cJ lo a hlo (w.k - 1) (by omega) (f_Fr_at w x) C hml hret hlk (w.k - 1 - j) j w.row _ ls _ (by omega) rfl rfl (hq_Sput hq_S0 u43 (by omega) (by omega)) hL hl9 k44 k45
      rw [hf]
      exact hW
