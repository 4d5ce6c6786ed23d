/-! One bit time and many, as functions. -/
theorem seeZ_0 (y : Nat → sNd) (b : Int32) : seeZ y b 0 = y := funext fun q => if_neg (Nat.not_lt_zero q)
theorem drvZ_0 (y : Nat → sNd) : drvZ y 0 = y := funext fun q => if_neg (Nat.not_lt_zero q)
theorem ok_drvZ {y : Nat → sNd} {n : Nat} (ok : ∀ q, q < n → okNd (y q)) (i : Nat) : ∀ q, q < n → okNd (drvZ y i q) := by
  intro q hq
  show okNd (if q < i then (f_No_drive (y q)).1 else y q)
  by_cases h : q < i
  · rw [if_pos h]; exact ok_No_drive (y q) (ok q hq)
  · rw [if_neg h]; exact ok q hq
theorem ok_seeZ {y : Nat → sNd} {n : Nat} {b : Int32} (ok : ∀ q, q < n → okNd (y q)) (i : Nat) : ∀ q, q < n → okNd (seeZ y b i q) := by
  intro q hq
  show okNd (if q < i then (f_No_see (y q) b).1 else y q)
  by_cases h : q < i
  · rw [if_pos h]; exact ok_No_see (y q) b (ok q hq)
  · rw [if_neg h]; exact ok q hq
abbrev sBu := (Nat → sNd) × (Nat → Int32) × (Nat → Int32)
def stepB (n k : Nat) (u : sBu) : sBu := (seeZ (drvZ u.1 n) (drvW u.1 n) n, upd u.2.1 (k % 64) (drvW u.1 n), upd (seeT (drvZ u.1 n) (drvW u.1 n) u.2.2 n) 0 (nI (k + 1)))
def passN (n : Nat) : Nat → Nat → sBu → sBu
  | 0, _, u => u
  | d + 1, k, u => passN n d (k + 1) (stepB n k u)
def okB (n k : Nat) (u : sBu) : Prop := (∀ q, q < n → okNd (u.1 q)) ∧ u.2.2 0 = nI k
theorem okB_step {n k : Nat} {u : sBu} (h : okB n k u) : okB n (k + 1) (stepB n k u) := ⟨ok_seeZ (ok_drvZ h.1 n) n, (show upd (seeT (drvZ u.1 n) (drvW u.1 n) u.2.2 n) 0 (nI (k + 1)) 0 = nI (k + 1) from pk_us)⟩
theorem okB_pass {n : Nat} : ∀ (d k : Nat) (u : sBu), okB n k u → okB n (k + d) (passN n d k u) := by
  intro d
  induction d with
  | zero => intro k u h; exact h
  | succ d ih =>
    intro k u h
    have h9 := ih (k + 1) (stepB n k u) (okB_step h)
    rw [show k + 1 + d = k + (d + 1) by omega] at h9
    exact h9
abbrev BuP (D : va_G) (cI cZ cN : ClassId) (x n : Nat) (u : sBu) (H : Heap) : Prop := busZ D cI cZ cN x n u.1 u.2.1 u.2.2 H
set_option maxHeartbeats 4000000 in
set_option maxRecDepth 100000 in
theorem z_loop1 {p : Program} {l : Launch} {e : Env} {s : State} {m : MethodId} {args : Array Value} {below : List Frame} {meth : Method} {c : Code} (D : va_G) (cI cZ cN cJ : ClassId) (lo x n k : Nat) (y : Nat → sNd) (lev tot : Nat → Int32) (hlo : lo ≤ x) (hn4 : n ≤ 4) (hk : tot 0 = nI k) (hk2 : k < 2 ^ 30) (ok : ∀ q, q < n → okNd (y q)) (C : hq_C p c s m args R_X b_X_passOne TB D vwCl (TY cI cZ cN cJ)) (hml : c.maxLocals = 4) (hret : meth.sig.returnType = none) (hlk : meth.locks = false) :
    ∀ (d i : Nat) (H : Heap) (locs : List Loc) (ls : Array Slot), i + d = n → busZ D cI cZ cN x n (drvZ y i) lev tot H → hq_S x (4 + 10 * n) s.heap H → hq_L lo locs → lv_has ls 4 [(2, .int (nI i)), (1, .int (drvW y i)), (0, .ref x)] →
      W p l e zRm s m args below meth c H locs 0 0 (MQ below (hq_Q (zPost D cI cZ cN x n k (drvZ y n) (drvW y n) lev tot)) args s 0 0 (fun q => lo ≤ q)) (F0 m 4 ls []) := by
  intro d
  induction d with
  | zero =>
    intro i H locs ls hd hB hS hL hl
    have hin : i = n := by omega
    have k0 : va_at D vwCl (x, .inr (5, [.ref (x + 3), .ref (x + 1), .ref (x + 2)])) H := hB.1 0 (by decide)
    have k1 : va_at D vwCl (x + 1, .inl (cI, 64, .inl lev)) H := hB.1 1 (by decide)
    have k2 : va_at D vwCl (x + 2, .inl (cI, 8, .inl tot)) H := hB.1 2 (by decide)
    have k3 : va_at D vwCl (x + 3, .inl (cN, n, .inr (.inr (.inr (.inr (nref x n)))))) H := hB.1 3 (by decide)
    refine lv_iload_n C.1 C.2.1 d_X_passOne_4 rfl (lv_at hl 0 rfl) ?_
    refine lv_aload_n C.1 C.2.1 d_X_passOne_5 rfl (lv_at hl 2 rfl) ?_
    refine hq_get (v := .ref (x + 3)) C f_X_27 k0 rfl d_X_passOne_6 ?_
    refine hq_alen C 2 rfl k3 (v := nI n) rfl d_X_passOne_9 ?_
    refine lv_icmp_ge (tgt := 31) C.1 C.2.1 d_X_passOne_10 (by decide) (fun _ => ?_) (fun hn => absurd (by rw [hin]; exact Int32.le_refl _) hn)
    refine lv_iconst (v := 0) C.1 C.2.1 d_X_passOne_31 (by decide) ?_
    refine lv_istore_n C.1 C.2.1 d_X_passOne_32 rfl hl (by decide) (lv' := [(2, .int (nI 0)), (1, .int (drvW y i)), (0, .ref x)]) rfl (fun ls hl => ?_)
    rw [hin] at hB hl
    rw [← seeZ_0 (drvZ y n) (drvW y n)] at hB
    exact z_loop2 D cI cZ cN cJ lo x n k (drvZ y n) (drvW y n) lev tot hlo hn4 hk hk2 (ok_drvZ ok n) C hml hret hlk n 0 H locs ls (by omega) hB hS hL hl
  | succ d ih =>
    intro i H locs ls hd hB hS hL hl
    have hin : i < n := by omega
    have k0 : va_at D vwCl (x, .inr (5, [.ref (x + 3), .ref (x + 1), .ref (x + 2)])) H := hB.1 0 (by decide)
    have k1 : va_at D vwCl (x + 1, .inl (cI, 64, .inl lev)) H := hB.1 1 (by decide)
    have k2 : va_at D vwCl (x + 2, .inl (cI, 8, .inl tot)) H := hB.1 2 (by decide)
    have k3 : va_at D vwCl (x + 3, .inl (cN, n, .inr (.inr (.inr (.inr (nref x n)))))) H := hB.1 3 (by decide)
    refine lv_iload_n C.1 C.2.1 d_X_passOne_4 rfl (lv_at hl 0 rfl) ?_
    refine lv_aload_n C.1 C.2.1 d_X_passOne_5 rfl (lv_at hl 2 rfl) ?_
    refine hq_get (v := .ref (x + 3)) C f_X_27 k0 rfl d_X_passOne_6 ?_
    refine hq_alen C 2 rfl k3 (v := nI n) rfl d_X_passOne_9 ?_
    refine lv_icmp_ge (tgt := 31) C.1 C.2.1 d_X_passOne_10 (by decide) (fun hn => absurd hn (nI_ge hin (by omega))) (fun _ => ?_)
    refine lv_iload_n C.1 C.2.1 d_X_passOne_13 rfl (lv_at hl 1 rfl) ?_
    refine lv_aload_n C.1 C.2.1 d_X_passOne_14 rfl (lv_at hl 2 rfl) ?_
    refine hq_get (v := .ref (x + 3)) C f_X_27 k0 rfl d_X_passOne_15 ?_
    refine lv_iload_n C.1 C.2.1 d_X_passOne_18 rfl (lv_at hl 0 rfl) ?_
    refine hq_aald C 2 (Cn := "StrongBus$Node") rfl k3 (vp_in_nI hin (by omega)) (q := x + 4 + 10 * i) (by rw [nI_clamp (by omega)]; unfold nref; rw [if_pos hin]) d_X_passOne_19 ?_
    have kN := hB.2 i hin
    rw [show drvZ y i i = y i from if_neg (Nat.lt_irrefl i)] at kN
    refine hq_callV (lo := lo) (As := []) (rest := [.int (drvW y i)]) C tb_good hml Y_X_126 (c_No_drive l D cI cZ cN cJ lo (x + 4 + 10 * i) (by omega) (y i) (ok i hin)) kN.1 rfl (fun _ _ _ _ h => h) (fun U hU hW => by show NdP D cI cZ (x + 4 + 10 * i) (y i) U.heap; rw [hU]; exact kN) hL hl.1 rfl rfl ⟨⟨Nat.le_of_ble_eq_true rfl, Nat.le_of_ble_eq_true rfl⟩, Nat.le_of_ble_eq_true rfl, Nat.le_of_ble_eq_true rfl⟩ (Nat.le_of_ble_eq_true rfl) d_X_passOne_20 (fun v H41 locs hp hL => ?_)
    obtain ⟨rfl, hN1, hS1⟩ := hp
    refine W.eq (g2 := F0 m 23 ls [.int ((f_No_drive (y i)).2), .int (drvW y i)]) rfl ?_
    refine lv_iand C.1 C.2.1 d_X_passOne_23 ?_
    refine lv_istore_n C.1 C.2.1 d_X_passOne_24 rfl hl (by decide) (lv' := [(1, .int (drvW y i &&& (f_No_drive (y i)).2)), (2, .int (nI i)), (0, .ref x)]) rfl (fun ls hl => ?_)
    refine lv_iinc (k := 1) (v := nI (i + 1)) C.1 C.2.1 d_X_passOne_25 hl rfl (nI_1 i) (by decide) (lv' := [(2, .int (nI (i + 1))), (1, .int (drvW y i &&& (f_No_drive (y i)).2)), (0, .ref x)]) rfl (fun ls hl => ?_)
    refine lv_goto (tgt := 4) C.1 C.2.1 d_X_passOne_28 (by decide) ?_
    have hB1 : busZ D cI cZ cN x n (drvZ y (i + 1)) lev tot H41 := by
      refine busZ_set (i := i) hB ?_ hS1 (fun q hq => ?_)
      · rw [show drvZ y (i + 1) i = (f_No_drive (y i)).1 from if_pos (Nat.lt_succ_self i)]; exact hN1
      · show (if q < i + 1 then _ else _) = (if q < i then _ else _)
        by_cases h1 : q < i
        · rw [if_pos h1, if_pos (by omega)]
        · rw [if_neg h1, if_neg (by omega)]
    exact ih (i + 1) H41 _ _ (by omega) hB1 (hq_Scall hS hS1 (by omega) (by omega)) hL hl
set_option maxHeartbeats 4000000 in
set_option maxRecDepth 100000 in
theorem c_X_passOne (l : Launch) (D : va_G) (cI cZ cN cJ : ClassId) (lo : Nat) (x n k : Nat) (u : sBu) (hlo : lo ≤ x) (hn4 : n ≤ 4) (hk2 : k < 2 ^ 30) (ok : okB n k u) : hq_M l y_X_passOne b_X_passOne 4 none TB zRm lo D vwCl (TY cI cZ cN cJ) [.ref x] (fun U => BuP D cI cZ cN x n u U.heap) (fun H v H' => v = none ∧ BuP D cI cZ cN x n (stepB n k u) H' ∧ hq_S x (4 + 10 * n) H H') := by
  refine hq_ofW (by decide) (Nat.le_of_ble_eq_true rfl) ?_
  intro p e s m below meth c ls C hml hret hlk hnm hl hP
  have hL : hq_L lo [] := hq_L0
  have hl : lv_has ls 4 [(0, .ref x)] := hl
  refine lv_iconst (v := 1) C.1 C.2.1 d_X_passOne_0 (by decide) ?_
  refine lv_istore_n C.1 C.2.1 d_X_passOne_1 rfl hl (by decide) rfl (lv' := [(1, .int (1)), (0, .ref (x))]) (fun ls hl => ?_)
  refine lv_iconst (v := 0) C.1 C.2.1 d_X_passOne_2 (by decide) ?_
  refine lv_istore_n C.1 C.2.1 d_X_passOne_3 rfl hl (by decide) (lv' := [(2, .int (nI 0)), (1, .int (1)), (0, .ref x)]) rfl (fun ls hl => ?_)
  have hB : busZ D cI cZ cN x n (drvZ u.1 0) u.2.1 u.2.2 s.heap := by rw [drvZ_0]; exact hP
  exact z_loop1 D cI cZ cN cJ lo x n k u.1 u.2.1 u.2.2 hlo hn4 ok.2 hk2 ok.1 C hml hret hlk n 0 _ _ _ (by omega) hB hq_S0 hL hl
abbrev zzRm : Room := { frames := 7, cells := 0, slots := 0, locals := 160 }
set_option maxHeartbeats 4000000 in
set_option maxRecDepth 100000 in
theorem zz_loop {p : Program} {l : Launch} {e : Env} {s : State} {m : MethodId} {args : Array Value} {below : List Frame} {meth : Method} {c : Code} (D : va_G) (cI cZ cN cJ : ClassId) (lo x n a : Nat) (t1 : Int32) {R9 : sBu} (hlo : lo ≤ x) (hn4 : n ≤ 4) (ha : a ≤ 200) (C : hq_C p c s m args R_X b_X_pass TB D vwCl (TY cI cZ cN cJ)) (hml : c.maxLocals = 4) (hret : meth.sig.returnType = some .int) (hlk : meth.locks = false) :
    ∀ (d i k : Nat) (u : sBu) (H : Heap) (locs : List Loc) (ls : Array Slot), i + d = a → k + d < 2 ^ 30 → okB n k u → passN n d k u = R9 → BuP D cI cZ cN x n u H → hq_S x (4 + 10 * n) s.heap H → hq_L lo locs → lv_has ls 4 [(3, .int (nI i)), (2, .int (t1)), (0, .ref x), (1, .int (nI a))] →
      W p l e zzRm s m args below meth c H locs 0 0 (MQ below (hq_Q (fun H v H' => v = some (.int (R9.2.2 1 - t1)) ∧ BuP D cI cZ cN x n R9 H' ∧ hq_S x (4 + 10 * n) H H')) args s 0 0 (fun q => lo ≤ q)) (F0 m 13 ls []) := by
  intro d
  induction d with
  | zero =>
    intro i k u H locs ls hd hk ok hR hB hS hL hl
    have hin : i = a := by omega
    have hR : u = R9 := hR
    subst hR
    have k0 : va_at D vwCl (x, .inr (5, [.ref (x + 3), .ref (x + 1), .ref (x + 2)])) H := hB.1 0 (by decide)
    have k2 : va_at D vwCl (x + 2, .inl (cI, 8, .inl u.2.2)) H := hB.1 2 (by decide)
    refine lv_iload_n C.1 C.2.1 d_X_pass_13 rfl (lv_at hl 0 rfl) ?_
    refine lv_iload_n C.1 C.2.1 d_X_pass_14 rfl (lv_at hl 3 rfl) ?_
    refine lv_icmp_ge (tgt := 28) C.1 C.2.1 d_X_pass_15 (by decide) (fun _ => ?_) (fun hn => absurd (by rw [hin]; exact Int32.le_refl _) hn)
    refine lv_aload_n C.1 C.2.1 d_X_pass_28 rfl (lv_at hl 2 rfl) ?_
    refine hq_get (v := .ref (x + 2)) C f_X_13 k0 rfl d_X_pass_29 ?_
    refine lv_iconst (v := 1) C.1 C.2.1 d_X_pass_32 (by decide) ?_
    refine hq_iald C 0 rfl k2 (show vp_in (nI 1) 8 from vp_in_nI (by decide) (by decide)) d_X_pass_33 ?_
    refine W.eq (g2 := F0 m 34 ls [.int (u.2.2 1)]) rfl ?_
    refine lv_iload_n C.1 C.2.1 d_X_pass_34 rfl (lv_at hl 1 rfl) ?_
    refine lv_isub C.1 C.2.1 d_X_pass_35 ?_
    exact hq_iret C hret hlk (Nat.le_of_ble_eq_true rfl) (Nat.le_of_ble_eq_true rfl) hL ⟨rfl, hB, hS⟩ d_X_pass_36
  | succ d ih =>
    intro i k u H locs ls hd hk ok hR hB hS hL hl
    have hin : i < a := by omega
    have k0 : va_at D vwCl (x, .inr (5, [.ref (x + 3), .ref (x + 1), .ref (x + 2)])) H := hB.1 0 (by decide)
    have k2 : va_at D vwCl (x + 2, .inl (cI, 8, .inl u.2.2)) H := hB.1 2 (by decide)
    refine lv_iload_n C.1 C.2.1 d_X_pass_13 rfl (lv_at hl 0 rfl) ?_
    refine lv_iload_n C.1 C.2.1 d_X_pass_14 rfl (lv_at hl 3 rfl) ?_
    refine lv_icmp_ge (tgt := 28) C.1 C.2.1 d_X_pass_15 (by decide) (fun hn => absurd hn (nI_ge hin (by omega))) (fun _ => ?_)
    refine lv_aload_n C.1 C.2.1 d_X_pass_18 rfl (lv_at hl 2 rfl) ?_
    refine hq_callV (lo := lo) (As := []) (rest := []) C tb_good hml Y_X_97 (c_X_passOne l D cI cZ cN cJ lo x n k u hlo hn4 (by omega) ok) k0 rfl (fun _ _ _ _ h => h) (fun U hU hW => by show BuP D cI cZ cN x n u U.heap; rw [hU]; exact hB) hL hl.1 rfl rfl ⟨⟨Nat.le_of_ble_eq_true rfl, Nat.le_of_ble_eq_true rfl⟩, Nat.le_of_ble_eq_true rfl, Nat.le_of_ble_eq_true rfl⟩ (Nat.le_of_ble_eq_true rfl) d_X_pass_19 (fun v H41 locs hp hL => ?_)
    obtain ⟨rfl, hB1, hS1⟩ := hp
    refine W.eq (g2 := F0 m 22 ls []) rfl ?_
    refine lv_iinc (k := 0) (v := nI (i + 1)) C.1 C.2.1 d_X_pass_22 hl rfl (nI_1 i) (by decide) (lv' := [(3, .int (nI (i + 1))), (2, .int (t1)), (0, .ref x), (1, .int (nI a))]) rfl (fun ls hl => ?_)
    refine lv_goto (tgt := 13) C.1 C.2.1 d_X_pass_25 (by decide) ?_
    exact ih (i + 1) (k + 1) (stepB n k u) H41 _ _ (by omega) (by omega) (okB_step ok) hR hB1 (hq_Scall hS hS1 (by omega) (by omega)) hL hl
set_option maxHeartbeats 4000000 in
set_option maxRecDepth 100000 in
theorem c_X_pass (l : Launch) (D : va_G) (cI cZ cN cJ : ClassId) (lo : Nat) (x n a k : Nat) (u : sBu) (hlo : lo ≤ x) (hn4 : n ≤ 4) (h1 : 1 ≤ a) (h2 : a ≤ 200) (hk2 : k + a < 2 ^ 30) (ok : okB n k u) : hq_M l y_X_pass b_X_pass 4 (some .int) TB zzRm lo D vwCl (TY cI cZ cN cJ) [.ref x, .int (nI a)] (fun U => BuP D cI cZ cN x n u U.heap) (fun H v H' => v = some (.int ((passN n a k u).2.2 1 - u.2.2 1)) ∧ BuP D cI cZ cN x n (passN n a k u) H' ∧ hq_S x (4 + 10 * n) H H') := by
  refine hq_ofW (by decide) (Nat.le_of_ble_eq_true rfl) ?_
  intro p e s m below meth c ls C hml hret hlk hnm hl hP
  have hL : hq_L lo [] := hq_L0
  have hl : lv_has ls 4 [(0, .ref x), (1, .int (nI a))] := hl
  have hB : BuP D cI cZ cN x n u s.heap := hP
  have k0 : va_at D vwCl (x, .inr (5, [.ref (x + 3), .ref (x + 1), .ref (x + 2)])) s.heap := hB.1 0 (by decide)
  have k2 : va_at D vwCl (x + 2, .inl (cI, 8, .inl u.2.2)) s.heap := hB.1 2 (by decide)
  refine lv_iload_n C.1 C.2.1 d_X_pass_0 rfl (lv_at hl 1 rfl) ?_
  refine hq_callS (lo := lo) (As := [.int (nI a)]) (rest := []) C tb_good hml Y_X_85 (c_checkBitTimes l D cI cZ cN cJ lo (nI a) (nI_nlt (a := a) (b := 1) h1 (by omega)) (nI_le (b := 200) h2 (by decide))) (fun _ _ _ _ h => h) (fun U hU hW => trivial) hL hl.1 rfl rfl ⟨⟨Nat.le_of_ble_eq_true rfl, Nat.le_of_ble_eq_true rfl⟩, Nat.le_of_ble_eq_true rfl, Nat.le_of_ble_eq_true rfl⟩ (Nat.le_of_ble_eq_true rfl) d_X_pass_1 (fun v H41 locs hp hL => ?_)
  obtain ⟨rfl, rfl⟩ := hp
  refine W.eq (g2 := F0 m 4 ls []) rfl ?_
  refine lv_aload_n C.1 C.2.1 d_X_pass_4 rfl (lv_at hl 0 rfl) ?_
  refine hq_get (v := .ref (x + 2)) C f_X_13 k0 rfl d_X_pass_5 ?_
  refine lv_iconst (v := 1) C.1 C.2.1 d_X_pass_8 (by decide) ?_
  refine hq_iald C 0 rfl k2 (show vp_in (nI 1) 8 from vp_in_nI (by decide) (by decide)) d_X_pass_9 ?_
  refine W.eq (g2 := F0 m 10 ls [.int (u.2.2 1)]) rfl ?_
  refine lv_istore_n C.1 C.2.1 d_X_pass_10 rfl hl (by decide) rfl (lv' := [(2, .int (u.2.2 1)), (0, .ref (x)), (1, .int (nI a))]) (fun ls hl => ?_)
  refine lv_iconst (v := 0) C.1 C.2.1 d_X_pass_11 (by decide) ?_
  refine lv_istore_n C.1 C.2.1 d_X_pass_12 rfl hl (by decide) (lv' := [(3, .int (nI 0)), (2, .int (u.2.2 1)), (0, .ref x), (1, .int (nI a))]) rfl (fun ls hl => ?_)
  exact zz_loop D cI cZ cN cJ lo x n a (u.2.2 1) hlo hn4 h2 C hml hret hlk a 0 k u _ _ _ (by omega) hk2 ok rfl hB hq_S0 hL hl
