/-! The class's pass on an idle bus. -/
abbrev pRm : Room := { frames := 2, cells := 0, slots := 0, locals := 60 }
abbrev ppRm : Room := { frames := 3, cells := 0, slots := 0, locals := 90 }
def pPost (D : va_G) (cI cZ cN : ClassId) (x n t k : Nat) (lev tot : Nat → Int32) : Heap → Option Value → Heap → Prop := fun H v H' => v = none ∧ busP D cI cZ cN x n (fun _ => NI ((t + 1) % 201)) (fun _ => R0) (upd lev (k % 64) 1) (upd tot 0 (nI (k + 1))) H' ∧ hq_S x (4 + 10 * n) H H'
set_option maxHeartbeats 4000000 in
set_option maxRecDepth 100000 in
theorem p_loop2 {p : Program} {l : Launch} {e : Env} {s : State} {m : MethodId} {args : Array Value} {below : List Frame} {meth : Method} {c : Code} (D : va_G) (cI cZ cN cJ : ClassId) (lo x n t k : Nat) (lev tot : Nat → Int32) (hlo : lo ≤ x) (hn4 : n ≤ 4) (ht : t < 201) (hk : tot 0 = nI k) (hk2 : k ≤ 200) (C : hq_C p c s m args R_X b_X_passOne TB D vwCl (TY cI cZ cN cJ)) (hml : c.maxLocals = 4) (hret : meth.sig.returnType = none) (hlk : meth.locks = false) :
    ∀ (d i : Nat) (H : Heap) (locs : List Loc) (ls : Array Slot), i + d = n → busP D cI cZ cN x n (fun q => if q < i then NI ((t + 1) % 201) else NI t) (fun _ => R0) lev tot H → hq_S x (4 + 10 * n) s.heap H → hq_L lo locs → lv_has ls 4 [(2, .int (nI i)), (1, .int 1), (0, .ref x)] →
      W p l e pRm s m args below meth c H locs 0 0 (MQ below (hq_Q (pPost D cI cZ cN x n t k lev tot)) args s pRm.cells pRm.slots (fun q => lo ≤ q)) (F0 m 33 ls []) := by
  intro d
  induction d with
  | zero =>
    intro i H locs ls hd hB hS hL hl
    have hin : i = n := by omega
    subst hin
    have k0 : va_at D vwCl (x, .inr (5, [.ref (x + 3), .ref (x + 1), .ref (x + 2)])) H := hB.1 0 (by decide)
    have k1 : va_at D vwCl (x + 1, .inl (cI, 64, .inl lev)) H := hB.1 1 (by decide)
    have k2 : va_at D vwCl (x + 2, .inl (cI, 8, .inl tot)) H := hB.1 2 (by decide)
    have k3 : va_at D vwCl (x + 3, .inl (cN, i, .inr (.inr (.inr (.inr (nref x i)))))) H := hB.1 3 (by decide)
    refine lv_iload_n C.1 C.2.1 d_X_passOne_33 rfl (lv_at hl 0 rfl) ?_
    refine lv_aload_n C.1 C.2.1 d_X_passOne_34 rfl (lv_at hl 2 rfl) ?_
    refine hq_get (v := .ref (x + 3)) C f_X_27 k0 rfl d_X_passOne_35 ?_
    refine hq_alen C 2 rfl k3 (v := nI i) rfl d_X_passOne_38 ?_
    refine lv_icmp_ge (tgt := 73) C.1 C.2.1 d_X_passOne_39 (by decide) (fun _ => ?_) (fun hn => absurd (Int32.le_refl _) hn)
    refine lv_aload_n C.1 C.2.1 d_X_passOne_73 rfl (lv_at hl 2 rfl) ?_
    refine hq_get (v := .ref (x + 1)) C f_X_9 k0 rfl d_X_passOne_74 ?_
    refine lv_aload_n C.1 C.2.1 d_X_passOne_77 rfl (lv_at hl 2 rfl) ?_
    refine hq_get (v := .ref (x + 2)) C f_X_13 k0 rfl d_X_passOne_78 ?_
    refine lv_iconst (v := 0) C.1 C.2.1 d_X_passOne_81 (by decide) ?_
    refine hq_iald C 0 rfl k2 (show vp_in (nI 0) 8 from vp_in_nI (by decide) (by decide)) d_X_passOne_82 ?_
    rw [show tot (Int32.toNatClampNeg 0) = nI k from hk]
    refine lv_bipush (v := 64) C.1 C.2.1 d_X_passOne_83 (by decide) ?_
    refine hq_callS (lo := lo) (As := [.int (nI k), .int (64)]) (rest := [.ref (x + 1)]) C tb_good hml Y_X_133 (c_floorMod l D cI cZ cN cJ lo k 64 (by omega) (by decide) (by decide)) (fun _ _ _ _ h => h) (fun U hU hW => trivial) hL hl.1 rfl rfl ⟨⟨Nat.le_of_ble_eq_true rfl, Nat.le_of_ble_eq_true rfl⟩, Nat.le_of_ble_eq_true rfl, Nat.le_of_ble_eq_true rfl⟩ (Nat.le_of_ble_eq_true rfl) d_X_passOne_85 (fun v H41 locs hp hL => ?_)
    obtain ⟨rfl, rfl⟩ := hp
    refine W.eq (g2 := F0 m 88 ls [.int (nI (k % 64)), .ref (x + 1)]) rfl ?_
    refine lv_iload_n C.1 C.2.1 d_X_passOne_88 rfl (lv_at hl 1 rfl) ?_
    refine hq_iast (lo := lo) C 0 rfl k1 (vp_in_nI (Nat.mod_lt _ (by decide)) (by decide)) hL (by omega) d_X_passOne_89 (fun H1 locs u1 hL => ?_)
    have k1n := u1.2.2
    rw [nI_clamp (show k % 64 < 2 ^ 31 by omega)] at k1n
    refine lv_aload_n C.1 C.2.1 d_X_passOne_90 rfl (lv_at hl 2 rfl) ?_
    have k42 := hq_au k0 u1 (by omega)
    refine hq_get (v := .ref (x + 2)) C f_X_13 k42 rfl d_X_passOne_91 ?_
    refine lv_iconst (v := 0) C.1 C.2.1 d_X_passOne_94 (by decide) ?_
    refine lv_dup2_11 C.1 C.2.1 d_X_passOne_95 rfl rfl ?_
    have k43 := hq_au k2 u1 (by omega)
    refine hq_iald C 0 rfl k43 (show vp_in (nI 0) 8 from vp_in_nI (by decide) (by decide)) d_X_passOne_96 ?_
    rw [show tot (Int32.toNatClampNeg 0) = nI k from hk]
    refine lv_iconst (v := 1) C.1 C.2.1 d_X_passOne_97 (by decide) ?_
    refine lv_iadd C.1 C.2.1 d_X_passOne_98 ?_
    rw [nI_1 k]
    refine hq_iast (lo := lo) C 0 rfl k43 (show vp_in (nI 0) 8 from vp_in_nI (by decide) (by decide)) hL (by omega) d_X_passOne_99 (fun H2 locs u2 hL => ?_)
    have k2n : va_at D vwCl (x + 2, .inl (cI, 8, .inl (upd tot 0 (nI (k + 1))))) H2 := u2.2.2
    have k44 := hq_au k42 u2 (by omega)
    have k45 := hq_au k1n u2 (by omega)
    have k46 := hq_au (hq_au k3 u1 (by omega)) u2 (by omega)
    have hN2 : ∀ q, q < i → hq_B D vwCl (x + 4 + 10 * q) 10 (ndC cI cZ (x + 4 + 10 * q) (NI ((t + 1) % 201)) R0) H2 := by
      intro q hq
      have h9 := hq_Bu (hq_Bu (hB.2 q hq) u1 (by omega)) u2 (by omega)
      dsimp only at h9
      rw [if_pos hq] at h9
      exact h9
    exact hq_vret C hret hlk (Nat.le_of_ble_eq_true rfl) (Nat.le_of_ble_eq_true rfl) hL ⟨rfl, ⟨hq_Ba (hq_Ba (hq_Ba (hq_Ba hq_B0 k44) k45) k2n) k46, hN2⟩, hq_Sput (hq_Sput hS u1 (by omega) (by omega)) u2 (by omega) (by omega)⟩ d_X_passOne_100
  | succ d ih =>
    intro i H locs ls hd hB hS hL hl
    have hin : i < n := by omega
    have k0 : va_at D vwCl (x, .inr (5, [.ref (x + 3), .ref (x + 1), .ref (x + 2)])) H := hB.1 0 (by decide)
    have k1 : va_at D vwCl (x + 1, .inl (cI, 64, .inl lev)) H := hB.1 1 (by decide)
    have k2 : va_at D vwCl (x + 2, .inl (cI, 8, .inl tot)) H := hB.1 2 (by decide)
    have k3 : va_at D vwCl (x + 3, .inl (cN, n, .inr (.inr (.inr (.inr (nref x n)))))) H := hB.1 3 (by decide)
    refine lv_iload_n C.1 C.2.1 d_X_passOne_33 rfl (lv_at hl 0 rfl) ?_
    refine lv_aload_n C.1 C.2.1 d_X_passOne_34 rfl (lv_at hl 2 rfl) ?_
    refine hq_get (v := .ref (x + 3)) C f_X_27 k0 rfl d_X_passOne_35 ?_
    refine hq_alen C 2 rfl k3 (v := nI n) rfl d_X_passOne_38 ?_
    refine lv_icmp_ge (tgt := 73) C.1 C.2.1 d_X_passOne_39 (by decide) (fun hn => absurd hn (nI_ge hin (by omega))) (fun _ => ?_)
    refine lv_aload_n C.1 C.2.1 d_X_passOne_42 rfl (lv_at hl 2 rfl) ?_
    refine hq_get (v := .ref (x + 3)) C f_X_27 k0 rfl d_X_passOne_43 ?_
    refine lv_iload_n C.1 C.2.1 d_X_passOne_46 rfl (lv_at hl 0 rfl) ?_
    refine hq_aald C 2 (Cn := "StrongBus$Node") rfl k3 (vp_in_nI hin (by omega)) (q := x + 4 + 10 * i) (by rw [nI_clamp (by omega)]; unfold nref; rw [if_pos hin]) d_X_passOne_47 ?_
    refine lv_iload_n C.1 C.2.1 d_X_passOne_48 rfl (lv_at hl 1 rfl) ?_
    have kN := hB.2 i hin
    dsimp only at kN
    rw [if_neg (Nat.lt_irrefl i)] at kN
    refine hq_callV (lo := lo) (As := [.int (1)]) (rest := []) C tb_good hml Y_X_130 (c_see l D cI cZ cN cJ lo (x + 4 + 10 * i) t (by omega) ht) (kN 0 (by decide)) rfl (fun _ _ _ _ h => h) (fun U hU hW => by show hq_B D vwCl (x + 4 + 10 * i) 10 _ U.heap; rw [hU]; exact kN) hL hl.1 rfl rfl ⟨⟨Nat.le_of_ble_eq_true rfl, Nat.le_of_ble_eq_true rfl⟩, Nat.le_of_ble_eq_true rfl, Nat.le_of_ble_eq_true rfl⟩ (Nat.le_of_ble_eq_true rfl) d_X_passOne_49 (fun v H41 locs hp hL => ?_)
    obtain ⟨rfl, hN1, hS1⟩ := hp
    refine W.eq (g2 := F0 m 52 ls [.int (0)]) rfl ?_
    refine lv_istore_n C.1 C.2.1 d_X_passOne_52 rfl hl (by decide) rfl (lv' := [(3, .int (0)), (2, .int (nI i)), (1, .int (1)), (0, .ref (x))]) (fun ls hl => ?_)
    refine lv_iload_n C.1 C.2.1 d_X_passOne_53 rfl (lv_at hl 0 rfl) ?_
    have hl := lv_sub hl [1, 2, 3] (l' := [(2, .int (nI i)), (1, .int 1), (0, .ref x)]) rfl
    refine lv_if_eq (tgt := 67) C.1 C.2.1 d_X_passOne_54 (by decide) (fun _ => ?_) (fun hn => absurd (rfl) hn)
    refine lv_iinc (k := 0) (v := nI (i + 1)) C.1 C.2.1 d_X_passOne_67 hl rfl (nI_1 i) (by decide) (lv' := [(2, .int (nI (i + 1))), (1, .int 1), (0, .ref x)]) rfl (fun ls hl => ?_)
    refine lv_goto (tgt := 33) C.1 C.2.1 d_X_passOne_70 (by decide) ?_
    refine ih (i + 1) H41 _ _ (by omega) ?_ (hq_Scall hS hS1 (by omega) (by omega)) hL hl
    refine busP_set (i := i) hB ?_ hS1 (fun q hq => ?_)
    · rw [if_pos (Nat.lt_succ_self i)]; exact hN1
    · by_cases h1 : q < i
      · rw [if_pos h1, if_pos (by omega)]
      · rw [if_neg h1, if_neg (by omega)]
set_option maxHeartbeats 4000000 in
set_option maxRecDepth 100000 in
theorem p_loop1 {p : Program} {l : Launch} {e : Env} {s : State} {m : MethodId} {args : Array Value} {below : List Frame} {meth : Method} {c : Code} (D : va_G) (cI cZ cN cJ : ClassId) (lo x n t k : Nat) (lev tot : Nat → Int32) (hlo : lo ≤ x) (hn4 : n ≤ 4) (ht : t < 201) (hk : tot 0 = nI k) (hk2 : k ≤ 200) (C : hq_C p c s m args R_X b_X_passOne TB D vwCl (TY cI cZ cN cJ)) (hml : c.maxLocals = 4) (hret : meth.sig.returnType = none) (hlk : meth.locks = false) :
    ∀ (d i : Nat) (H : Heap) (locs : List Loc) (ls : Array Slot), i + d = n → busP D cI cZ cN x n (fun _ => NI t) (fun _ => R0) lev tot H → hq_S x (4 + 10 * n) s.heap H → hq_L lo locs → lv_has ls 4 [(2, .int (nI i)), (1, .int 1), (0, .ref x)] →
      W p l e pRm s m args below meth c H locs 0 0 (MQ below (hq_Q (pPost D cI cZ cN x n t k lev tot)) args s pRm.cells pRm.slots (fun q => lo ≤ q)) (F0 m 4 ls []) := by
  intro d
  induction d with
  | zero =>
    intro i H locs ls hd hB hS hL hl
    have hin : i = n := by omega
    have k0 : va_at D vwCl (x, .inr (5, [.ref (x + 3), .ref (x + 1), .ref (x + 2)])) H := hB.1 0 (by decide)
    have k1 : va_at D vwCl (x + 1, .inl (cI, 64, .inl lev)) H := hB.1 1 (by decide)
    have k2 : va_at D vwCl (x + 2, .inl (cI, 8, .inl tot)) H := hB.1 2 (by decide)
    have k3 : va_at D vwCl (x + 3, .inl (cN, n, .inr (.inr (.inr (.inr (nref x n)))))) H := hB.1 3 (by decide)
    refine lv_iload_n C.1 C.2.1 d_X_passOne_4 rfl (lv_at hl 0 rfl) ?_
    refine lv_aload_n C.1 C.2.1 d_X_passOne_5 rfl (lv_at hl 2 rfl) ?_
    refine hq_get (v := .ref (x + 3)) C f_X_27 k0 rfl d_X_passOne_6 ?_
    refine hq_alen C 2 rfl k3 (v := nI n) rfl d_X_passOne_9 ?_
    refine lv_icmp_ge (tgt := 31) C.1 C.2.1 d_X_passOne_10 (by decide) (fun _ => ?_) (fun hn => absurd (by rw [hin]; exact Int32.le_refl _) hn)
    refine lv_iconst (v := 0) C.1 C.2.1 d_X_passOne_31 (by decide) ?_
    refine lv_istore_n C.1 C.2.1 d_X_passOne_32 rfl hl (by decide) (lv' := [(2, .int (nI 0)), (1, .int 1), (0, .ref x)]) rfl (fun ls hl => ?_)
    refine p_loop2 D cI cZ cN cJ lo x n t k lev tot hlo hn4 ht hk hk2 C hml hret hlk n 0 H locs ls (by omega) ?_ hS hL hl
    refine ⟨hB.1, fun q hq => ?_⟩
    dsimp only
    rw [if_neg (Nat.not_lt_zero q)]
    exact hB.2 q hq
  | succ d ih =>
    intro i H locs ls hd hB hS hL hl
    have hin : i < n := by omega
    have k0 : va_at D vwCl (x, .inr (5, [.ref (x + 3), .ref (x + 1), .ref (x + 2)])) H := hB.1 0 (by decide)
    have k1 : va_at D vwCl (x + 1, .inl (cI, 64, .inl lev)) H := hB.1 1 (by decide)
    have k2 : va_at D vwCl (x + 2, .inl (cI, 8, .inl tot)) H := hB.1 2 (by decide)
    have k3 : va_at D vwCl (x + 3, .inl (cN, n, .inr (.inr (.inr (.inr (nref x n)))))) H := hB.1 3 (by decide)
    refine lv_iload_n C.1 C.2.1 d_X_passOne_4 rfl (lv_at hl 0 rfl) ?_
    refine lv_aload_n C.1 C.2.1 d_X_passOne_5 rfl (lv_at hl 2 rfl) ?_
    refine hq_get (v := .ref (x + 3)) C f_X_27 k0 rfl d_X_passOne_6 ?_
    refine hq_alen C 2 rfl k3 (v := nI n) rfl d_X_passOne_9 ?_
    refine lv_icmp_ge (tgt := 31) C.1 C.2.1 d_X_passOne_10 (by decide) (fun hn => absurd hn (nI_ge hin (by omega))) (fun _ => ?_)
    refine lv_iload_n C.1 C.2.1 d_X_passOne_13 rfl (lv_at hl 1 rfl) ?_
    refine lv_aload_n C.1 C.2.1 d_X_passOne_14 rfl (lv_at hl 2 rfl) ?_
    refine hq_get (v := .ref (x + 3)) C f_X_27 k0 rfl d_X_passOne_15 ?_
    refine lv_iload_n C.1 C.2.1 d_X_passOne_18 rfl (lv_at hl 0 rfl) ?_
    refine hq_aald C 2 (Cn := "StrongBus$Node") rfl k3 (vp_in_nI hin (by omega)) (q := x + 4 + 10 * i) (by rw [nI_clamp (by omega)]; unfold nref; rw [if_pos hin]) d_X_passOne_19 ?_
    have kN := hB.2 i hin
    refine hq_callV (lo := lo) (As := []) (rest := [.int (1)]) C tb_good hml Y_X_126 (c_drive l D cI cZ cN cJ lo (x + 4 + 10 * i) t (by omega)) (kN 0 (by decide)) rfl (fun _ _ _ _ h => h) (fun U hU hW => by show hq_B D vwCl (x + 4 + 10 * i) 10 _ U.heap; rw [hU]; exact kN) hL hl.1 rfl rfl ⟨⟨Nat.le_of_ble_eq_true rfl, Nat.le_of_ble_eq_true rfl⟩, Nat.le_of_ble_eq_true rfl, Nat.le_of_ble_eq_true rfl⟩ (Nat.le_of_ble_eq_true rfl) d_X_passOne_20 (fun v H41 locs hp hL => ?_)
    obtain ⟨rfl, hN1, hS1⟩ := hp
    refine W.eq (g2 := F0 m 23 ls [.int (1), .int (1)]) rfl ?_
    refine lv_iand C.1 C.2.1 d_X_passOne_23 ?_
    rw [show (1 : Int32) &&& 1 = 1 from by decide]
    refine lv_istore_n C.1 C.2.1 d_X_passOne_24 rfl hl (by decide) (lv' := [(1, .int 1), (2, .int (nI i)), (0, .ref x)]) rfl (fun ls hl => ?_)
    refine lv_iinc (k := 1) (v := nI (i + 1)) C.1 C.2.1 d_X_passOne_25 hl rfl (nI_1 i) (by decide) (lv' := [(2, .int (nI (i + 1))), (1, .int 1), (0, .ref x)]) rfl (fun ls hl => ?_)
    refine lv_goto (tgt := 4) C.1 C.2.1 d_X_passOne_28 (by decide) ?_
    exact ih (i + 1) H41 _ _ (by omega) (busP_set (i := i) hB hN1 hS1 (fun q hq => rfl)) (hq_Scall hS hS1 (by omega) (by omega)) hL hl
set_option maxHeartbeats 4000000 in
set_option maxRecDepth 100000 in
theorem c_passOne (l : Launch) (D : va_G) (cI cZ cN cJ : ClassId) (lo : Nat) (x n t k : Nat) (lev tot : Nat → Int32) (hlo : lo ≤ x) (hn4 : n ≤ 4) (ht : t < 201) (hk : tot 0 = nI k) (hk2 : k ≤ 200) : hq_M l y_X_passOne b_X_passOne 4 none TB pRm lo D vwCl (TY cI cZ cN cJ) [.ref x] (fun U => busP D cI cZ cN x n (fun _ => NI t) (fun _ => R0) lev tot U.heap) (pPost D cI cZ cN x n t k lev tot) := by
  refine hq_ofW (by decide) (Nat.le_of_ble_eq_true rfl) ?_
  intro p e s m below meth c ls C hml hret hlk hnm hl hP
  have hL : hq_L lo [] := hq_L0
  have hl : lv_has ls 4 [(0, .ref x)] := hl
  refine lv_iconst (v := 1) C.1 C.2.1 d_X_passOne_0 (by decide) ?_
  refine lv_istore_n C.1 C.2.1 d_X_passOne_1 rfl hl (by decide) rfl (lv' := [(1, .int (1)), (0, .ref (x))]) (fun ls hl => ?_)
  refine lv_iconst (v := 0) C.1 C.2.1 d_X_passOne_2 (by decide) ?_
  refine lv_istore_n C.1 C.2.1 d_X_passOne_3 rfl hl (by decide) (lv' := [(2, .int (nI 0)), (1, .int 1), (0, .ref x)]) rfl (fun ls hl => ?_)
  exact p_loop1 D cI cZ cN cJ lo x n t k lev tot hlo hn4 ht hk hk2 C hml hret hlk n 0 _ _ _ (by omega) hP hq_S0 hL hl
def ppPost (x n : Nat) : Heap → Option Value → Heap → Prop := fun H v H' => v = some (.int 0) ∧ hq_S x (4 + 10 * n) H H'
set_option maxHeartbeats 4000000 in
set_option maxRecDepth 100000 in
theorem pp_loop {p : Program} {l : Launch} {e : Env} {s : State} {m : MethodId} {args : Array Value} {below : List Frame} {meth : Method} {c : Code} (D : va_G) (cI cZ cN cJ : ClassId) (lo x n a : Nat) (hlo : lo ≤ x) (hn4 : n ≤ 4) (ha : a ≤ 200) (C : hq_C p c s m args R_X b_X_pass TB D vwCl (TY cI cZ cN cJ)) (hml : c.maxLocals = 4) (hret : meth.sig.returnType = some .int) (hlk : meth.locks = false) :
    ∀ (d i : Nat) (H : Heap) (locs : List Loc) (ls : Array Slot), i + d = a → (∃ lev tot : Nat → Int32, tot 0 = nI i ∧ tot 1 = 0 ∧ busP D cI cZ cN x n (fun _ => NI i) (fun _ => R0) lev tot H) → hq_S x (4 + 10 * n) s.heap H → hq_L lo locs → lv_has ls 4 [(3, .int (nI i)), (2, .int 0), (0, .ref x), (1, .int (nI a))] →
      W p l e ppRm s m args below meth c H locs 0 0 (MQ below (hq_Q (ppPost x n)) args s ppRm.cells ppRm.slots (fun q => lo ≤ q)) (F0 m 13 ls []) := by
  intro d
  induction d with
  | zero =>
    intro i H locs ls hd hI hS hL hl
    obtain ⟨lev, tot, t0, t1, hB⟩ := hI
    have hin : i = a := by omega
    have k0 : va_at D vwCl (x, .inr (5, [.ref (x + 3), .ref (x + 1), .ref (x + 2)])) H := hB.1 0 (by decide)
    have k1 : va_at D vwCl (x + 1, .inl (cI, 64, .inl lev)) H := hB.1 1 (by decide)
    have k2 : va_at D vwCl (x + 2, .inl (cI, 8, .inl tot)) H := hB.1 2 (by decide)
    have k3 : va_at D vwCl (x + 3, .inl (cN, n, .inr (.inr (.inr (.inr (nref x n)))))) H := hB.1 3 (by decide)
    refine lv_iload_n C.1 C.2.1 d_X_pass_13 rfl (lv_at hl 0 rfl) ?_
    refine lv_iload_n C.1 C.2.1 d_X_pass_14 rfl (lv_at hl 3 rfl) ?_
    refine lv_icmp_ge (tgt := 28) C.1 C.2.1 d_X_pass_15 (by decide) (fun _ => ?_) (fun hn => absurd (by rw [hin]; exact Int32.le_refl _) hn)
    refine lv_aload_n C.1 C.2.1 d_X_pass_28 rfl (lv_at hl 2 rfl) ?_
    refine hq_get (v := .ref (x + 2)) C f_X_13 k0 rfl d_X_pass_29 ?_
    refine lv_iconst (v := 1) C.1 C.2.1 d_X_pass_32 (by decide) ?_
    refine hq_iald C 0 rfl k2 (show vp_in (nI 1) 8 from vp_in_nI (by decide) (by decide)) d_X_pass_33 ?_
    rw [show tot (Int32.toNatClampNeg 1) = 0 from t1]
    refine lv_iload_n C.1 C.2.1 d_X_pass_34 rfl (lv_at hl 1 rfl) ?_
    refine lv_isub C.1 C.2.1 d_X_pass_35 ?_
    exact hq_iret C hret hlk (Nat.le_of_ble_eq_true rfl) (Nat.le_of_ble_eq_true rfl) hL ⟨rfl, hS⟩ d_X_pass_36
  | succ d ih =>
    intro i H locs ls hd hI hS hL hl
    obtain ⟨lev, tot, t0, t1, hB⟩ := hI
    have hin : i < a := by omega
    have k0 : va_at D vwCl (x, .inr (5, [.ref (x + 3), .ref (x + 1), .ref (x + 2)])) H := hB.1 0 (by decide)
    have k1 : va_at D vwCl (x + 1, .inl (cI, 64, .inl lev)) H := hB.1 1 (by decide)
    have k2 : va_at D vwCl (x + 2, .inl (cI, 8, .inl tot)) H := hB.1 2 (by decide)
    have k3 : va_at D vwCl (x + 3, .inl (cN, n, .inr (.inr (.inr (.inr (nref x n)))))) H := hB.1 3 (by decide)
    refine lv_iload_n C.1 C.2.1 d_X_pass_13 rfl (lv_at hl 0 rfl) ?_
    refine lv_iload_n C.1 C.2.1 d_X_pass_14 rfl (lv_at hl 3 rfl) ?_
    refine lv_icmp_ge (tgt := 28) C.1 C.2.1 d_X_pass_15 (by decide) (fun hn => absurd hn (nI_ge hin (by omega))) (fun _ => ?_)
    refine lv_aload_n C.1 C.2.1 d_X_pass_18 rfl (lv_at hl 2 rfl) ?_
    refine hq_callV (lo := lo) (As := []) (rest := []) C tb_good hml Y_X_97 (c_passOne l D cI cZ cN cJ lo x n i i lev tot hlo hn4 (by omega) t0 (by omega)) k0 rfl (fun _ _ _ _ h => h) (fun U hU hW => by show busP D cI cZ cN x n (fun _ => NI i) (fun _ => R0) lev tot U.heap; rw [hU]; exact hB) hL hl.1 rfl rfl ⟨⟨Nat.le_of_ble_eq_true rfl, Nat.le_of_ble_eq_true rfl⟩, Nat.le_of_ble_eq_true rfl, Nat.le_of_ble_eq_true rfl⟩ (Nat.le_of_ble_eq_true rfl) d_X_pass_19 (fun v H41 locs hp hL => ?_)
    obtain ⟨rfl, hB1, hS1⟩ := hp
    refine W.eq (g2 := F0 m 22 ls []) rfl ?_
    refine lv_iinc (k := 0) (v := nI (i + 1)) C.1 C.2.1 d_X_pass_22 hl rfl (nI_1 i) (by decide) (lv' := [(3, .int (nI (i + 1))), (2, .int 0), (0, .ref x), (1, .int (nI a))]) rfl (fun ls hl => ?_)
    refine lv_goto (tgt := 13) C.1 C.2.1 d_X_pass_25 (by decide) ?_
    refine ih (i + 1) H41 _ _ (by omega) ⟨upd lev (i % 64) 1, upd tot 0 (nI (i + 1)), pk_us, ?_, ?_⟩ (hq_Scall hS hS1 (by omega) (by omega)) hL hl
    · exact (pk_un (by decide)).trans t1
    · rw [Nat.mod_eq_of_lt (show i + 1 < 201 by omega)] at hB1; exact hB1
set_option maxHeartbeats 4000000 in
set_option maxRecDepth 100000 in
theorem c_pass (l : Launch) (D : va_G) (cI cZ cN cJ : ClassId) (lo : Nat) (x n a : Nat) (hlo : lo ≤ x) (hn4 : n ≤ 4) (h1 : 1 ≤ a) (h2 : a ≤ 200) : hq_M l y_X_pass b_X_pass 4 (some .int) TB ppRm lo D vwCl (TY cI cZ cN cJ) [.ref x, .int (nI a)] (fun U => (∃ lev tot : Nat → Int32, tot 0 = nI 0 ∧ tot 1 = 0 ∧ busP D cI cZ cN x n (fun _ => NI 0) (fun _ => R0) lev tot U.heap)) (ppPost x n) := by
  refine hq_ofW (by decide) (Nat.le_of_ble_eq_true rfl) ?_
  intro p e s m below meth c ls C hml hret hlk hnm hl hP
  have hL : hq_L lo [] := hq_L0
  have hl : lv_has ls 4 [(0, .ref x), (1, .int (nI a))] := hl
  have hI := hP
  obtain ⟨lev, tot, t0, t1, hB⟩ := hP
  have k0 : va_at D vwCl (x, .inr (5, [.ref (x + 3), .ref (x + 1), .ref (x + 2)])) s.heap := hB.1 0 (by decide)
  have k1 : va_at D vwCl (x + 1, .inl (cI, 64, .inl lev)) s.heap := hB.1 1 (by decide)
  have k2 : va_at D vwCl (x + 2, .inl (cI, 8, .inl tot)) s.heap := hB.1 2 (by decide)
  have k3 : va_at D vwCl (x + 3, .inl (cN, n, .inr (.inr (.inr (.inr (nref x n)))))) s.heap := hB.1 3 (by decide)
  refine lv_iload_n C.1 C.2.1 d_X_pass_0 rfl (lv_at hl 1 rfl) ?_
  refine hq_callS (lo := lo) (As := [.int (nI a)]) (rest := []) C tb_good hml Y_X_85 (c_checkBitTimes l D cI cZ cN cJ lo (nI a) (nI_nlt (a := a) (b := 1) h1 (by omega)) (nI_le (b := 200) h2 (by decide))) (fun _ _ _ _ h => h) (fun U hU hW => trivial) hL hl.1 rfl rfl ⟨⟨Nat.le_of_ble_eq_true rfl, Nat.le_of_ble_eq_true rfl⟩, Nat.le_of_ble_eq_true rfl, Nat.le_of_ble_eq_true rfl⟩ (Nat.le_of_ble_eq_true rfl) d_X_pass_1 (fun v H41 locs hp hL => ?_)
  obtain ⟨rfl, rfl⟩ := hp
  refine W.eq (g2 := F0 m 4 ls []) rfl ?_
  refine lv_aload_n C.1 C.2.1 d_X_pass_4 rfl (lv_at hl 0 rfl) ?_
  refine hq_get (v := .ref (x + 2)) C f_X_13 k0 rfl d_X_pass_5 ?_
  refine lv_iconst (v := 1) C.1 C.2.1 d_X_pass_8 (by decide) ?_
  refine hq_iald C 0 rfl k2 (show vp_in (nI 1) 8 from vp_in_nI (by decide) (by decide)) d_X_pass_9 ?_
  rw [show tot (Int32.toNatClampNeg 1) = 0 from t1]
  refine lv_istore_n C.1 C.2.1 d_X_pass_10 rfl hl (by decide) rfl (lv' := [(2, .int (0)), (0, .ref (x)), (1, .int (nI a))]) (fun ls hl => ?_)
  refine lv_iconst (v := 0) C.1 C.2.1 d_X_pass_11 (by decide) ?_
  refine lv_istore_n C.1 C.2.1 d_X_pass_12 rfl hl (by decide) (lv' := [(3, .int (nI 0)), (2, .int 0), (0, .ref x), (1, .int (nI a))]) rfl (fun ls hl => ?_)
  exact pp_loop D cI cZ cN cJ lo x n a hlo hn4 h2 C hml hret hlk a 0 _ _ _ (by omega) hI hq_S0 hL hl
