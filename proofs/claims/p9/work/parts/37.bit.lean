/-! One bit time of the bus, as a function of its nodes. -/
def busZ (D : va_G) (cI cZ cN : ClassId) (x n : Nat) (y : Nat → sNd) (lev tot : Nat → Int32) (H : Heap) : Prop := hq_B D vwCl x 4 (busC cI cN x n lev tot) H ∧ ∀ i, i < n → NdP D cI cZ (x + 4 + 10 * i) (y i) H
abbrev zRm : Room := { frames := 6, cells := 0, slots := 0, locals := 137 }
def drvW (y : Nat → sNd) : Nat → Int32
  | 0 => 1
  | i + 1 => drvW y i &&& (f_No_drive (y i)).2
def drvZ (y : Nat → sNd) (i : Nat) : Nat → sNd := fun q => if q < i then (f_No_drive (y q)).1 else y q
def seeZ (y : Nat → sNd) (b : Int32) (i : Nat) : Nat → sNd := fun q => if q < i then (f_No_see (y q) b).1 else y q
def see1 (v : Int32) (t : Nat → Int32) : Nat → Int32 := if v = 0 then t else upd t v.toNatClampNeg (t v.toNatClampNeg + 1)
def seeT (y : Nat → sNd) (b : Int32) (tot : Nat → Int32) : Nat → (Nat → Int32)
  | 0 => tot
  | i + 1 => see1 (f_No_see (y i) b).2 (seeT y b tot i)
theorem see1_0 {v : Int32} {t : Nat → Int32} (h : o8 v) : see1 v t 0 = t 0 := by
  unfold see1
  by_cases hv : v = 0
  · rw [if_pos hv]
  · rw [if_neg hv]
    obtain ⟨j, hj, rfl⟩ := h
    rw [nI_clamp (by omega)]
    refine pk_un (fun h9 => hv ?_)
    rw [← h9]; rfl
theorem seeT_0 (y : Nat → sNd) (b : Int32) (tot : Nat → Int32) : ∀ i, seeT y b tot i 0 = tot 0 := by
  intro i
  induction i with
  | zero => rfl
  | succ i ih => exact (see1_0 (o8_No_see _ _)).trans ih
theorem NdP.s {D : va_G} {cI cZ : ClassId} {b a k : Nat} {z : sNd} {H H1 : Heap} (h : NdP D cI cZ b z H) (hs : hq_S a k H H1) (hd : b + 10 ≤ a ∨ a + k ≤ b) : NdP D cI cZ b z H1 :=
  ⟨hq_as h.1 hs (by omega), ⟨hq_as h.2.1.1 hs (by omega), hq_as h.2.1.2 hs (by omega)⟩, ⟨hq_as h.2.2.1.1 hs (by omega), hq_as h.2.2.1.2 hs (by omega)⟩, ⟨hq_as h.2.2.2.1.1 hs (by omega), hq_as h.2.2.2.1.2 hs (by omega)⟩, ⟨hq_as h.2.2.2.2.1.1 hs (by omega), hq_as h.2.2.2.2.1.2 hs (by omega)⟩, hq_as h.2.2.2.2.2 hs (by omega)⟩
theorem NdP.u {D : va_G} {cI cZ : ClassId} {b a : Nat} {e : va_E} {z : sNd} {H H1 : Heap} (h : NdP D cI cZ b z H) (hu : hq_U D vwCl a e H H1) (hd : b + 10 ≤ a ∨ a < b) : NdP D cI cZ b z H1 :=
  h.s (a := a) (k := 1) ⟨hu.1, fun q hq => hu.2.1 q (by omega)⟩ (by omega)
theorem busZ_set {D : va_G} {cI cZ cN : ClassId} {x n i : Nat} {y y' : Nat → sNd} {lev tot : Nat → Int32} {H H1 : Heap} (h : busZ D cI cZ cN x n y lev tot H) (hB : NdP D cI cZ (x + 4 + 10 * i) (y' i) H1) (hS : hq_S (x + 4 + 10 * i) 10 H H1) (hN : ∀ k, k ≠ i → y' k = y k) : busZ D cI cZ cN x n y' lev tot H1 := by
  refine ⟨hq_Bs h.1 hS (by omega), fun k hk => ?_⟩
  by_cases hki : k = i
  · subst hki; exact hB
  · rw [hN k hki]
    exact (h.2 k hk).s hS (by omega)
theorem bus4 {D : va_G} {cI cN : ClassId} {x n : Nat} {lev tot : Nat → Int32} {H : Heap} (k0 : va_at D vwCl (x, .inr (5, [.ref (x + 3), .ref (x + 1), .ref (x + 2)])) H) (k1 : va_at D vwCl (x + 1, .inl (cI, 64, .inl lev)) H) (k2 : va_at D vwCl (x + 2, .inl (cI, 8, .inl tot)) H) (k3 : va_at D vwCl (x + 3, .inl (cN, n, .inr (.inr (.inr (.inr (nref x n)))))) H) : hq_B D vwCl x 4 (busC cI cN x n lev tot) H := hq_Ba (hq_Ba (hq_Ba (hq_Ba hq_B0 k0) k1) k2) k3
def zPost (D : va_G) (cI cZ cN : ClassId) (x n k : Nat) (y : Nat → sNd) (b : Int32) (lev tot : Nat → Int32) : Heap → Option Value → Heap → Prop := fun H v H' => v = none ∧ busZ D cI cZ cN x n (seeZ y b n) (upd lev (k % 64) b) (upd (seeT y b tot n) 0 (nI (k + 1))) H' ∧ hq_S x (4 + 10 * n) H H'
set_option maxHeartbeats 4000000 in
set_option maxRecDepth 100000 in
theorem z_loop2 {p : Program} {l : Launch} {e : Env} {s : State} {m : MethodId} {args : Array Value} {below : List Frame} {meth : Method} {c : Code} (D : va_G) (cI cZ cN cJ : ClassId) (lo x n k : Nat) (y : Nat → sNd) (bw : Int32) (lev tot : Nat → Int32) (hlo : lo ≤ x) (hn4 : n ≤ 4) (hk : tot 0 = nI k) (hk2 : k < 2 ^ 30) (ok : ∀ q, q < n → okNd (y q)) (C : hq_C p c s m args R_X b_X_passOne TB D vwCl (TY cI cZ cN cJ)) (hml : c.maxLocals = 4) (hret : meth.sig.returnType = none) (hlk : meth.locks = false) :
    ∀ (d i : Nat) (H : Heap) (locs : List Loc) (ls : Array Slot), i + d = n → busZ D cI cZ cN x n (seeZ y bw i) lev (seeT y bw tot i) H → hq_S x (4 + 10 * n) s.heap H → hq_L lo locs → lv_has ls 4 [(2, .int (nI i)), (1, .int bw), (0, .ref x)] →
      W p l e zRm s m args below meth c H locs 0 0 (MQ below (hq_Q (zPost D cI cZ cN x n k y bw lev tot)) args s 0 0 (fun q => lo ≤ q)) (F0 m 33 ls []) := by
  intro d
  induction d with
  | zero =>
    intro i H locs ls hd hB hS hL hl
    have hin : i = n := by omega
    rw [hin] at hB
    have k0 : va_at D vwCl (x, .inr (5, [.ref (x + 3), .ref (x + 1), .ref (x + 2)])) H := hB.1 0 (by decide)
    have k1 : va_at D vwCl (x + 1, .inl (cI, 64, .inl lev)) H := hB.1 1 (by decide)
    have k2 : va_at D vwCl (x + 2, .inl (cI, 8, .inl (seeT y bw tot n))) H := hB.1 2 (by decide)
    have k3 : va_at D vwCl (x + 3, .inl (cN, n, .inr (.inr (.inr (.inr (nref x n)))))) H := hB.1 3 (by decide)
    refine lv_iload_n C.1 C.2.1 d_X_passOne_33 rfl (lv_at hl 0 rfl) ?_
    refine lv_aload_n C.1 C.2.1 d_X_passOne_34 rfl (lv_at hl 2 rfl) ?_
    refine hq_get (v := .ref (x + 3)) C f_X_27 k0 rfl d_X_passOne_35 ?_
    refine hq_alen C 2 rfl k3 (v := nI n) rfl d_X_passOne_38 ?_
    refine lv_icmp_ge (tgt := 73) C.1 C.2.1 d_X_passOne_39 (by decide) (fun _ => ?_) (fun hn => absurd (by rw [hin]; exact Int32.le_refl _) hn)
    refine lv_aload_n C.1 C.2.1 d_X_passOne_73 rfl (lv_at hl 2 rfl) ?_
    refine hq_get (v := .ref (x + 1)) C f_X_9 k0 rfl d_X_passOne_74 ?_
    refine lv_aload_n C.1 C.2.1 d_X_passOne_77 rfl (lv_at hl 2 rfl) ?_
    refine hq_get (v := .ref (x + 2)) C f_X_13 k0 rfl d_X_passOne_78 ?_
    refine lv_iconst (v := 0) C.1 C.2.1 d_X_passOne_81 (by decide) ?_
    refine hq_iald C 0 rfl k2 (show vp_in (nI 0) 8 from vp_in_nI (by decide) (by decide)) d_X_passOne_82 ?_
    rw [show seeT y bw tot n (Int32.toNatClampNeg 0) = nI k from (seeT_0 y bw tot n).trans hk]
    refine lv_bipush (v := 64) C.1 C.2.1 d_X_passOne_83 (by decide) ?_
    refine hq_callS (lo := lo) (As := [.int (nI k), .int (64)]) (rest := [.ref (x + 1)]) C tb_good hml Y_X_133 (c_floorMod l D cI cZ cN cJ lo k 64 (by omega) (by decide) (by decide)) (fun _ _ _ _ h => h) (fun U hU hW => trivial) hL hl.1 rfl rfl ⟨⟨Nat.le_of_ble_eq_true rfl, Nat.le_of_ble_eq_true rfl⟩, Nat.le_of_ble_eq_true rfl, Nat.le_of_ble_eq_true rfl⟩ (Nat.le_of_ble_eq_true rfl) d_X_passOne_85 (fun v H41 locs hp hL => ?_)
    obtain ⟨rfl, rfl⟩ := hp
    refine W.eq (g2 := F0 m 88 ls [.int (nI (k % 64)), .ref (x + 1)]) rfl ?_
    refine lv_iload_n C.1 C.2.1 d_X_passOne_88 rfl (lv_at hl 1 rfl) ?_
    refine hq_iast (lo := lo) C 0 rfl k1 (vp_in_nI (Nat.mod_lt _ (by decide)) (by decide)) hL (by omega) d_X_passOne_89 (fun H1 locs u1 hL => ?_)
    have k1n := u1.2.2
    rw [nI_clamp (show k % 64 < 2 ^ 31 by omega)] at k1n
    refine lv_aload_n C.1 C.2.1 d_X_passOne_90 rfl (lv_at hl 2 rfl) ?_
    have k42 := hq_au k0 u1 (by omega)
    refine hq_get (v := .ref (x + 2)) C f_X_13 k42 rfl d_X_passOne_91 ?_
    refine lv_iconst (v := 0) C.1 C.2.1 d_X_passOne_94 (by decide) ?_
    refine lv_dup2_11 C.1 C.2.1 d_X_passOne_95 rfl rfl ?_
    have k43 := hq_au k2 u1 (by omega)
    refine hq_iald C 0 rfl k43 (show vp_in (nI 0) 8 from vp_in_nI (by decide) (by decide)) d_X_passOne_96 ?_
    rw [show seeT y bw tot n (Int32.toNatClampNeg 0) = nI k from (seeT_0 y bw tot n).trans hk]
    refine lv_iconst (v := 1) C.1 C.2.1 d_X_passOne_97 (by decide) ?_
    refine lv_iadd C.1 C.2.1 d_X_passOne_98 ?_
    rw [nI_1 k]
    refine hq_iast (lo := lo) C 0 rfl k43 (show vp_in (nI 0) 8 from vp_in_nI (by decide) (by decide)) hL (by omega) d_X_passOne_99 (fun H2 locs u2 hL => ?_)
    have k2n : va_at D vwCl (x + 2, .inl (cI, 8, .inl (upd (seeT y bw tot n) 0 (nI (k + 1))))) H2 := u2.2.2
    have k44 := hq_au k42 u2 (by omega)
    have k45 := hq_au k1n u2 (by omega)
    have k46 := hq_au (hq_au k3 u1 (by omega)) u2 (by omega)
    exact hq_vret C hret hlk (Nat.le_of_ble_eq_true rfl) (Nat.le_of_ble_eq_true rfl) hL ⟨rfl, ⟨bus4 k44 k45 k2n k46, fun q hq => ((hB.2 q hq).u u1 (by omega)).u u2 (by omega)⟩, hq_Sput (hq_Sput hS u1 (by omega) (by omega)) u2 (by omega) (by omega)⟩ d_X_passOne_100
  | succ d ih =>
    intro i H locs ls hd hB hS hL hl
    have hin : i < n := by omega
    have k0 : va_at D vwCl (x, .inr (5, [.ref (x + 3), .ref (x + 1), .ref (x + 2)])) H := hB.1 0 (by decide)
    have k1 : va_at D vwCl (x + 1, .inl (cI, 64, .inl lev)) H := hB.1 1 (by decide)
    have k2 : va_at D vwCl (x + 2, .inl (cI, 8, .inl (seeT y bw tot i))) H := hB.1 2 (by decide)
    have k3 : va_at D vwCl (x + 3, .inl (cN, n, .inr (.inr (.inr (.inr (nref x n)))))) H := hB.1 3 (by decide)
    refine lv_iload_n C.1 C.2.1 d_X_passOne_33 rfl (lv_at hl 0 rfl) ?_
    refine lv_aload_n C.1 C.2.1 d_X_passOne_34 rfl (lv_at hl 2 rfl) ?_
    refine hq_get (v := .ref (x + 3)) C f_X_27 k0 rfl d_X_passOne_35 ?_
    refine hq_alen C 2 rfl k3 (v := nI n) rfl d_X_passOne_38 ?_
    refine lv_icmp_ge (tgt := 73) C.1 C.2.1 d_X_passOne_39 (by decide) (fun hn => absurd hn (nI_ge hin (by omega))) (fun _ => ?_)
    refine lv_aload_n C.1 C.2.1 d_X_passOne_42 rfl (lv_at hl 2 rfl) ?_
    refine hq_get (v := .ref (x + 3)) C f_X_27 k0 rfl d_X_passOne_43 ?_
    refine lv_iload_n C.1 C.2.1 d_X_passOne_46 rfl (lv_at hl 0 rfl) ?_
    refine hq_aald C 2 (Cn := "StrongBus$Node") rfl k3 (vp_in_nI hin (by omega)) (q := x + 4 + 10 * i) (by rw [nI_clamp (by omega)]; unfold nref; rw [if_pos hin]) d_X_passOne_47 ?_
    refine lv_iload_n C.1 C.2.1 d_X_passOne_48 rfl (lv_at hl 1 rfl) ?_
    have kN := hB.2 i hin
    rw [show seeZ y bw i i = y i from if_neg (Nat.lt_irrefl i)] at kN
    refine hq_callV (lo := lo) (As := [.int (bw)]) (rest := []) C tb_good hml Y_X_130 (c_No_see l D cI cZ cN cJ lo (x + 4 + 10 * i) (by omega) (y i) (ok i hin) bw) kN.1 rfl (fun _ _ _ _ h => h) (fun U hU hW => by show NdP D cI cZ (x + 4 + 10 * i) (y i) U.heap; rw [hU]; exact kN) hL hl.1 rfl rfl ⟨⟨Nat.le_of_ble_eq_true rfl, Nat.le_of_ble_eq_true rfl⟩, Nat.le_of_ble_eq_true rfl, Nat.le_of_ble_eq_true rfl⟩ (Nat.le_of_ble_eq_true rfl) d_X_passOne_49 (fun v H41 locs hp hL => ?_)
    obtain ⟨rfl, hN1, hS1⟩ := hp
    refine W.eq (g2 := F0 m 52 ls [.int ((f_No_see (y i) bw).2)]) rfl ?_
    refine lv_istore_n C.1 C.2.1 d_X_passOne_52 rfl hl (by decide) rfl (lv' := [(3, .int ((f_No_see (y i) bw).2)), (2, .int (nI i)), (1, .int (bw)), (0, .ref (x))]) (fun ls hl => ?_)
    refine lv_iload_n C.1 C.2.1 d_X_passOne_53 rfl (lv_at hl 0 rfl) ?_
    have hl := lv_push (lv_push (lv_push (lv_push (lv_nil hl) (lv_at hl 0 rfl)) (lv_at hl 3 rfl)) (lv_at hl 2 rfl)) (lv_at hl 1 rfl)
    have hB1 : busZ D cI cZ cN x n (seeZ y bw (i + 1)) lev (seeT y bw tot i) H41 := by
      refine busZ_set (i := i) hB ?_ hS1 (fun q hq => ?_)
      · rw [show seeZ y bw (i + 1) i = (f_No_see (y i) bw).1 from if_pos (Nat.lt_succ_self i)]; exact hN1
      · show (if q < i + 1 then _ else _) = (if q < i then _ else _)
        by_cases h1 : q < i
        · rw [if_pos h1, if_pos (by omega)]
        · rw [if_neg h1, if_neg (by omega)]
    refine lv_if_eq (tgt := 67) C.1 C.2.1 d_X_passOne_54 (by decide) ?_ ?_
    · intro c0
      have hT : seeT y bw tot (i + 1) = seeT y bw tot i := if_pos c0
      rw [← hT] at hB1
      refine lv_iinc (k := 0) (v := nI (i + 1)) C.1 C.2.1 d_X_passOne_67 hl rfl (nI_1 i) (by decide) (lv' := [(2, .int (nI (i + 1))), (1, .int bw), (0, .ref x), (3, .int ((f_No_see (y i) bw).2))]) rfl (fun ls hl => ?_)
      refine lv_goto (tgt := 33) C.1 C.2.1 d_X_passOne_70 (by decide) ?_
      exact ih (i + 1) H41 _ _ (by omega) hB1 (hq_Scall hS hS1 (by omega) (by omega)) hL (lv_push (lv_push (lv_push (lv_nil hl) (lv_at hl 2 rfl)) (lv_at hl 1 rfl)) (lv_at hl 0 rfl))
    · intro c0
      obtain ⟨j, hj, hj2⟩ := o8_No_see (y i) bw
      have hT : seeT y bw tot (i + 1) = upd (seeT y bw tot i) j (seeT y bw tot i j + 1) := (if_neg c0).trans (by rw [hj2, nI_clamp (by omega)])
      have k0 : va_at D vwCl (x, .inr (5, [.ref (x + 3), .ref (x + 1), .ref (x + 2)])) H41 := hB1.1 0 (by decide)
      have k1 : va_at D vwCl (x + 1, .inl (cI, 64, .inl lev)) H41 := hB1.1 1 (by decide)
      have k2 : va_at D vwCl (x + 2, .inl (cI, 8, .inl (seeT y bw tot i))) H41 := hB1.1 2 (by decide)
      have k3 : va_at D vwCl (x + 3, .inl (cN, n, .inr (.inr (.inr (.inr (nref x n)))))) H41 := hB1.1 3 (by decide)
      refine lv_aload_n C.1 C.2.1 d_X_passOne_57 rfl (lv_at hl 2 rfl) ?_
      refine hq_get (v := .ref (x + 2)) C f_X_13 k0 rfl d_X_passOne_58 ?_
      refine lv_iload_n C.1 C.2.1 d_X_passOne_61 rfl (lv_at hl 3 rfl) ?_
      refine lv_dup2_11 C.1 C.2.1 d_X_passOne_62 rfl rfl ?_
      refine hq_iald C 0 rfl k2 (by rw [hj2]; exact vp_in_nI hj (by decide)) d_X_passOne_63 ?_
      refine W.eq (g2 := F0 m 64 ls [.int (seeT y bw tot i (f_No_see (y i) bw).2.toNatClampNeg), .int ((f_No_see (y i) bw).2), .ref (x + 2)]) rfl ?_
      refine lv_iconst (v := 1) C.1 C.2.1 d_X_passOne_64 (by decide) ?_
      refine lv_iadd C.1 C.2.1 d_X_passOne_65 ?_
      refine hq_iast (lo := lo) C 0 rfl k2 (by rw [hj2]; exact vp_in_nI hj (by decide)) hL (by omega) d_X_passOne_66 (fun H9 locs u9 hL => ?_)
      have k9 := u9.2.2
      rw [hj2, nI_clamp (show j < 2 ^ 31 by omega), ← hT] at k9
      have hB9 : busZ D cI cZ cN x n (seeZ y bw (i + 1)) lev (seeT y bw tot (i + 1)) H9 := ⟨bus4 (hq_au k0 u9 (by omega)) (hq_au k1 u9 (by omega)) k9 (hq_au k3 u9 (by omega)), fun q hq => (hB1.2 q hq).u u9 (by omega)⟩
      refine lv_iinc (k := 0) (v := nI (i + 1)) C.1 C.2.1 d_X_passOne_67 hl rfl (nI_1 i) (by decide) (lv' := [(2, .int (nI (i + 1))), (1, .int bw), (0, .ref x), (3, .int ((f_No_see (y i) bw).2))]) rfl (fun ls hl => ?_)
      refine lv_goto (tgt := 33) C.1 C.2.1 d_X_passOne_70 (by decide) ?_
      exact ih (i + 1) H9 _ _ (by omega) hB9 (hq_Sput (hq_Scall hS hS1 (by omega) (by omega)) u9 (by omega) (by omega)) hL (lv_push (lv_push (lv_push (lv_nil hl) (lv_at hl 2 rfl)) (lv_at hl 1 rfl)) (lv_at hl 0 rfl))
