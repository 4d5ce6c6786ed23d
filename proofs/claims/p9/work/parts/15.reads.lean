/-! Methods that only read. -/
def el (x : Int32) : Int32 := if x < 0 then 0 else if 2047 < x then 0 else 1
def fl (x : Int32) : Int32 := if x < 4 then 0 else 1
set_option maxHeartbeats 4000000 in
set_option maxRecDepth 100000 in
theorem c_isEleven (l : Launch) (D : va_G) (cI cZ cN cJ : ClassId) (lo : Nat) (x : Int32) : hq_M l y_X_isEleven b_X_isEleven 1 (some .boolean) TB { frames := 0, cells := 0, slots := 0, locals := 0 } lo D vwCl (TY cI cZ cN cJ) [.int x] (fun _ => True) (fun H v H' => v = some (.int (el x)) ∧ H' = H) := by
  refine hq_ofW (by decide) (Nat.le_of_ble_eq_true rfl) ?_
  intro p e s m below meth c ls C hml hret hlk hnm hl hP
  have hL : hq_L lo [] := hq_L0
  have hl : lv_has ls 1 [(0, .int (x))] := hl
  refine lv_iload_n C.1 C.2.1 d_X_isEleven_0 rfl (lv_at hl 0 rfl) ?_
  refine lv_if_lt (tgt := 15) C.1 C.2.1 d_X_isEleven_1 (by decide) ?_ ?_
  · intro c0
    refine lv_iconst (v := 0) C.1 C.2.1 d_X_isEleven_15 (by decide) ?_
    exact hq_zret C hret hlk (by decide) (Nat.le_of_ble_eq_true rfl) (Nat.le_of_ble_eq_true rfl) hL ⟨by unfold el; rw [if_pos c0], rfl⟩ d_X_isEleven_16
  · intro c0
    refine lv_iload_n C.1 C.2.1 d_X_isEleven_4 rfl (lv_at hl 0 rfl) ?_
    refine lv_sipush (v := 2047) C.1 C.2.1 d_X_isEleven_5 (by decide) ?_
    refine lv_icmp_gt (tgt := 15) C.1 C.2.1 d_X_isEleven_8 (by decide) ?_ ?_
    · intro c1
      refine lv_iconst (v := 0) C.1 C.2.1 d_X_isEleven_15 (by decide) ?_
      exact hq_zret C hret hlk (by decide) (Nat.le_of_ble_eq_true rfl) (Nat.le_of_ble_eq_true rfl) hL ⟨by unfold el; rw [if_neg c0, if_pos c1], rfl⟩ d_X_isEleven_16
    · intro c1
      refine lv_iconst (v := 1) C.1 C.2.1 d_X_isEleven_11 (by decide) ?_
      refine lv_goto (tgt := 16) C.1 C.2.1 d_X_isEleven_12 (by decide) ?_
      exact hq_zret C hret hlk (by decide) (Nat.le_of_ble_eq_true rfl) (Nat.le_of_ble_eq_true rfl) hL ⟨by unfold el; rw [if_neg c0, if_neg c1], rfl⟩ d_X_isEleven_16
set_option maxHeartbeats 4000000 in
set_option maxRecDepth 100000 in
theorem c_checkBitTimes (l : Launch) (D : va_G) (cI cZ cN cJ : ClassId) (lo : Nat) (x : Int32) (h1 : ¬ x < 1) (h2 : x ≤ 200) : hq_M l y_X_checkBitTimes b_X_checkBitTimes 1 none TB { frames := 0, cells := 0, slots := 0, locals := 0 } lo D vwCl (TY cI cZ cN cJ) [.int x] (fun _ => True) (fun H v H' => v = none ∧ H' = H) := by
  refine hq_ofW (by decide) (Nat.le_of_ble_eq_true rfl) ?_
  intro p e s m below meth c ls C hml hret hlk hnm hl hP
  have hL : hq_L lo [] := hq_L0
  have hl : lv_has ls 1 [(0, .int (x))] := hl
  refine lv_iload_n C.1 C.2.1 d_X_checkBitTimes_0 rfl (lv_at hl 0 rfl) ?_
  refine lv_iconst (v := 1) C.1 C.2.1 d_X_checkBitTimes_1 (by decide) ?_
  refine lv_icmp_lt (tgt := 12) C.1 C.2.1 d_X_checkBitTimes_2 (by decide) (fun hn => absurd hn (h1)) (fun _ => ?_)
  refine lv_iload_n C.1 C.2.1 d_X_checkBitTimes_5 rfl (lv_at hl 0 rfl) ?_
  refine lv_sipush (v := 200) C.1 C.2.1 d_X_checkBitTimes_6 (by decide) ?_
  refine lv_icmp_le (tgt := 22) C.1 C.2.1 d_X_checkBitTimes_9 (by decide) (fun _ => ?_) (fun hn => absurd (h2) hn)
  exact hq_vret C hret hlk (Nat.le_of_ble_eq_true rfl) (Nat.le_of_ble_eq_true rfl) hL ⟨rfl, rfl⟩ d_X_checkBitTimes_22
set_option maxHeartbeats 4000000 in
set_option maxRecDepth 100000 in
theorem c_packed (l : Launch) (D : va_G) (cI cZ cN cJ : ClassId) (lo : Nat) (x y z : Int32) : hq_M l y_Fr_packed b_Fr_packed 3 (some .int) TB { frames := 0, cells := 0, slots := 0, locals := 0 } lo D vwCl (TY cI cZ cN cJ) [.int x, .int y, .int z] (fun _ => True) (fun H v H' => v = some (.int (x + 2048 * y + 8192 * z)) ∧ H' = H) := by
  refine hq_ofW (by decide) (Nat.le_of_ble_eq_true rfl) ?_
  intro p e s m below meth c ls C hml hret hlk hnm hl hP
  have hL : hq_L lo [] := hq_L0
  have hl : lv_has ls 3 [(0, .int (x)), (1, .int (y)), (2, .int (z))] := hl
  refine lv_iload_n C.1 C.2.1 d_Fr_packed_0 rfl (lv_at hl 0 rfl) ?_
  refine lv_sipush (v := 2048) C.1 C.2.1 d_Fr_packed_1 (by decide) ?_
  refine lv_iload_n C.1 C.2.1 d_Fr_packed_4 rfl (lv_at hl 1 rfl) ?_
  refine lv_imul C.1 C.2.1 d_Fr_packed_5 ?_
  refine lv_iadd C.1 C.2.1 d_Fr_packed_6 ?_
  refine lv_sipush (v := 8192) C.1 C.2.1 d_Fr_packed_7 (by decide) ?_
  refine lv_iload_n C.1 C.2.1 d_Fr_packed_10 rfl (lv_at hl 2 rfl) ?_
  refine lv_imul C.1 C.2.1 d_Fr_packed_11 ?_
  refine lv_iadd C.1 C.2.1 d_Fr_packed_12 ?_
  exact hq_iret C hret hlk (Nat.le_of_ble_eq_true rfl) (Nat.le_of_ble_eq_true rfl) hL ⟨rfl, rfl⟩ d_Fr_packed_13
set_option maxHeartbeats 4000000 in
set_option maxRecDepth 100000 in
theorem c_isFull (l : Launch) (D : va_G) (cI cZ cN cJ : ClassId) (lo : Nat) (b q : Nat) (z : Int32) : hq_M l y_Fr_isFull b_Fr_isFull 1 (some .boolean) TB { frames := 0, cells := 0, slots := 0, locals := 0 } lo D vwCl (TY cI cZ cN cJ) [.ref b] (fun U => va_at D vwCl (b, .inr (2, [.ref (q), .int (z)])) U.heap) (fun H v H' => v = some (.int (fl z)) ∧ H' = H) := by
  refine hq_ofW (by decide) (Nat.le_of_ble_eq_true rfl) ?_
  intro p e s m below meth c ls C hml hret hlk hnm hl hP
  have hL : hq_L lo [] := hq_L0
  have hl : lv_has ls 1 [(0, .ref (b))] := hl
  have k0 := hP
  refine lv_aload_n C.1 C.2.1 d_Fr_isFull_0 rfl (lv_at hl 0 rfl) ?_
  refine hq_get (v := .int (z)) C f_Fr_15 k0 rfl d_Fr_isFull_1 ?_
  refine lv_iconst (v := 4) C.1 C.2.1 d_Fr_isFull_4 (by decide) ?_
  refine lv_icmp_lt (tgt := 12) C.1 C.2.1 d_Fr_isFull_5 (by decide) ?_ ?_
  · intro c0
    refine lv_iconst (v := 0) C.1 C.2.1 d_Fr_isFull_12 (by decide) ?_
    exact hq_zret C hret hlk (by decide) (Nat.le_of_ble_eq_true rfl) (Nat.le_of_ble_eq_true rfl) hL ⟨by unfold fl; rw [if_pos c0], rfl⟩ d_Fr_isFull_13
  · intro c0
    refine lv_iconst (v := 1) C.1 C.2.1 d_Fr_isFull_8 (by decide) ?_
    refine lv_goto (tgt := 13) C.1 C.2.1 d_Fr_isFull_9 (by decide) ?_
    exact hq_zret C hret hlk (by decide) (Nat.le_of_ble_eq_true rfl) (Nat.le_of_ble_eq_true rfl) hL ⟨by unfold fl; rw [if_neg c0], rfl⟩ d_Fr_isFull_13
theorem fm_xor {a d : Nat} (ha : a < 2 ^ 31) (hd : d < 2 ^ 31) : (0 : Int32) ≤ nI a ^^^ nI d := by
  have h1 : (nI a ^^^ nI d).toBitVec.toNat < 2 ^ 31 := by
    show (nI a).toBitVec.toNat ^^^ (nI d).toBitVec.toNat < 2 ^ 31
    rw [pk_tn (by omega), pk_tn (by omega)]
    exact Nat.xor_lt_two_pow ha hd
  rw [Int32.le_iff_toInt_le]
  show (0 : Int) ≤ (nI a ^^^ nI d).toBitVec.toInt
  rw [BitVec.toInt_eq_toNat_cond]
  split <;> omega
/-- as hq_ofW, for a method whose class is no plain name but which the machine takes as code -/
theorem hq_ofWF {l : Launch} {D : va_G} {cl : List vw_C} {tys : List (ClassId × FieldType)} {lo : Nat} {TB : List Cond} {y : MethodName} {bytes : ByteArray} {maxL : Nat} {ret : Option FieldType} {rm : Room} {P : State → Prop} {Post : Heap → Option Value → Heap → Prop} (hy : plainFor y = true) {av : List Value} (hlen : (lg_sl av).length ≤ maxL)
    (body : ∀ (p : Program) (e : Env) (s : State) (m : MethodId) (below : List Frame) (meth : Method) (c : Code) (ls : Array Slot), hq_C p c s m av.toArray y.cls bytes TB D cl tys → c.maxLocals = maxL → meth.sig.returnType = ret → meth.locks = false → meth.name = y.name → lv_has ls maxL (lv_args 0 av) → P s →
      W p l e rm s m av.toArray below meth c s.heap [] 0 0 (MQ below (hq_Q Post) av.toArray s rm.cells rm.slots (fun q => lo ≤ q)) (F0 m 0 ls [])) :
    hq_M l y bytes maxL ret TB rm lo D cl tys av P Post := by
  refine va_MetF (cc := bytes) (maxL := maxL) (ret := ret) hy rfl ?_
  intro p e s m args below meth c s₁ B hml hv
  obtain ⟨rfl, hK, hP⟩ := hv
  rw [lg_entry_eq]
  exact body p e s m below meth c _ ⟨B.exec, B.bytes, findClass_of_methodNamed B.named, fun w hw => atoms_spec (ws := Cond.code y bytes maxL ret :: TB) B.pre w (List.mem_cons_of_mem _ hw), hK⟩ hml B.returns B.notSynchronized (name_of_methodNamed B.named B.method).1 (lv_entry av hlen) hP
set_option maxHeartbeats 4000000 in
set_option maxRecDepth 100000 in
theorem c_floorMod (l : Launch) (D : va_G) (cI cZ cN cJ : ClassId) (lo : Nat) (a d : Nat) (ha : a < 2 ^ 31) (hd0 : 0 < d) (hd : d < 2 ^ 31) : hq_M l y_Ma_floorMod b_Ma_floorMod 3 (some .int) TB { frames := 0, cells := 0, slots := 0, locals := 0 } lo D vwCl (TY cI cZ cN cJ) [.int (nI a), .int (nI d)] (fun _ => True) (fun H v H' => v = some (.int (nI (a % d))) ∧ H' = H) := by
  refine hq_ofWF (by decide +kernel) (Nat.le_of_ble_eq_true rfl) ?_
  intro p e s m below meth c ls C hml hret hlk hnm hl hP
  have hL : hq_L lo [] := hq_L0
  have hl : lv_has ls 3 [(0, .int (nI a)), (1, .int (nI d))] := hl
  refine lv_iload_n C.1 C.2.1 d_Ma_floorMod_0 rfl (lv_at hl 0 rfl) ?_
  refine lv_iload_n C.1 C.2.1 d_Ma_floorMod_1 rfl (lv_at hl 1 rfl) ?_
  refine lv_irem C.1 C.2.1 d_Ma_floorMod_2 (nI_ne0 hd0 hd) ?_
  rw [pk_rem ha hd0 hd]
  refine lv_istore_n C.1 C.2.1 d_Ma_floorMod_3 rfl hl (by decide) rfl (lv' := [(2, .int (nI (a % d))), (0, .int (nI a)), (1, .int (nI d))]) (fun ls hl => ?_)
  refine lv_iload_n C.1 C.2.1 d_Ma_floorMod_4 rfl (lv_at hl 1 rfl) ?_
  refine lv_iload_n C.1 C.2.1 d_Ma_floorMod_5 rfl (lv_at hl 2 rfl) ?_
  refine lv_ixor C.1 C.2.1 d_Ma_floorMod_6 ?_
  refine lv_if_ge (tgt := 18) C.1 C.2.1 d_Ma_floorMod_7 (by decide) (fun _ => ?_) (fun hn => absurd (fm_xor ha hd) hn)
  refine lv_iload_n C.1 C.2.1 d_Ma_floorMod_18 rfl (lv_at hl 0 rfl) ?_
  exact hq_iret C hret hlk (Nat.le_of_ble_eq_true rfl) (Nat.le_of_ble_eq_true rfl) hL ⟨rfl, rfl⟩ d_Ma_floorMod_19
set_option maxHeartbeats 4000000 in
set_option maxRecDepth 100000 in
theorem c_nodeOf (l : Launch) (D : va_G) (cI cZ cN cJ : ClassId) (lo : Nat) (x n j : Nat) (N : Nat → Nat → Int32) (R : Nat → Nat → Nat → Int32) (lev tot : Nat → Int32) (hn : n ≤ 4) (hj : j < n) : hq_M l y_X_nodeOf b_X_nodeOf 2 (some (.object "StrongBus$Node")) TB { frames := 0, cells := 0, slots := 0, locals := 0 } lo D vwCl (TY cI cZ cN cJ) [.ref x, .int (nI j)] (fun U => busP D cI cZ cN x n N R lev tot U.heap) (fun H v H' => v = some (.ref (x + 4 + 10 * j)) ∧ H' = H) := by
  refine hq_ofW (by decide) (Nat.le_of_ble_eq_true rfl) ?_
  intro p e s m below meth c ls C hml hret hlk hnm hl hP
  obtain ⟨kB, kN⟩ := hP
  have hL : hq_L lo [] := hq_L0
  have hl : lv_has ls 2 [(0, .ref (x)), (1, .int (nI j))] := hl
  have k0 : va_at D vwCl (x, .inr (5, [.ref (x + 3), .ref (x + 1), .ref (x + 2)])) s.heap := kB 0 (by decide)
  have k3 : va_at D vwCl (x + 3, .inl (cN, n, .inr (.inr (.inr (.inr (nref x n)))))) s.heap := kB 3 (by decide)
  refine lv_iload_n C.1 C.2.1 d_X_nodeOf_0 rfl (lv_at hl 1 rfl) ?_
  refine lv_if_lt (tgt := 13) C.1 C.2.1 d_X_nodeOf_1 (by decide) (fun hn => absurd hn (nI_pos (by omega))) (fun _ => ?_)
  refine lv_iload_n C.1 C.2.1 d_X_nodeOf_4 rfl (lv_at hl 1 rfl) ?_
  refine lv_aload_n C.1 C.2.1 d_X_nodeOf_5 rfl (lv_at hl 0 rfl) ?_
  refine hq_get (v := .ref (x + 3)) C f_X_27 k0 rfl d_X_nodeOf_6 ?_
  refine hq_alen C 2 rfl k3 (v := nI n) rfl d_X_nodeOf_9 ?_
  refine lv_icmp_lt (tgt := 23) C.1 C.2.1 d_X_nodeOf_10 (by decide) (fun _ => ?_) (fun hn => absurd (nI_lt hj (by omega)) hn)
  refine lv_aload_n C.1 C.2.1 d_X_nodeOf_23 rfl (lv_at hl 0 rfl) ?_
  refine hq_get (v := .ref (x + 3)) C f_X_27 k0 rfl d_X_nodeOf_24 ?_
  refine lv_iload_n C.1 C.2.1 d_X_nodeOf_27 rfl (lv_at hl 1 rfl) ?_
  refine hq_aald C 2 (Cn := "StrongBus$Node") rfl k3 (vp_in_nI hj (by omega)) (q := x + 4 + 10 * j) (by rw [nI_clamp (by omega)]; unfold nref; rw [if_pos hj]) d_X_nodeOf_28 ?_
  exact hq_aret C hret (Or.inl ⟨_, rfl⟩) hlk (Nat.le_of_ble_eq_true rfl) (Nat.le_of_ble_eq_true rfl) hL ⟨rfl, rfl⟩ d_X_nodeOf_29
