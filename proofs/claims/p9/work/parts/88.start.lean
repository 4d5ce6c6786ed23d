/-! What holds where the law is entered; and the claim. -/
set_option maxRecDepth 100000 in
theorem st_str1 : ∀ q ∈ exS, Cond.stringRef R_X q.1 q.2 ∈ lw_tbl := by decide +kernel
set_option maxRecDepth 100000 in
theorem st_str2 : ∀ q ∈ exS, Cond.exactly (.string R_X q.1) "java/lang/String" ∈ flatC (Jvm.Cond.and given_1 narrow_1) := by decide +kernel
set_option maxRecDepth 100000 in
theorem st_ref : Cond.isRef (.static Bundle.tN "UNASSIGNED_STACK" Bundle.steD) ∈ flatC (Jvm.Cond.and given_1 narrow_1) ∧ Cond.isRef (.static Bundle.tN "SUPPRESSED_SENTINEL" Bundle.listD) ∈ flatC (Jvm.Cond.and given_1 narrow_1) ∧ Cond.not (.castable "java/lang/IllegalStateException" "java/lang/IllegalArgumentException") ∈ flatC (Jvm.Cond.and given_1 narrow_1) := by decide +kernel
set_option maxRecDepth 100000 in
theorem st_w : Cond.laysStatic Bundle.tN "UNASSIGNED_STACK" Bundle.steD ∈ lw_tbl ∧ Cond.laysStatic Bundle.tN "SUPPRESSED_SENTINEL" Bundle.listD ∈ lw_tbl ∧ Cond.initialized Bundle.tN ∈ lw_tbl ∧ Cond.declares (Bundle.initS "java/lang/RuntimeException") ∈ lw_tbl ∧ Cond.declares (Bundle.initS "java/lang/Exception") ∈ lw_tbl ∧ Cond.declares (Bundle.initS Bundle.tN) ∈ lw_tbl ∧ Cond.castable "java/lang/IllegalArgumentException" "java/lang/IllegalArgumentException" ∈ lw_tbl ∧ Cond.castable "java/lang/IllegalStateException" "java/lang/IllegalStateException" ∈ lw_tbl := by decide +kernel
set_option maxRecDepth 100000 in
theorem st_n : Cond.methodLinkNest R_No 11 y_Fr_init R_X ∈ lw_tbl ∧ Cond.methodLinkNest R_No 23 y_Di_init R_X ∈ lw_tbl ∧ Cond.methodLinkNest R_No 30 y_Co_init R_X ∈ lw_tbl ∧ Cond.methodLinkNest R_No 37 y_Re_init R_X ∈ lw_tbl ∧ Cond.methodLinkNest R_X 31 y_No_init R_X ∈ lw_tbl := by decide +kernel
set_option maxRecDepth 100000 in
theorem st_a : Cond.arrayClass .int ∈ lw_tbl ∧ Cond.arrayClass .boolean ∈ lw_tbl ∧ Cond.arrayClass .long ∈ lw_tbl ∧ Cond.arrayOver (.object "StrongBus$Node") ∈ lw_tbl := by decide +kernel
set_option maxRecDepth 100000 in
theorem st_iCo : Cond.instantiable R_Co 3 ∈ TB := by decide +kernel
set_option maxRecDepth 100000 in
theorem st_iDi : Cond.instantiable R_Di 2 ∈ TB := by decide +kernel
set_option maxRecDepth 100000 in
theorem st_iFr : Cond.instantiable R_Fr 2 ∈ TB := by decide +kernel
set_option maxRecDepth 100000 in
theorem st_iNo : Cond.instantiable R_No 18 ∈ TB := by decide +kernel
set_option maxRecDepth 100000 in
theorem st_iRe : Cond.instantiable R_Re 8 ∈ TB := by decide +kernel
set_option maxRecDepth 100000 in
theorem st_iX : Cond.instantiable R_X 3 ∈ TB := by decide +kernel
set_option maxRecDepth 100000 in
theorem st_iM : Cond.instantiable R_M 32 ∈ TB := by decide +kernel
theorem st_K {s : State} {A : Array Value} (hTB : ∀ w ∈ TB, w.before A s = true) (hts : ∀ w ∈ lw_tbl, w.before A s = true) : ∃ (D : va_G) (cI cZ cN cJ : ClassId), va_K D vwCl (TY cI cZ cN cJ) s := by
  have hcls : ∀ (c : Nat) (q : vw_C), vwCl[c]? = some q → ∃ (cC : ClassId) (iS : Nat → Nat), u_Kn s q.1 q.2.1 q.2.2 cC iS := by
    intro c q hq
    match c, hq with
    | 0, hq => have h9 := Option.some.inj (show some (R_Co, T_Co, 3) = some q from hq); subst h9; exact u_known hTB k_Co.2.1 (hTB _ st_iCo)
    | 1, hq => have h9 := Option.some.inj (show some (R_Di, T_Di, 2) = some q from hq); subst h9; exact u_known hTB k_Di.2.1 (hTB _ st_iDi)
    | 2, hq => have h9 := Option.some.inj (show some (R_Fr, T_Fr, 2) = some q from hq); subst h9; exact u_known hTB k_Fr.2.1 (hTB _ st_iFr)
    | 3, hq => have h9 := Option.some.inj (show some (R_No, T_No, 18) = some q from hq); subst h9; exact u_known hTB k_No.2.1 (hTB _ st_iNo)
    | 4, hq => have h9 := Option.some.inj (show some (R_Re, T_Re, 8) = some q from hq); subst h9; exact u_known hTB k_Re.2.1 (hTB _ st_iRe)
    | 5, hq => have h9 := Option.some.inj (show some (R_X, T_X, 3) = some q from hq); subst h9; exact u_known hTB k_X.2.1 (hTB _ st_iX)
    | 6, hq => have h9 := Option.some.inj (show some (R_M, T_M, 32) = some q from hq); subst h9; exact u_known hTB k_M.2.1 (hTB _ st_iM)
    | c + 7, hq => exact absurd (show (none : Option vw_C) = some q from hq) (by simp)
  obtain ⟨D, hD⟩ := hq_cls hcls
  obtain ⟨cI, hI⟩ := hq_arrI (hts _ st_a.1)
  obtain ⟨cZ, hZ⟩ := hq_arrZ (hts _ st_a.2.1)
  obtain ⟨cJ, hJ⟩ := hq_arrJ (hts _ st_a.2.2.1)
  obtain ⟨cN, hN⟩ := hq_arrQ (hts _ st_a.2.2.2)
  refine ⟨D, cI, cZ, cN, cJ, hD, fun k q hk => ?_⟩
  match k, hk with
  | 0, hk => have h9 := Option.some.inj (show some (cI, FieldType.int) = some q from hk); subst h9; exact hI
  | 1, hk => have h9 := Option.some.inj (show some (cZ, FieldType.boolean) = some q from hk); subst h9; exact hZ
  | 2, hk => have h9 := Option.some.inj (show some (cN, FieldType.object "StrongBus$Node") = some q from hk); subst h9; exact hN
  | 3, hk => have h9 := Option.some.inj (show some (cJ, FieldType.long) = some q from hk); subst h9; exact hJ
  | k + 4, hk => exact absurd (show (none : Option (ClassId × FieldType)) = some q from hk) (by simp)
theorem st_E {s : State} {A : Array Value} (hts : ∀ w ∈ lw_tbl, w.before A s = true) (hf : ∀ w ∈ flatC (Jvm.Cond.and given_1 narrow_1), w.before A s = true) : hq_E s.heap.size s := by
  refine ⟨vx_Zqof (hts _ st_w.1) (hts _ st_w.2.2.1) (hf _ st_ref.1) (fun a ha => Nat.not_le.mpr ha), vx_Zqof (hts _ st_w.2.1) (hts _ st_w.2.2.1) (hf _ st_ref.2.1) (fun a ha => Nat.not_le.mpr ha), va_Nw.of rfl (hts _ st_w.2.2.2.1), va_Nw.of rfl (hts _ st_w.2.2.2.2.1), va_Nw.of rfl (hts _ st_w.2.2.2.2.2.1), va_Nw.of rfl (hts _ st_w.2.2.2.2.2.2.1), va_Nw.of rfl (hts _ st_w.2.2.2.2.2.2.2), fun q hq => ?_⟩
  obtain ⟨a, c, cell, k, h3, -⟩ := Cond.exactly_spec (hf _ (st_str2 q hq))
  exact ⟨a, vk_R.of (hts _ (st_str1 q hq)) h3⟩
theorem whole_start {p : Program} {e : Env} {s : State} {m : MethodId} {below : List Frame} {meth : Method} {c : Code} (l : Launch) (htr : l.stackTraces = false) {b L : Nat} {xs : Nat → Int32} (hL : L ≤ 2561) (C0 : lw_At p s m meth c b L xs) : W p l e room_1 s m #[Value.ref b] below meth c s.heap [] 0 0 (lw_Z below #[Value.ref b] s) (entryFrame m ([Value.ref b] : List Value).toArray 7) := by
  obtain ⟨hx, hb, hr, hml, hown, hts, hX, hbl, hlk, hgv⟩ := C0
  have hf := flat_of_before _ hgv
  have hTB : ∀ w ∈ TB, w.before #[Value.ref b] s = true := fun w hw => hts w (List.mem_filter.mp hw).1
  obtain ⟨D, cI, cZ, cN, cJ, hK⟩ := st_K hTB hts
  rw [lg_entry_eq]
  exact l_begin (C := (⟨hx, hb, hown, hTB, hK⟩ : hq_C p c s m #[Value.ref b] R_L code TB D vwCl (TY cI cZ cN cJ))) hml hr hlk rfl hX hL hbl (lv_entry [Value.ref b] (Nat.le_of_ble_eq_true rfl)) htr (st_E hts hf) (va_Nc.of (hf _ st_ref.2.2)) ⟨va_Nw.of rfl (hts _ st_n.1), va_Nw.of rfl (hts _ st_n.2.1), va_Nw.of rfl (hts _ st_n.2.2.1), va_Nw.of rfl (hts _ st_n.2.2.2.1), va_Nw.of rfl (hts _ st_n.2.2.2.2)⟩ (va_AO.of (hts _ st_a.2.2.2))
