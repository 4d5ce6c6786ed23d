/-- what a throw needs of the state: two statics of Throwable, the words that aren't stable by themselves, the texts -/
def exS : List (Nat × String) := [(122, "no such node"), (42, "no such frame"), (63, "the node is off, or 4 frames wait"), (77, "mask or value is not 0 .. 2047"), (124, "not 1 .. 200 bit times"), (112, "no such number of a node"), (114, "the inbox is empty"), (120, "no such total")]
def hq_E (lo : Nat) (U : State) : Prop :=
  vx_Zq Bundle.tN "UNASSIGNED_STACK" Bundle.steD (fun q => lo ≤ q) U U.heap ∧ vx_Zq Bundle.tN "SUPPRESSED_SENTINEL" Bundle.listD (fun q => lo ≤ q) U U.heap ∧
  va_Nw (.declares (Bundle.initS "java/lang/RuntimeException")) U ∧ va_Nw (.declares (Bundle.initS "java/lang/Exception")) U ∧ va_Nw (.declares (Bundle.initS Bundle.tN)) U ∧ va_Nw (.castable "java/lang/IllegalArgumentException" "java/lang/IllegalArgumentException") U ∧ va_Nw (.castable "java/lang/IllegalStateException" "java/lang/IllegalStateException") U ∧ ∀ q ∈ exS, ∃ a, vk_R R_X q.1 q.2 a U
theorem hq_E.move {lo : Nat} {s U : State} (h : hq_E lo s) (hW : s.WarmedH U.vm) (hO : hq_O lo s.heap U.heap) : hq_E lo U := by
  obtain ⟨h1, h2, h3, h4, h5, h6, h7, h8⟩ := h
  refine ⟨vx_Zq.moved hW.alike (h1.kept fun a _ ha => hO a (Nat.not_le.mp ha)), vx_Zq.moved hW.alike (h2.kept fun a _ ha => hO a (Nat.not_le.mp ha)), va_Nw.warmD hW h3, va_Nw.warmD hW h4, va_Nw.warmD hW h5, va_Nw.warmC hW h6, va_Nw.warmC hW h7, fun q hq => ?_⟩
  obtain ⟨a, ha⟩ := h8 q hq
  exact ⟨a, ha.warm hW⟩
theorem hq_E.call {lo : Nat} {a : Array Value} {U : State} {g : JFrame} {mk : MethodId} (h : hq_E lo U) : hq_E lo (U.calling g mk a) := by
  obtain ⟨h1, h2, h3, h4, h5, h6, h7, h8⟩ := h
  have hv : U.vm = (U.calling g mk a).vm := rfl
  refine ⟨vx_Zq.moved (U := U.calling g mk a) (Vm.Alike.refl U.vm) h1, vx_Zq.moved (U := U.calling g mk a) (Vm.Alike.refl U.vm) h2, va_Nw.same rfl hv h3, va_Nw.same rfl hv h4, va_Nw.same rfl hv h5, va_Nw.same rfl hv h6, va_Nw.same rfl hv h7, fun q hq => ?_⟩
  obtain ⟨b, hb⟩ := h8 q hq
  exact ⟨b, hb.same hv.symm⟩
theorem ex_all {lo : Nat} {s : State} {args : Array Value} {L : List Cond} (hts : ∀ w ∈ TB, w.before args s = true) (hE : hq_E lo s) (hg : ∀ w ∈ L.filter goodWord, w ∈ TB) (hb : ∀ w ∈ L.filter (fun w => !goodWord w), w ∈ exBad) : ∀ w ∈ L, w.before args s = true := by
  intro w hw
  obtain ⟨h1, h2, h3, h4, h5, h6, h7, -⟩ := hE
  cases g : goodWord w with
  | true => exact hts w (hg w (List.mem_filter.mpr ⟨hw, g⟩))
  | false =>
    have h := hb w (List.mem_filter.mpr ⟨hw, by rw [g]; rfl⟩)
    simp only [exBad, List.mem_cons, List.not_mem_nil, or_false] at h
    rcases h with rfl | rfl | rfl | rfl | rfl | rfl | rfl | rfl | rfl
    · exact va_Nw.use rfl h3
    · exact va_Nw.use rfl h4
    · exact va_Nw.use rfl h5
    · exact va_Nw.use rfl h6
    · exact va_Nw.use rfl h7
    · exact vx_isRefq h1.1
    · exact vx_isRefq h2.1
    · exact vx_L.word h1.2
    · exact vx_L.word h2.2
set_option maxRecDepth 100000 in
theorem ex_wA : Cond.classLink R_X 40 "java/lang/IllegalArgumentException" ∈ TB ∧ Cond.instantiable "java/lang/IllegalArgumentException" 6 ∈ TB ∧ Cond.initialized "java/lang/IllegalArgumentException" ∈ TB := ⟨by decide +kernel, by decide +kernel, by decide +kernel⟩
set_option maxRecDepth 100000 in
theorem ex_wS : Cond.classLink R_X 61 "java/lang/IllegalStateException" ∈ TB ∧ Cond.instantiable "java/lang/IllegalStateException" 6 ∈ TB ∧ Cond.initialized "java/lang/IllegalStateException" ∈ TB := ⟨by decide +kernel, by decide +kernel, by decide +kernel⟩
/-- new E; dup; ldc; E.<init>(String); athrow, where nothing has been written -/
theorem hq_throw {p : Program} {l : Launch} {e : Env} {R : Room} {s : State} {m : MethodId} {args : Array Value} {below : List Frame} {meth : Method} {c : Code} {cc : ByteArray} {pc : Nat} {ls : Array Slot} {rest : List Value} {D : va_G} {cl : List vw_C} {tys : List (ClassId × FieldType)} {E : String} {lo ik ic is mc ms : Nat} {tx : String}
    (C : hq_C p c s m args R_X cc TB D cl tys) (htr : l.stackTraces = false) (hE : hq_E lo s) (hw : Cond.classLink R_X ik E ∈ TB ∧ Cond.instantiable E 6 ∈ TB ∧ Cond.initialized E ∈ TB) (hg : ∀ w ∈ (Bundle.ownAtoms R_X ic E exN).filter goodWord, w ∈ TB) (hb : ∀ w ∈ (Bundle.ownAtoms R_X ic E exN).filter (fun w => !goodWord w), w ∈ exBad) (hfit : Bundle.fit E = true) (hs : (is, tx) ∈ exS) (hml : c.maxLocals = ls.size)
    (d0 : decode cc pc = .ok (.new ik, 3)) (d3 : decode cc (pc + 3) = .ok (.dup, 1)) (d4 : decode cc (pc + 3 + 1) = .ok (.ldc is, 2)) (d6 : decode cc (pc + 3 + 1 + 2) = .ok (.invokespecial ic, 3)) (d9 : decode cc (pc + 3 + 1 + 2 + 3) = .ok (.athrow, 1))
    (hout : ∀ x ∈ c.exceptionTable.toList, ∀ k, covers x k = false) (hlk : meth.locks = false) (hRf : 6 ≤ R.frames) (hRc : 1 ≤ R.cells) (hRs : 6 ≤ R.slots) (hRl : (rest.map fun v => v.category).sum + 82 ≤ R.locals) (hc : 1 ≤ mc) (hms : 6 ≤ ms) :
    W p l e R s m args below meth c s.heap [] 0 0 (hq_TQ below E s mc ms) (F0 m pc ls rest) := by
  refine W.newc C.1 C.2.1 C.2.2.1 (C.2.2.2.1 _ hw.1) (C.2.2.2.1 _ hw.2.1) (C.2.2.2.1 _ hw.2.2) rfl d0 (by omega) (by omega) (fun cC kC h1 h2 h3 h4 => ?_)
  refine W.eq (g2 := F0 m (pc + 3) ls (.ref s.heap.size :: rest)) rfl ?_
  refine lv_dup C.1 C.2.1 d3 rfl ?_
  obtain ⟨msg, hmsg⟩ := hE.2.2.2.2.2.2.2 (is, tx) hs
  refine va_ldcS C.1 C.2.1 C.2.2.1 hmsg d4 ?_
  refine hq_ctor C htr hfit (by decide +kernel) (ex_all C.2.2.2.1 hE hg hb) h1 h2 (a := s.heap.size) (by simp [freshCell]) (Nat.le_refl _) hml.symm d6 d9 hout hlk (by show 2 + 3 < R.frames; omega) ?_ (by omega) (by omega)
  show 1 + (rest.map fun v => v.category).sum + (13 * (2 + 1) + 42) ≤ R.locals
  omega
set_option maxHeartbeats 4000000 in
set_option maxRecDepth 100000 in
theorem t_checkBitTimes (l : Launch) (D : va_G) (cI cZ cN cJ : ClassId) (lo : Nat) (htr : l.stackTraces = false) (v : Int32) (hb : v < 1 ∨ ¬ v ≤ 200) : hq_T l y_X_checkBitTimes b_X_checkBitTimes 1 none TB { frames := 6, cells := 1, slots := 6, locals := 100 } D vwCl (TY cI cZ cN cJ) [.int (v)] (fun U => hq_E lo U) "java/lang/IllegalArgumentException" := by
  refine hq_ofT (by decide) (Nat.le_of_ble_eq_true rfl) ?_
  intro p e s m below meth c ls C hml hlk hout hl hP
  have hE := hP
  have hl : lv_has ls 1 [(0, .int (v))] := hl
  refine lv_iload_n C.1 C.2.1 d_X_checkBitTimes_0 rfl (lv_at hl 0 rfl) ?_
  refine lv_iconst (v := 1) C.1 C.2.1 d_X_checkBitTimes_1 (by decide) ?_
  refine lv_icmp_lt (tgt := 12) C.1 C.2.1 d_X_checkBitTimes_2 (by decide) ?_ ?_
  · intro c0
    exact hq_throw C htr hE ex_wA ex_goodA ex_badA (by decide +kernel) (is := 124) (tx := "not 1 .. 200 bit times") (by decide +kernel) (hml.trans hl.1.symm) d_X_checkBitTimes_12 d_X_checkBitTimes_15 d_X_checkBitTimes_16 d_X_checkBitTimes_18 d_X_checkBitTimes_21 hout hlk (Nat.le_of_ble_eq_true rfl) (Nat.le_of_ble_eq_true rfl) (Nat.le_of_ble_eq_true rfl) (Nat.le_of_ble_eq_true rfl) (Nat.le_of_ble_eq_true rfl) (Nat.le_of_ble_eq_true rfl)
  · intro c0
    refine lv_iload_n C.1 C.2.1 d_X_checkBitTimes_5 rfl (lv_at hl 0 rfl) ?_
    refine lv_sipush (v := 200) C.1 C.2.1 d_X_checkBitTimes_6 (by decide) ?_
    refine lv_icmp_le (tgt := 22) C.1 C.2.1 d_X_checkBitTimes_9 (by decide) (fun hn => absurd hn (fun h9 => hb.elim c0 (fun z => z h9))) (fun _ => ?_)
    exact hq_throw C htr hE ex_wA ex_goodA ex_badA (by decide +kernel) (is := 124) (tx := "not 1 .. 200 bit times") (by decide +kernel) (hml.trans hl.1.symm) d_X_checkBitTimes_12 d_X_checkBitTimes_15 d_X_checkBitTimes_16 d_X_checkBitTimes_18 d_X_checkBitTimes_21 hout hlk (Nat.le_of_ble_eq_true rfl) (Nat.le_of_ble_eq_true rfl) (Nat.le_of_ble_eq_true rfl) (Nat.le_of_ble_eq_true rfl) (Nat.le_of_ble_eq_true rfl) (Nat.le_of_ble_eq_true rfl)
set_option maxHeartbeats 4000000 in
set_option maxRecDepth 100000 in
theorem t_nodeOf (l : Launch) (D : va_G) (cI cZ cN cJ : ClassId) (lo : Nat) (htr : l.stackTraces = false) (x n : Nat) (N : Nat → Nat → Int32) (R : Nat → Nat → Nat → Int32) (lev tot : Nat → Int32) (v : Int32) (hb : v < 0 ∨ ¬ v < nI n) : hq_T l y_X_nodeOf b_X_nodeOf 2 (some (.object "StrongBus$Node")) TB { frames := 6, cells := 1, slots := 6, locals := 100 } D vwCl (TY cI cZ cN cJ) [.ref (x), .int (v)] (fun U => hq_E lo U ∧ busP D cI cZ cN x n N R lev tot U.heap) "java/lang/IllegalArgumentException" := by
  refine hq_ofT (by decide) (Nat.le_of_ble_eq_true rfl) ?_
  intro p e s m below meth c ls C hml hlk hout hl hP
  obtain ⟨hE, kB, kN⟩ := hP
  have hl : lv_has ls 2 [(0, .ref (x)), (1, .int (v))] := hl
  have k0 : va_at D vwCl (x, .inr (5, [.ref (x + 3), .ref (x + 1), .ref (x + 2)])) s.heap := kB 0 (by decide)
  have k3 : va_at D vwCl (x + 3, .inl (cN, n, .inr (.inr (.inr (.inr (nref x n)))))) s.heap := kB 3 (by decide)
  refine lv_iload_n C.1 C.2.1 d_X_nodeOf_0 rfl (lv_at hl 1 rfl) ?_
  refine lv_if_lt (tgt := 13) C.1 C.2.1 d_X_nodeOf_1 (by decide) ?_ ?_
  · intro c0
    exact hq_throw C htr hE ex_wA ex_goodA ex_badA (by decide +kernel) (is := 122) (tx := "no such node") (by decide +kernel) (hml.trans hl.1.symm) d_X_nodeOf_13 d_X_nodeOf_16 d_X_nodeOf_17 d_X_nodeOf_19 d_X_nodeOf_22 hout hlk (Nat.le_of_ble_eq_true rfl) (Nat.le_of_ble_eq_true rfl) (Nat.le_of_ble_eq_true rfl) (Nat.le_of_ble_eq_true rfl) (Nat.le_of_ble_eq_true rfl) (Nat.le_of_ble_eq_true rfl)
  · intro c0
    refine lv_iload_n C.1 C.2.1 d_X_nodeOf_4 rfl (lv_at hl 1 rfl) ?_
    refine lv_aload_n C.1 C.2.1 d_X_nodeOf_5 rfl (lv_at hl 0 rfl) ?_
    refine hq_get (v := .ref (x + 3)) C f_X_27 k0 rfl d_X_nodeOf_6 ?_
    refine hq_alen C 2 rfl k3 (v := nI n) rfl d_X_nodeOf_9 ?_
    refine lv_icmp_lt (tgt := 23) C.1 C.2.1 d_X_nodeOf_10 (by decide) (fun hn => absurd hn (fun h9 => hb.elim c0 (fun z => z h9))) (fun _ => ?_)
    exact hq_throw C htr hE ex_wA ex_goodA ex_badA (by decide +kernel) (is := 122) (tx := "no such node") (by decide +kernel) (hml.trans hl.1.symm) d_X_nodeOf_13 d_X_nodeOf_16 d_X_nodeOf_17 d_X_nodeOf_19 d_X_nodeOf_22 hout hlk (Nat.le_of_ble_eq_true rfl) (Nat.le_of_ble_eq_true rfl) (Nat.le_of_ble_eq_true rfl) (Nat.le_of_ble_eq_true rfl) (Nat.le_of_ble_eq_true rfl) (Nat.le_of_ble_eq_true rfl)
