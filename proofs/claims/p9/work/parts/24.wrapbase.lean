/-! Methods with a table of handlers, and the script's own array. -/
def hq_MW (l : Launch) (y : MethodName) (bytes : ByteArray) (maxL : Nat) (ret : Option FieldType) (hh : List (Nat × Nat × Nat × Nat)) (TB : List Cond) (rm : Room) (lo : Nat) (D : va_G) (cl : List vw_C) (tys : List (ClassId × FieldType)) (av : List Value) (P : State → Prop) (Post : Heap → Option Value → Heap → Prop) : Prop :=
  Met l y (Cond.codeWith y bytes maxL ret hh :: TB) rm (va_Pc av (fun U => va_K D cl tys U ∧ P U)) (hq_Q Post) rm.cells rm.slots (fun q => lo ≤ q)
def hq_YW (TB : List Cond) (own : String) (index : Nat) (y : MethodName) (bytes : ByteArray) (maxL : Nat) (ret : Option FieldType) (hh : List (Nat × Nat × Nat × Nat)) (n : Nat) : Prop :=
  Cond.codeWith y bytes maxL ret hh ∈ TB ∧ Cond.methodLink own index y ∈ TB ∧ Cond.initialized y.cls ∈ TB ∧ Cond.static y ∈ TB ∧ y.cls ≠ "java/lang/invoke/MethodHandle" ∧ y.cls ≠ "java/lang/invoke/VarHandle" ∧ (parseMethodDescriptor y.desc).map (fun d => d.parameters.length) = some n
theorem hq_tab1 {L : List ExceptionTableEntry} {a b h t : Nat} (e : L.map (fun x => (x.startPc, x.endPc, x.handlerPc, x.catchType)) = [(a, b, h, t)]) : ∃ x, L = [] ++ x :: [] ∧ x.startPc = a ∧ x.endPc = b ∧ x.handlerPc = h ∧ x.catchType = t := by
  match L, e with
  | [x], e =>
    simp only [List.map_cons, List.map_nil, List.cons.injEq, Prod.mk.injEq, and_true] at e
    exact ⟨x, rfl, e⟩
theorem hq_tab2 {L : List ExceptionTableEntry} {a b h t a' b' h' t' : Nat} (e : L.map (fun x => (x.startPc, x.endPc, x.handlerPc, x.catchType)) = [(a, b, h, t), (a', b', h', t')]) : ∃ x y, L = [x, y] ∧ (x.startPc = a ∧ x.endPc = b ∧ x.handlerPc = h ∧ x.catchType = t) ∧ y.startPc = a' ∧ y.endPc = b' ∧ y.handlerPc = h' ∧ y.catchType = t' := by
  match L, e with
  | [x, y], e =>
    simp only [List.map_cons, List.map_nil, List.cons.injEq, Prod.mk.injEq, and_true] at e
    exact ⟨x, y, rfl, e⟩
section HQW
variable {p : Program} {l : Launch} {e : Env} {R : Room} {s : State} {m : MethodId} {args : Array Value} {below : List Frame} {meth : Method} {c : Code} {H : Heap} {locs : List Loc} {cells slots : Nat} {Q : State → Prop}
variable {cc : ByteArray} {pc : Nat} {ls : Array Slot} {rest st0 : List Value} {D : va_G} {cl : List vw_C} {lo nL : Nat} {tys : List (ClassId × FieldType)} {own : String} {TB : List Cond}
variable {index : Nat} {y : MethodName} {bytes : ByteArray} {maxL n : Nat} {ret : Option FieldType} {hh : List (Nat × Nat × Nat × Nat)} {rm : Room} {As : List Value} {P : State → Prop} {Post : Heap → Option Value → Heap → Prop}
theorem hq_ofWW (hy : plainName y.cls = true) {av : List Value} (hlen : (lg_sl av).length ≤ maxL)
    (body : ∀ (p : Program) (e : Env) (s : State) (m : MethodId) (below : List Frame) (meth : Method) (c : Code) (ls : Array Slot), hq_C p c s m av.toArray y.cls bytes TB D cl tys → c.maxLocals = maxL → meth.sig.returnType = ret → meth.locks = false → c.exceptionTable.toList.map (fun x => (x.startPc, x.endPc, x.handlerPc, x.catchType)) = hh → lv_has ls maxL (lv_args 0 av) → P s →
      W p l e rm s m av.toArray below meth c s.heap [] 0 0 (MQ below (hq_Q Post) av.toArray s rm.cells rm.slots (fun q => lo ≤ q)) (F0 m 0 ls [])) :
    hq_MW l y bytes maxL ret hh TB rm lo D cl tys av P Post := by
  refine va_MetW (cc := bytes) (maxL := maxL) (ret := ret) (hh := hh) hy rfl ?_
  intro p e s m args below meth c s₁ B hml hv
  obtain ⟨rfl, hK, hP⟩ := hv
  have hts := atoms_spec (ws := Cond.codeWith y bytes maxL ret hh :: TB) B.pre
  obtain ⟨m9, meth9, c9, hn9, h1, h2, -, -, h3, -⟩ := Cond.codeWith_spec (hts _ List.mem_cons_self)
  cases B.named.symm.trans hn9
  cases B.method.symm.trans h1
  cases (Stand.of_body B).code.symm.trans h2
  rw [lg_entry_eq]
  exact body p e s m below meth c _ ⟨B.exec, B.bytes, findClass_of_methodNamed B.named, fun w hw => hts w (List.mem_cons_of_mem _ hw), hK⟩ hml B.returns B.notSynchronized h3 (lv_entry av hlen) hP
theorem hq_callSW (C : hq_C p c s m args own cc TB D cl tys) (hG : GoodIn TB TB) (hml : c.maxLocals = nL) (Y : hq_YW TB own index y bytes maxL ret hh n) (hM : hq_MW l y bytes maxL ret hh TB rm lo D cl tys As P Post) (hPb : hq_Bl P) (hP : ∀ U : State, U.heap = H → s.WarmedH U.vm → P U) (hL : hq_L lo locs) (hls : ls.size = nL) (hn : As.length = n) (hst : st0 = As.reverse ++ rest) (hR : hq_R R rm maxL cells slots) (hW : (rest.map fun v => v.category).sum ≤ 8) (hdg : decode cc pc = .ok (.invokestatic index, 3))
    (kk : ∀ (v : Option Value) (H1 : Heap) (locs1 : List Loc), Post H v H1 → hq_L lo locs1 → W p l e R s m args below meth c H1 locs1 (cells + rm.cells) (slots + rm.slots) Q (F0 m (pc + 3) ls (v.toList ++ rest))) : W p l e R s m args below meth c H locs cells slots Q (F0 m pc ls st0) := by
  obtain ⟨hx, hbb, hown, hts, hK⟩ := C
  obtain ⟨y1, y2, y3, y4, y5, y6, y7⟩ := Y
  have hws : ∀ w ∈ Cond.codeWith y bytes maxL ret hh :: TB, ∀ (a' : Array Value) (U : State), s.WarmedH U.vm → w.before a' U = true := by
    intro w hw a' U hWU
    rcases List.mem_cons.mp hw with h | h
    · rw [h]; exact word_at hWU (hG _ y1).2 (hts _ y1)
    · exact word_at hWU (hG _ h).2 (hts _ h)
  have hB : Back l R p e below s args y 3 8 (PreOf R rm.cells rm.slots _) (PostOf (hq_Q Post) rm.cells rm.slots (fun q => lo ≤ q)) :=
    va_backW (bytes := bytes) (maxL := maxL) (ret := ret) (hh := hh) hM (hq_blind hPb) rfl rfl hR.1.1 hR.1.2 hws List.mem_cons_self (fun a' U hWU => word_at hWU (hG _ y3).2 (hts _ y3))
  refine hq_run (rm := rm) (Post := Post) (av9 := As.toArray) (fun T hT X => ?_) hL kk
  obtain ⟨mk, methM, cM, hnamed, hmethM, -, -, -, -, -, -, hsigM⟩ := Cond.codeWith_spec (hts _ y1)
  have hstatic : methM.isStatic = true := Cond.static_spec hnamed hmethM (hts _ y4)
  obtain ⟨kP, hkP, -⟩ := className_of_methodNamed hnamed
  have hinitP : kP.init = .initialized := Cond.initialized_spec (findClass_of_methodNamed hnamed) hkP (hts _ y3)
  have hlenP : As.length = methM.sig.parameters.length := by
    rw [hsigM] at y7
    exact hn.trans (Option.some.inj y7).symm
  obtain ⟨vm₁, X₁, hstep₁⟩ := X.invokestatic hx hown (hts _ y2) hnamed hmethM hstatic hkP hinitP ⟨y5, y6⟩ (g := F0 m pc ls st0) rfl (argsL := As) (rest := rest) hlenP hst (by rw [hbb]; exact hdg)
  obtain ⟨v, ⟨U', l2, c2, s2⟩, X', ⟨g', mk', t, L, e1, e2, hq, h1, hL1, h2, h3⟩, hsteps⟩ := hB m meth c ⟨T.setVm vm₁, locs, cells, slots⟩ (F0 m pc ls rest) (.invokestatic index) mk As.toArray X₁ rfl (hls.trans hml.symm) (by rw [hbb]; exact hdg) (lv_room hW) (X₁.named hnamed) ⟨hR.2.1, hR.2.2, rfl, va_K.moved X₁.warmed.alike hK, hP _ hT X₁.warmed⟩
  dsimp only [Pt.U, Pt.locs, Pt.cells, Pt.slots] at X' e1 e2 h1 h2 h3 hsteps
  subst h1; subst h2; subst h3
  exact ⟨v, (T.setVm vm₁).calling g' mk' As.toArray, t, U', L, hT, X', hL1, e1, hq, fun target h => hstep₁ _ fun acts => by rw [doInvoke_state]; exact hsteps.trans h⟩
theorem hq_sld (C : hq_C p c s m args own cc TB D cl tys) {b L : Nat} {xs : Nat → Int32} (hX : va_X b L xs s s.heap) (hb : b < s.heap.size) (hO : hq_O s.heap.size s.heap H) {i : Int32} (hin : vp_in i L) (hdg : decode cc pc = .ok (.iaload, 1))
    (kk : W p l e R s m args below meth c H locs cells slots Q (F0 m (pc + 1) ls (.int (xs i.toNatClampNeg) :: rest))) : W p l e R s m args below meth c H locs cells slots Q (F0 m pc ls (.int i :: .ref b :: rest)) := by
  obtain ⟨scr, h1, h2, h3, h4, h5⟩ := hX
  have hlt : i.toNatClampNeg < L := Nat.not_le.mp fun q => hin (Or.inr q)
  exact W.iald (v := .int (xs i.toNatClampNeg)) C.1 C.2.1 (by rw [hO b hb]; exact h1) h2 h3 (by rw [h4]; exact hin) (h5 _ hlt) rfl rfl hdg kk
theorem hq_slen (C : hq_C p c s m args own cc TB D cl tys) {b L : Nat} {xs : Nat → Int32} (hX : va_X b L xs s s.heap) (hb : b < s.heap.size) (hO : hq_O s.heap.size s.heap H) (hdg : decode cc pc = .ok (.arraylength, 1))
    (kk : W p l e R s m args below meth c H locs cells slots Q (F0 m (pc + 1) ls (.int (nI L) :: rest))) : W p l e R s m args below meth c H locs cells slots Q (F0 m pc ls (.ref b :: rest)) := by
  obtain ⟨scr, h1, h2, h3, h4, h5⟩ := hX
  exact W.alen (n := nI L) C.1 C.2.1 (by rw [hO b hb]; exact h1) h2 (by rw [h4] <;> rfl) rfl rfl hdg kk
end HQW
