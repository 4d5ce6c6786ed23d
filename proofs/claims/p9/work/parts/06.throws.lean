/-! Methods that throw: E is thrown, and no old cell has changed. -/
def hq_X (E : String) (mc ms : Nat) (st : State) (q : Addr) (t : State) : Prop :=
  ∃ ce : Cell, t.heap[q]? = some ce ∧ ce.vm = .none ∧ st.vm.findClass E = some ce.cls ∧ st.WarmedH t.vm ∧ st.sameButNew ({ t with vm := st.vm } : State) [] mc ms
def hq_T (l : Launch) (y : MethodName) (bytes : ByteArray) (maxL : Nat) (ret : Option FieldType) (TB : List Cond) (rm : Room) (D : va_G) (cl : List vw_C) (tys : List (ClassId × FieldType)) (av : List Value) (P : State → Prop) (E : String) : Prop :=
  MetFree l y (headSpec (Cond.code y bytes maxL ret :: TB) rm) (va_Pc av (fun U => va_K D cl tys U ∧ P U)) (fun _ _ _ _ _ => True) (fun _ st o t => ∃ q, o = .threw q ∧ hq_X E rm.cells rm.slots st q t)
/-- what the body of a method that throws comes to -/
def hq_TQ (below : List Frame) (E : String) (s : State) (mc ms : Nat) : State → Prop := fun t => ∃ q, t.status = .running ∧ Ended t below (.threw q) ∧ hq_X E mc ms s q t
/-- the frame g, with q thrown over it -/
def hq_V (p : Program) (l : Launch) (e : Env) (R : Room) (s : State) (m : MethodId) (args : Array Value) (below : List Frame) (meth : Method) (c : Code) (H : Heap) (locs : List Loc) (cells slots : Nat) (Q : State → Prop) (g : JFrame) (q : Addr) : Prop :=
  ∀ T : State, T.heap = H → Stand p l e R s m args below meth c T locs cells slots → ∃ t, Steps p.tables e below ((T.setTop g).pushFrame (.throwing q)) t ∧ Q t
theorem hq_old {U V : State} {mc ms : Nat} (h : U.sameButNew V [] mc ms) : hq_O U.heap.size U.heap V.heap ∧ U.heap.size ≤ V.heap.size := by
  obtain ⟨-, h2, -, -, -, h6⟩ := h
  refine ⟨fun q hq => ?_, h2⟩
  obtain ⟨c9, e1, e2, e3, e4⟩ := h6 q _ (Array.getElem?_eq_getElem hq)
  have hs : c9.slots = (U.heap[q]).slots := Array.ext_getElem? fun i => e4 i (by simp)
  rw [hs] at e2
  have h9 : c9 = U.heap[q] := e2
  rw [e1, h9, Array.getElem?_eq_getElem hq]
section HQT
variable {p : Program} {l : Launch} {e : Env} {R : Room} {s : State} {m : MethodId} {args : Array Value} {below : List Frame} {meth : Method} {c : Code} {H : Heap} {locs : List Loc} {cells slots : Nat} {Q : State → Prop}
variable {cc : ByteArray} {pc : Nat} {ls : Array Slot} {rest st0 : List Value} {D : va_G} {cl : List vw_C} {nL : Nat} {tys : List (ClassId × FieldType)} {own E : String} {TB : List Cond}
variable {index : Nat} {y : MethodName} {bytes : ByteArray} {maxL n : Nat} {ret : Option FieldType} {rm : Room} {As : List Value} {b : Nat} {P : State → Prop}
theorem hq_tback {ws : List Cond} {Pc : Array Value → State → Prop} {len W9 : Nat} (hM : MetFree l y (headSpec ws rm) Pc (fun _ _ _ _ _ => True) (fun _ st o t => ∃ q, o = .threw q ∧ hq_X E rm.cells rm.slots st q t)) (hbl : FrameBlind Pc)
    (hframes : rm.frames + 1 ≤ R.frames) (hlocals : W9 + (maxL + 11) + rm.locals ≤ R.locals) {U : State} (X : Stand p l e R s m args below meth c U locs cells slots) {g : JFrame} {ig : Instr} {mk : MethodId} {a : Array Value}
    (hg : g.method = m) (hsize : g.locals.size = c.maxLocals) (hdg : decode c.code g.pc = .ok (ig, len)) (hW : 2 * g.monitorRoom + (g.stack.map fun v => v.category).sum ≤ W9) (hn : U.methodNamed? y = some mk)
    (h1 : (headSpec ws rm).pre.before a U = true) (h2 : (Cond.code y bytes maxL ret).before a U = true) (h3 : (Cond.initialized y.cls).before a U = true) (h4 : cells + rm.cells ≤ R.cells) (h5 : slots + rm.slots ≤ R.slots) (hP : Pc a U) :
    ∃ (q : Addr) (V : State) (ce : Cell), Stand p l e R s m args below meth c V locs (cells + rm.cells) (slots + rm.slots) ∧ V.heap[q]? = some ce ∧ ce.vm = .none ∧ U.vm.findClass E = some ce.cls ∧ hq_O U.heap.size U.heap V.heap ∧ U.heap.size ≤ V.heap.size ∧
      Steps p.tables e below (doInvoke e (U.setTop g) [] mk a).1 ((V.setTop g).pushFrame (.throwing q)) := by
  obtain ⟨methY, cY, hmY, hcY, -, hlY, -, -, -, -⟩ := Cond.code_spec hn h2
  obtain ⟨kY, hkY, -⟩ := className_of_methodNamed hn
  have hinitY : kY.init = .initialized := Cond.initialized_spec (findClass_of_methodNamed hn) hkY h3
  have h : At U g.method c below := by rw [hg]; exact X.here
  have hloc : 2 * g.monitorRoom + (g.stack.map fun v => v.category).sum + (cY.maxLocals + 11) + rm.locals ≤ R.locals := by rw [hlY]; omega
  have happ : (headSpec ws rm).appliesLoose y e.platform (U.calling g mk a) = true :=
    Spec.appliesLoose_calling (g := g) h hdg hn hkY hinitY (X.room_calling (g := g) (R' := (headSpec ws rm).room) hsize hmY hcY hframes hloc h4 h5) h1
  obtain ⟨mid, hmid⟩ := h.above
  have hfr : (U.setTop g).frames = (.java g :: mid) ++ below := by rw [State.frames_setTop' g h.top, hmid]; rfl
  obtain ⟨o, t, hsteps, -, hend, q, rfl, ce, hce, hcv, hcl, hWt, hsm⟩ := Steps.callFree hM p X.admits X.cas X.clock (acts := []) hfr happ (hbl _ _ _ _ hP) trivial
  rw [State.frames_setTop' g h.top] at hend
  obtain ⟨g₀, hg0⟩ := Option.isSome_iff_exists.mp h.top
  obtain ⟨r, hr⟩ := State.topJava?_eq_some.mp hg0
  have hsm9 : (U.calling g mk a).sameButNew ({ t with vm := (U.calling g mk a).vm } : State) [] rm.cells rm.slots := hsm
  have hold := hq_old hsm9
  obtain ⟨e2, q2, q3, q4, q5, q6⟩ := hsm9
  have e3 : t = ({ (U.calling g mk a).setFrames t.frames with heap := t.heap, slotsUsed := t.slotsUsed } : State).setVm t.vm := by
    have h9 : t = ({ t with vm := (U.calling g mk a).vm } : State).setVm t.vm := rfl
    rw [e2] at h9
    exact h9
  have hft : t.frames = .throwing q :: .java g :: U.frames.tail := hend
  have hWU : U.WarmedH t.vm := hWt
  have hrV : (({ U with heap := t.heap, slotsUsed := t.slotsUsed } : State).setVm t.vm).frames = .java g₀ :: r := hr
  have ht : t = ((({ U with heap := t.heap, slotsUsed := t.slotsUsed } : State).setVm t.vm).setTop g).pushFrame (.throwing q) := by
    refine e3.trans ?_
    rw [hft, State.calling_eq h.top, State.setFrames_setFrames, State.pushFrame, State.frames_setTop _ hrV, State.setTop_of_frames _ hrV, State.setFrames_setFrames, hr]
    rfl
  have hsame : U.sameButNew ({ U with heap := t.heap, slotsUsed := t.slotsUsed } : State) [] rm.cells rm.slots := by
    refine ⟨?_, q2, q3, q4, q5, q6⟩
    obtain ⟨z, hz, -⟩ := State.frames_cons hr
    show ({ U with heap := t.heap, slotsUsed := t.slotsUsed } : State) = { U.setFrames U.frames with heap := t.heap, slotsUsed := t.slotsUsed }
    rw [State.setFrames_self hz]
  subst hg
  have hst : Stand p l e R s g.method args below meth c (({ U with heap := t.heap, slotsUsed := t.slotsUsed } : State).setVm t.vm) (locs ++ []) (cells + rm.cells) (slots + rm.slots) :=
    ⟨X.admits, X.cas, X.clock, X.frames, X.room, X.hears, X.method, X.code, (X.here.setHeapUsed t.heap t.slotsUsed).setVm hWU.alike, X.tail, State.WarmedH.trans X.warmed hWU, X.limits, X.bytes, X.same.trans (hsame.setVm s.vm)⟩
  rw [List.append_nil] at hst
  refine ⟨q, ({ U with heap := t.heap, slotsUsed := t.slotsUsed } : State).setVm t.vm, ce, hst, hce, hcv, hcl, hold.1, hold.2, ?_⟩
  rw [← ht]
  exact hsteps
theorem hq_tcallV (C : hq_C p c s m args own cc TB D cl tys) (hG : GoodIn TB TB) (hml : c.maxLocals = nL) (Y : hq_YV TB own index y bytes maxL ret n) (hM : hq_T l y bytes maxL ret TB rm D cl tys (.ref b :: As) P E) {ci : Nat} {fs : List Value} {T0 : u_T} {N : Nat} (hb : va_at D cl (b, .inr (ci, fs)) H) (hci : cl[ci]? = some (y.cls, T0, N)) (hPb : hq_Bl P) (hP : ∀ U : State, U.heap = H → s.WarmedH U.vm → P U) (hls : ls.size = nL) (hn : As.length = n) (hst : st0 = As.reverse ++ .ref b :: rest) (hR : hq_R R rm maxL cells slots) (hW : (rest.map fun v => v.category).sum ≤ 8) (hdg : decode cc pc = .ok (.invokevirtual index, 3))
    (kk : ∀ (q : Addr) (ce : Cell) (H1 : Heap), hq_O H.size H H1 → H.size ≤ H1.size → H1[q]? = some ce → ce.vm = .none → s.vm.findClass E = some ce.cls → hq_V p l e R s m args below meth c H1 locs (cells + rm.cells) (slots + rm.slots) Q (F0 m pc ls rest) q) : W p l e R s m args below meth c H locs cells slots Q (F0 m pc ls st0) := by
  obtain ⟨hx, hbb, hown, hts, hK⟩ := C
  obtain ⟨Y0, y1, y2⟩ := Y
  obtain ⟨hrc, hrs, hfr, hlo, hws, hcw, hcode, hini, hy, hlen, hl⟩ := hq_callB hts hG Y0 hR
  obtain ⟨cellB, hcB, hoB, hclB⟩ := va_recv hK (hq_one hb) hci (q0 := 0) rfl
  have hinst := hts _ (hG _ y1).1
  have hsel := hts _ (hG _ y2).1
  intro T hT X
  obtain ⟨mk, methM, hnamed, hmethM, hstM, habM⟩ := Cond.instanceMethod_spec hinst
  obtain ⟨methM', cM, hmethM', -, -, -, -, -, -, hsigM⟩ := Cond.code_spec hnamed hcode
  cases hmethM.symm.trans hmethM'
  obtain ⟨c2, r2, m2, q1, q2, q3, q4, kP, hkP, hkPi⟩ := Cond.selects_spec hsel
  cases hclB.symm.trans q1
  cases (State.methodFound?_of_named hnamed hy).symm.trans q2
  cases hnamed.symm.trans q3
  have hselP : selectMethod e.platform s.vm cellB.cls mk = .method mk := by rw [Launch.admits_selectMethod X.admits]; exact q4
  obtain ⟨vm₁, X₁, hstep₁⟩ := X.invokevirtual hx hown hl hnamed hmethM hstM hkP hkPi hy (a := b) (cell := cellB) (by rw [hT]; exact hcB) (fun z h => by rw [h] at hoB; cases hoB) hselP hmethM habM hkP hkPi (g := F0 m pc ls st0) rfl (argsL := As) (rest := rest) (hn.trans (hlen _ hsigM)) hst (by rw [hbb]; exact hdg)
  obtain ⟨q, V, ce, XV, hce, hcv, hcl, hO, hz, hsteps⟩ := hq_tback (bytes := bytes) (maxL := maxL) (ret := ret) (W9 := 8) hM (hq_blind hPb) hfr hlo X₁ (g := F0 m pc ls rest) (mk := mk) (a := (Value.ref b :: As).toArray) rfl (hls.trans hml.symm) (by rw [hbb]; exact hdg) (lv_room hW) (X₁.named hnamed)
    (atoms_intro fun w hw => hws w hw _ _ X₁.warmed) (hws _ hcw _ _ X₁.warmed) (word_at X₁.warmed (Or.inl (by first | rfl | simp [Cond.onTables, Cond.keeps, Cond.steady])) hini) hR.2.1 hR.2.2 ⟨rfl, va_K.moved X₁.warmed.alike hK, hP _ hT X₁.warmed⟩
  have hO' : hq_O H.size H V.heap := by
    have h9 : hq_O T.heap.size T.heap V.heap := hO
    rw [hT] at h9
    exact h9
  have hz' : H.size ≤ V.heap.size := by
    have h9 : T.heap.size ≤ V.heap.size := hz
    rw [hT] at h9
    exact h9
  have hcl' : s.vm.findClass E = some ce.cls := by
    rw [X₁.warmed.alike.findClass] at hcl
    exact hcl
  obtain ⟨t, a1, b1⟩ := kk q ce V.heap hO' hz' hce hcv hcl' V rfl XV
  exact ⟨t, (hstep₁ _ fun acts => by rw [doInvoke_state]; exact hsteps).trans a1, b1⟩
theorem hq_tcallS (C : hq_C p c s m args own cc TB D cl tys) (hG : GoodIn TB TB) (hml : c.maxLocals = nL) (Y : hq_YS TB own index y bytes maxL ret n) (hM : hq_T l y bytes maxL ret TB rm D cl tys As P E) (hPb : hq_Bl P) (hP : ∀ U : State, U.heap = H → s.WarmedH U.vm → P U) (hls : ls.size = nL) (hn : As.length = n) (hst : st0 = As.reverse ++ rest) (hR : hq_R R rm maxL cells slots) (hW : (rest.map fun v => v.category).sum ≤ 8) (hdg : decode cc pc = .ok (.invokestatic index, 3))
    (kk : ∀ (q : Addr) (ce : Cell) (H1 : Heap), hq_O H.size H H1 → H.size ≤ H1.size → H1[q]? = some ce → ce.vm = .none → s.vm.findClass E = some ce.cls → hq_V p l e R s m args below meth c H1 locs (cells + rm.cells) (slots + rm.slots) Q (F0 m pc ls rest) q) : W p l e R s m args below meth c H locs cells slots Q (F0 m pc ls st0) := by
  obtain ⟨hx, hbb, hown, hts, hK⟩ := C
  obtain ⟨Y0, y1⟩ := Y
  obtain ⟨hrc, hrs, hfr, hlo, hws, hcw, hcode, hini, hy, hlen, hl⟩ := hq_callB hts hG Y0 hR
  have hstat := hts _ (hG _ y1).1
  intro T hT X
  obtain ⟨mk, hnamed⟩ := Cond.code_named hcode
  obtain ⟨methM, cM, hmethM, -, -, -, -, -, -, hsigM⟩ := Cond.code_spec hnamed hcode
  have hstatic : methM.isStatic = true := Cond.static_spec hnamed hmethM hstat
  obtain ⟨kP, hkP, -⟩ := className_of_methodNamed hnamed
  have hinitP : kP.init = .initialized := Cond.initialized_spec (findClass_of_methodNamed hnamed) hkP hini
  obtain ⟨vm₁, X₁, hstep₁⟩ := X.invokestatic hx hown hl hnamed hmethM hstatic hkP hinitP hy (g := F0 m pc ls st0) rfl (argsL := As) (rest := rest) (hn.trans (hlen _ hsigM)) hst (by rw [hbb]; exact hdg)
  obtain ⟨q, V, ce, XV, hce, hcv, hcl, hO, hz, hsteps⟩ := hq_tback (bytes := bytes) (maxL := maxL) (ret := ret) (W9 := 8) hM (hq_blind hPb) hfr hlo X₁ (g := F0 m pc ls rest) (mk := mk) (a := As.toArray) rfl (hls.trans hml.symm) (by rw [hbb]; exact hdg) (lv_room hW) (X₁.named hnamed)
    (atoms_intro fun w hw => hws w hw _ _ X₁.warmed) (hws _ hcw _ _ X₁.warmed) (word_at X₁.warmed (Or.inl (by first | rfl | simp [Cond.onTables, Cond.keeps, Cond.steady])) hini) hR.2.1 hR.2.2 ⟨rfl, va_K.moved X₁.warmed.alike hK, hP _ hT X₁.warmed⟩
  have hO' : hq_O H.size H V.heap := by
    have h9 : hq_O T.heap.size T.heap V.heap := hO
    rw [hT] at h9
    exact h9
  have hz' : H.size ≤ V.heap.size := by
    have h9 : T.heap.size ≤ V.heap.size := hz
    rw [hT] at h9
    exact h9
  have hcl' : s.vm.findClass E = some ce.cls := by
    rw [X₁.warmed.alike.findClass] at hcl
    exact hcl
  obtain ⟨t, a1, b1⟩ := kk q ce V.heap hO' hz' hce hcv hcl' V rfl XV
  exact ⟨t, (hstep₁ _ fun acts => by rw [doInvoke_state]; exact hsteps).trans a1, b1⟩
/-- it goes on to the caller -/
theorem hq_tout {mc ms : Nat} {ce : Cell} {q : Addr} (hout : ∀ x ∈ c.exceptionTable.toList, covers x pc = false) (hlocks : meth.locks = false) (hcell : H[q]? = some ce) (hv : ce.vm = .none) (hcl : s.vm.findClass E = some ce.cls) (hc : cells ≤ mc) (hs : slots ≤ ms) :
    hq_V p l e R s m args below meth c H [] cells slots (hq_TQ below E s mc ms) (F0 m pc ls rest) q := by
  intro T hT X
  obtain ⟨st1, hrun, hend, hW, hsm⟩ := X.leaveThrown q (g := F0 m pc ls rest) rfl rfl rfl hout hlocks
  have hcell9 : (T.setFrames (.throwing q :: below)).heap[q]? = some ce := by
    show T.heap[q]? = some ce
    rw [hT]; exact hcell
  exact ⟨_, st1, q, hrun, hend, ce, hcell9, hv, hcl, hW, hsm.mono hc hs⟩
/-- a throwing contract out of the walk of its body -/
theorem hq_ofT (hy : plainName y.cls = true) {av : List Value} (hlen : (lg_sl av).length ≤ maxL)
    (body : ∀ (p : Program) (e : Env) (s : State) (m : MethodId) (below : List Frame) (meth : Method) (c : Code) (ls : Array Slot), hq_C p c s m av.toArray y.cls bytes TB D cl tys → c.maxLocals = maxL → meth.locks = false → (∀ x ∈ c.exceptionTable.toList, ∀ k, covers x k = false) → lv_has ls maxL (lv_args 0 av) → P s →
      W p l e rm s m av.toArray below meth c s.heap [] 0 0 (hq_TQ below E s rm.cells rm.slots) (F0 m 0 ls [])) :
    hq_T l y bytes maxL ret TB rm D cl tys av P E := by
  refine MetFree.of_bodyS (code := bytes) (maxLocals := maxL) (ret := ret) hy ?_ ?_
  · intro args s m h hn
    obtain ⟨meth, c, h1, h2, h3, h4, h5, h6, -, -⟩ := Cond.code_spec hn (atoms_spec (ws := Cond.code y bytes maxL ret :: TB) h _ List.mem_cons_self)
    exact ⟨meth, c, h1, h2, h3, h4, h5, h6⟩
  · intro p e s m args below meth c s₁ B hml hv _
    obtain ⟨rfl, hK, hP⟩ := hv
    have hts := atoms_spec (ws := Cond.code y bytes maxL ret :: TB) B.pre
    have hh0 : s₁.heap = s.heap := by rw [B.state]; rfl
    have hno : ∀ x ∈ c.exceptionTable.toList, ∀ k, covers x k = false := fun x hx k => covers_of_empty (B.noHandlers (hts _ List.mem_cons_self)) k x hx
    obtain ⟨t, a1, q, b1, b2, b3⟩ := body p e s m below meth c _ ⟨B.exec, B.bytes, findClass_of_methodNamed B.named, fun w hw => hts w (List.mem_cons_of_mem _ hw), hK⟩ hml B.notSynchronized hno (lv_entry av hlen) hP s₁ hh0 (Stand.of_body B)
    refine ⟨t, .threw q, ?_, b1, b2, q, rfl, b3⟩
    rw [lg_entry_eq]
    exact a1
/-- new E; dup; ldc; E.<init>(String); athrow: from the call on -/
theorem hq_ctor (C : hq_C p c s m args own cc TB D cl tys) (htr : l.stackTraces = false) {names : List String} {ic a mc ms : Nat} (hfit : Bundle.fit E = true) (hnames : ∀ n ∈ names, Bundle.fit n = true) (h : ∀ w ∈ Bundle.ownAtoms own ic E names, w.before args s = true) {cX : ClassId} {kX : Class} (hfX : s.vm.findClass E = some cX) (hkX : s.vm.classes[cX]? = some kX) (hcell : H[a]? = some (freshCell cX kX)) (hnew : s.heap.size ≤ a) {msg : Nat}
    (hls : ls.size = c.maxLocals) (hd6 : decode cc pc = .ok (.invokespecial ic, 3)) (hd9 : decode cc (pc + 3) = .ok (.athrow, 1)) (hout : ∀ x ∈ c.exceptionTable.toList, ∀ k, covers x k = false) (hlocks : meth.locks = false) (hRf : names.length + 3 < R.frames) (hRl : ((Value.ref a :: rest).map fun v => v.category).sum + (13 * (names.length + 1) + 42) ≤ R.locals) (hc : cells ≤ mc) (hs : slots ≤ ms) :
    W p l e R s m args below meth c H [] cells slots (hq_TQ below E s mc ms) (F0 m pc ls (.ref msg :: .ref a :: .ref a :: rest)) := by
  obtain ⟨hx, hbb, hown, hts, hK⟩ := C
  intro T hT X
  have htr9 : e.platform.stackTraces = false := (show e.platform.stackTraces = l.stackTraces by rw [X.admits.platform]).trans htr
  obtain ⟨U, hsteps, hrun, hend, hW, hsame, ce, hce, K⟩ := X.ctorThrowS hx htr9 (own := own) (cls := E) (names := names) (ic := ic) hown hfit hnames h (fun x hx => by cases hx) hfX hkX (a := a) (by rw [hT]; exact hcell) hnew (msg := .ref msg) rfl (g := F0 m pc ls (.ref msg :: .ref a :: .ref a :: rest)) rfl hls rfl rfl (rest := rest) rfl
    (by rw [hbb]; exact hd6) (by rw [hbb]; exact hd9) (fun x hx => hout x hx _) hRf (by show 2 * 0 + _ + _ ≤ _; omega) hlocks
  exact ⟨U, hsteps, a, hrun, hend, ce, hce, K.vm, K.cls, hW, hsame.mono hc hs⟩
end HQT
