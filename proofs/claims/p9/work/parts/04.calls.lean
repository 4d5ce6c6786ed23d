/-! Contracts whose end is a fact of two heaps, and their calls. TB: one table of words for all methods. -/
/-- the end of a contract: it has returned v, and Post holds of the heap before, v, and the heap behind -/
def hq_Q (Post : Heap → Option Value → Heap → Prop) : Array Value → State → Outcome → State → Prop := fun _ st o t => ∃ v, o = .returned v ∧ Post st.heap v t.heap
def hq_M (l : Launch) (y : MethodName) (bytes : ByteArray) (maxL : Nat) (ret : Option FieldType) (TB : List Cond) (rm : Room) (lo : Nat) (D : va_G) (cl : List vw_C) (tys : List (ClassId × FieldType)) (av : List Value) (P : State → Prop) (Post : Heap → Option Value → Heap → Prop) : Prop :=
  Met l y (Cond.code y bytes maxL ret :: TB) rm (va_Pc av (fun U => va_K D cl tys U ∧ P U)) (hq_Q Post) rm.cells rm.slots (fun q => lo ≤ q)
/-- what a contract asks of the start reads no frame -/
def hq_Bl (P : State → Prop) : Prop := ∀ (a : Array Value) (U : State) (g : JFrame) (mk : MethodId), P U → P (U.calling g mk a)
theorem hq_Bh {P : Heap → Prop} : hq_Bl (fun U => P U.heap) := fun _ _ _ _ h => h
theorem hq_blind {D : va_G} {cl : List vw_C} {tys : List (ClassId × FieldType)} {av : List Value} {P : State → Prop} (hP : hq_Bl P) : FrameBlind (va_Pc av (fun U => va_K D cl tys U ∧ P U)) :=
  fun a U g mk q => ⟨q.1, va_K.moved (u := U) (U := U.calling g mk a) (Vm.Alike.refl U.vm) q.2.1, hP a U g mk q.2.2⟩
theorem hq_good {Ts TB : List Cond} {y : MethodName} {bytes : ByteArray} {maxL : Nat} {ret : Option FieldType} (hG : GoodIn Ts TB) (hy : Cond.code y bytes maxL ret ∈ TB) : GoodIn Ts (Cond.code y bytes maxL ret :: TB) := by
  intro w hw
  rcases List.mem_cons.mp hw with h | h
  · rw [h]; exact hG _ hy
  · exact hG _ h
/-- a method that is called at place 'index' of the pool of 'own' -/
def hq_Y (TB : List Cond) (own : String) (index : Nat) (y : MethodName) (bytes : ByteArray) (maxL : Nat) (ret : Option FieldType) (n : Nat) : Prop :=
  Cond.code y bytes maxL ret ∈ TB ∧ Cond.methodLink own index y ∈ TB ∧ Cond.initialized y.cls ∈ TB ∧ y.cls ≠ "java/lang/invoke/MethodHandle" ∧ y.cls ≠ "java/lang/invoke/VarHandle" ∧ (parseMethodDescriptor y.desc).map (fun d => d.parameters.length) = some n
def hq_YV (TB : List Cond) (own : String) (index : Nat) (y : MethodName) (bytes : ByteArray) (maxL : Nat) (ret : Option FieldType) (n : Nat) : Prop :=
  hq_Y TB own index y bytes maxL ret n ∧ Cond.instanceMethod y ∈ TB ∧ Cond.selects y.cls y y ∈ TB
def hq_YS (TB : List Cond) (own : String) (index : Nat) (y : MethodName) (bytes : ByteArray) (maxL : Nat) (ret : Option FieldType) (n : Nat) : Prop :=
  hq_Y TB own index y bytes maxL ret n ∧ Cond.static y ∈ TB
def hq_YI (TB : List Cond) (own : String) (index : Nat) (y : MethodName) (bytes : ByteArray) (maxL : Nat) (n : Nat) : Prop :=
  hq_Y TB own index y bytes maxL none n ∧ Cond.instanceMethod y ∈ TB ∧ y.name = "<init>"
/-- a private constructor of a nest mate -/
def hq_YN (TB : List Cond) (own : String) (index : Nat) (host : String) (y : MethodName) (bytes : ByteArray) (maxL : Nat) (n : Nat) : Prop :=
  Cond.code y bytes maxL none ∈ TB ∧ Cond.initialized y.cls ∈ TB ∧ Cond.instanceMethod y ∈ TB ∧ y.name = "<init>" ∧ y.cls ≠ "java/lang/invoke/MethodHandle" ∧ y.cls ≠ "java/lang/invoke/VarHandle" ∧ (parseMethodDescriptor y.desc).map (fun d => d.parameters.length) = some n ∧ own ≠ ""
/-- the room that a callee asks of its caller -/
def hq_R (R rm : Room) (maxL cells slots : Nat) : Prop := (rm.frames + 1 ≤ R.frames ∧ 8 + (maxL + 11) + rm.locals ≤ R.locals) ∧ cells + rm.cells ≤ R.cells ∧ slots + rm.slots ≤ R.slots
section HQC
variable {p : Program} {l : Launch} {e : Env} {R : Room} {s : State} {m : MethodId} {args : Array Value} {below : List Frame} {meth : Method} {c : Code} {H : Heap} {locs : List Loc} {cells slots : Nat} {Q : State → Prop}
variable {cc : ByteArray} {pc : Nat} {ls : Array Slot} {rest st0 : List Value} {D : va_G} {cl : List vw_C} {a lo nL : Nat} {tys : List (ClassId × FieldType)} {own : String} {TB : List Cond}
variable {index : Nat} {y : MethodName} {bytes : ByteArray} {maxL n : Nat} {ret : Option FieldType} {rm : Room} {As : List Value} {b : Nat} {P : State → Prop} {Post : Heap → Option Value → Heap → Prop}
theorem hq_callB (hts : ∀ w ∈ TB, w.before args s = true) (hG : GoodIn TB TB) (Y : hq_Y TB own index y bytes maxL ret n) (hR : hq_R R rm maxL cells slots) : CallB R s args own index y bytes maxL ret (Cond.code y bytes maxL ret :: TB) rm rm.cells rm.slots n := by
  obtain ⟨h1, h2, h3, h4, h5, h6⟩ := Y
  exact callB_of n hts (hq_good hG h1) rfl rfl rfl (hts _ (hG _ h3).1) (hts _ (hG _ h2).1) ⟨h4, h5, h6⟩ hR.1
theorem hq_run {av9 : Array Value} (hr : CallRun p l e R s m args below meth c H locs cells slots rm.cells rm.slots (F0 m pc ls st0) rest (hq_Q Post av9) (fun q => lo ≤ q)) (hL : hq_L lo locs)
    (kk : ∀ (v : Option Value) (H1 : Heap) (locs1 : List Loc), Post H v H1 → hq_L lo locs1 → W p l e R s m args below meth c H1 locs1 (cells + rm.cells) (slots + rm.slots) Q (F0 m (pc + 3) ls (v.toList ++ rest))) : W p l e R s m args below meth c H locs cells slots Q (F0 m pc ls st0) := by
  intro T hT X
  obtain ⟨v, st₀, t, T', L, h0, X', hL1, e1, ⟨v', hv, hp⟩, st⟩ := hr T hT X
  cases hv
  rw [h0, ← e1] at hp
  obtain ⟨t2, a1, b1⟩ := kk v T'.heap (locs ++ L) hp (hq_Lp hL hL1) T' rfl X'
  exact ⟨t2, st t2 a1, b1⟩
theorem hq_callV (C : hq_C p c s m args own cc TB D cl tys) (hG : GoodIn TB TB) (hml : c.maxLocals = nL) (Y : hq_YV TB own index y bytes maxL ret n) (hM : hq_M l y bytes maxL ret TB rm lo D cl tys (.ref b :: As) P Post) {ci : Nat} {fs : List Value} {T : u_T} {N : Nat} (hb : va_at D cl (b, .inr (ci, fs)) H) (hci : cl[ci]? = some (y.cls, T, N)) (hPb : hq_Bl P) (hP : ∀ U : State, U.heap = H → s.WarmedH U.vm → P U) (hL : hq_L lo locs) (hls : ls.size = nL) (hn : As.length = n) (hst : st0 = As.reverse ++ .ref b :: rest) (hR : hq_R R rm maxL cells slots) (hW : (rest.map fun v => v.category).sum ≤ 8) (hdg : decode cc pc = .ok (.invokevirtual index, 3))
    (kk : ∀ (v : Option Value) (H1 : Heap) (locs1 : List Loc), Post H v H1 → hq_L lo locs1 → W p l e R s m args below meth c H1 locs1 (cells + rm.cells) (slots + rm.slots) Q (F0 m (pc + 3) ls (v.toList ++ rest))) : W p l e R s m args below meth c H locs cells slots Q (F0 m pc ls st0) := by
  obtain ⟨hx, hbb, hown, hts, hK⟩ := C
  obtain ⟨Y0, y1, y2⟩ := Y
  refine hq_run (W.runV (As := As) (rest := rest) (b := b) (C := y.cls) ⟨hx, hbb, hml, hown, hts⟩ hM ⟨hq_callB hts hG Y0 hR, hts _ (hG _ y1).1, hts _ (hG _ y2).1⟩ ⟨hq_blind hPb, va_recv hK (hq_one hb) hci (q0 := 0) rfl, fun U hU hW => ⟨rfl, va_K.moved hW.alike hK, hP U hU hW⟩⟩ rfl hn hls hst (lv_room hW) hdg hR.2) hL kk
theorem hq_callS (C : hq_C p c s m args own cc TB D cl tys) (hG : GoodIn TB TB) (hml : c.maxLocals = nL) (Y : hq_YS TB own index y bytes maxL ret n) (hM : hq_M l y bytes maxL ret TB rm lo D cl tys As P Post) (hPb : hq_Bl P) (hP : ∀ U : State, U.heap = H → s.WarmedH U.vm → P U) (hL : hq_L lo locs) (hls : ls.size = nL) (hn : As.length = n) (hst : st0 = As.reverse ++ rest) (hR : hq_R R rm maxL cells slots) (hW : (rest.map fun v => v.category).sum ≤ 8) (hdg : decode cc pc = .ok (.invokestatic index, 3))
    (kk : ∀ (v : Option Value) (H1 : Heap) (locs1 : List Loc), Post H v H1 → hq_L lo locs1 → W p l e R s m args below meth c H1 locs1 (cells + rm.cells) (slots + rm.slots) Q (F0 m (pc + 3) ls (v.toList ++ rest))) : W p l e R s m args below meth c H locs cells slots Q (F0 m pc ls st0) := by
  obtain ⟨hx, hbb, hown, hts, hK⟩ := C
  obtain ⟨Y0, y1⟩ := Y
  refine hq_run (W.runS (As := As) (rest := rest) ⟨hx, hbb, hml, hown, hts⟩ hM ⟨hq_callB hts hG Y0 hR, hts _ (hG _ y1).1⟩ ⟨hq_blind hPb, fun U hU hW => ⟨rfl, va_K.moved hW.alike hK, hP U hU hW⟩⟩ rfl hn hls hst (lv_room hW) hdg hR.2) hL kk
theorem hq_callI (C : hq_C p c s m args own cc TB D cl tys) (hG : GoodIn TB TB) (hml : c.maxLocals = nL) (Y : hq_YI TB own index y bytes maxL n) (hM : hq_M l y bytes maxL none TB rm lo D cl tys (.ref b :: As) P Post) (hPb : hq_Bl P) (hP : ∀ U : State, U.heap = H → s.WarmedH U.vm → P U) (hL : hq_L lo locs) (hls : ls.size = nL) (hn : As.length = n) (hst : st0 = As.reverse ++ .ref b :: rest) (hR : hq_R R rm maxL cells slots) (hW : (rest.map fun v => v.category).sum ≤ 8) (hdg : decode cc pc = .ok (.invokespecial index, 3))
    (kk : ∀ (v : Option Value) (H1 : Heap) (locs1 : List Loc), Post H v H1 → hq_L lo locs1 → W p l e R s m args below meth c H1 locs1 (cells + rm.cells) (slots + rm.slots) Q (F0 m (pc + 3) ls (v.toList ++ rest))) : W p l e R s m args below meth c H locs cells slots Q (F0 m pc ls st0) := by
  obtain ⟨hx, hbb, hown, hts, hK⟩ := C
  obtain ⟨Y0, y1, y2⟩ := Y
  refine hq_run (W.runI (As := As) (rest := rest) (b := b) ⟨hx, hbb, hml, hown, hts⟩ hM ⟨hq_callB hts hG Y0 hR, y2, hts _ (hG _ y1).1⟩ ⟨hq_blind hPb, fun U hU hW => ⟨rfl, va_K.moved hW.alike hK, hP U hU hW⟩⟩ rfl hn hls hst (lv_room hW) hdg hR.2) hL kk
theorem hq_callIN {host : String} (C : hq_C p c s m args own cc TB D cl tys) (hG : GoodIn TB TB) (hml : c.maxLocals = nL) (Y : hq_YN TB own index host y bytes maxL n) (hNw : va_Nw (.methodLinkNest own index y host) s) (hM : hq_M l y bytes maxL none TB rm lo D cl tys (.ref b :: As) P Post) (hPb : hq_Bl P) (hP : ∀ U : State, U.heap = H → s.WarmedH U.vm → P U) (hL : hq_L lo locs) (hls : ls.size = nL) (hn : As.length = n) (hst : st0 = As.reverse ++ .ref b :: rest) (hR : hq_R R rm maxL cells slots) (hW : (rest.map fun v => v.category).sum ≤ 8) (hdg : decode cc pc = .ok (.invokespecial index, 3))
    (kk : ∀ (v : Option Value) (H1 : Heap) (locs1 : List Loc), Post H v H1 → hq_L lo locs1 → W p l e R s m args below meth c H1 locs1 (cells + rm.cells) (slots + rm.slots) Q (F0 m (pc + 3) ls (v.toList ++ rest))) : W p l e R s m args below meth c H locs cells slots Q (F0 m pc ls st0) := by
  obtain ⟨hx, hbb, hown, hts, hK⟩ := C
  obtain ⟨y1, y2, y3, y4, y5, y6, y7, -⟩ := Y
  have hr := va_runIN (p := p) (l := l) (e := e) (R := R) (below := below) (meth := meth) (H := H) (locs := locs) (cells := cells) (slots := slots) (host := host) (index := index) (n := n) (bytes := bytes) (maxL := maxL) (As := As) (rest := rest) (b := b) (g := F0 m pc ls st0) (own := own) (Ts := TB) (cc := cc) (nL := nL) ⟨hx, hbb, hml, hown, hts⟩ hM ⟨va_cnB n hts (hq_good hG y1) rfl rfl rfl hNw (hts _ y2) ⟨y5, y6, y7⟩ hR.1, y4, hts _ y3⟩ ⟨hq_blind hPb, fun U hU hW => ⟨rfl, va_K.moved hW.alike hK, hP U hU hW⟩⟩ rfl hn hls hst (lv_room hW) hdg hR.2
  refine hq_run (rm := rm) (Post := Post) (av9 := (Value.ref b :: As).toArray) (fun T hT X => ?_) hL kk
  obtain ⟨v, st₀, t, T', L, h0, X', hL1, e1, -, hq, st⟩ := hr T hT X
  exact ⟨v, st₀, t, T', L, h0, X', hL1, e1, hq, st⟩
/-- a contract out of the walk of its body -/
theorem hq_ofW (hy : plainName y.cls = true) {av : List Value} (hlen : (lg_sl av).length ≤ maxL)
    (body : ∀ (p : Program) (e : Env) (s : State) (m : MethodId) (below : List Frame) (meth : Method) (c : Code) (ls : Array Slot), hq_C p c s m av.toArray y.cls bytes TB D cl tys → c.maxLocals = maxL → meth.sig.returnType = ret → meth.locks = false → meth.name = y.name → lv_has ls maxL (lv_args 0 av) → P s →
      W p l e rm s m av.toArray below meth c s.heap [] 0 0 (MQ below (hq_Q Post) av.toArray s rm.cells rm.slots (fun q => lo ≤ q)) (F0 m 0 ls [])) :
    hq_M l y bytes maxL ret TB rm lo D cl tys av P Post := by
  refine Met.ofW (cc := bytes) (maxL := maxL) (ret := ret) hy rfl ?_
  intro p e s m args below meth c s₁ B hml hv
  obtain ⟨rfl, hK, hP⟩ := hv
  rw [lg_entry_eq]
  exact body p e s m below meth c _ ⟨B.exec, B.bytes, findClass_of_methodNamed B.named, fun w hw => atoms_spec (ws := Cond.code y bytes maxL ret :: TB) B.pre w (List.mem_cons_of_mem _ hw), hK⟩ hml B.returns B.notSynchronized (name_of_methodNamed B.named B.method).1 (lv_entry av hlen) hP
theorem hq_iret {v : Int32} (C : hq_C p c s m args own cc TB D cl tys) (hr : meth.sig.returnType = some .int) (hlocks : meth.locks = false) {mc ms : Nat} (hc : cells ≤ mc) (hs : slots ≤ ms) (hL : hq_L lo locs) (hq : Post s.heap (some (.int v)) H) (hdg : decode cc pc = .ok (.ireturn, 1)) :
    W p l e R s m args below meth c H locs cells slots (MQ below (hq_Q Post) args s mc ms (fun q => lo ≤ q)) (F0 m pc ls [.int v]) := by
  refine W.widen hc hs ?_
  exact W.iret C.1 C.2.1 hr (fun t ht hW => ⟨_, rfl, by rw [ht]; exact hq⟩) hL hdg hlocks
theorem hq_zret {v : Int32} (C : hq_C p c s m args own cc TB D cl tys) (hr : meth.sig.returnType = some .boolean) (hlocks : meth.locks = false) (hv : narrow .boolean (.int v) = .int v) {mc ms : Nat} (hc : cells ≤ mc) (hs : slots ≤ ms) (hL : hq_L lo locs) (hq : Post s.heap (some (.int v)) H) (hdg : decode cc pc = .ok (.ireturn, 1)) :
    W p l e R s m args below meth c H locs cells slots (MQ below (hq_Q Post) args s mc ms (fun q => lo ≤ q)) (F0 m pc ls [.int v]) := by
  refine W.widen hc hs ?_
  exact W.zret C.1 C.2.1 hr hv (fun t ht hW => ⟨_, rfl, by rw [ht]; exact hq⟩) hL hdg hlocks
theorem hq_vret (C : hq_C p c s m args own cc TB D cl tys) (hr : meth.sig.returnType = none) (hlocks : meth.locks = false) {mc ms : Nat} (hc : cells ≤ mc) (hs : slots ≤ ms) (hL : hq_L lo locs) (hq : Post s.heap none H) (hdg : decode cc pc = .ok (.return_, 1)) :
    W p l e R s m args below meth c H locs cells slots (MQ below (hq_Q Post) args s mc ms (fun q => lo ≤ q)) (F0 m pc ls []) := by
  refine W.widen hc hs ?_
  exact W.vret C.1 C.2.1 hr (fun t ht hW => ⟨_, rfl, by rw [ht]; exact hq⟩) hL hdg hlocks
theorem hq_aret {rt : FieldType} {q : Nat} (C : hq_C p c s m args own cc TB D cl tys) (hr : meth.sig.returnType = some rt) (hrt : (∃ n, rt = .object n) ∨ ∃ t, rt = .array t) (hlocks : meth.locks = false) {mc ms : Nat} (hc : cells ≤ mc) (hs : slots ≤ ms) (hL : hq_L lo locs) (hq : Post s.heap (some (.ref q)) H) (hdg : decode cc pc = .ok (.areturn, 1)) :
    W p l e R s m args below meth c H locs cells slots (MQ below (hq_Q Post) args s mc ms (fun q => lo ≤ q)) (F0 m pc ls [.ref q]) := by
  refine W.widen hc hs ?_
  exact W.aret C.1 C.2.1 hr hrt (Or.inr ⟨_, rfl⟩) (fun t ht hW => ⟨_, rfl, by rw [ht]; exact hq⟩) hL hdg hlocks
end HQC
