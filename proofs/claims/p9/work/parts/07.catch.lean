/-! A thrown object is caught by a row of the method's own table; catch types may be resolved on the way. -/
section HQH
variable {e : Env} {f : JFrame} {a : Addr} {cell : Cell}
theorem hq_row {s : State} {x : ExceptionTableEntry} {t : List ExceptionTableEntry} {c : ClassId} {Q : Handler → Pre} {E : CtlPost} {d : Bool} {acts : List Action} (hx : covers x f.pc = true) (h0 : x.catchType ≠ 0) (hl : s.vm.ClassLinks e.platform f.method.cls x.catchType c) (hcell : s.heap[a]? = some cell) (hobj : ∀ k, cell.vm ≠ .statics k)
    (hk : ∃ k, s.vm.classes[cell.cls]? = some k) (hc : ∃ k, s.vm.classes[c]? = some k) :
    wp (findHandler.go f a (x :: t)) Q E e d acts s ↔ if s.vm.assignable cell.cls c = true then Q (.found x.handlerPc) d acts (s.setVm (s.vm.noted f.method.cls x.catchType (.cls c))) else wp (findHandler.go f a t) Q E e d acts (s.setVm (s.vm.noted f.method.cls x.catchType (.cls c))) := by
  have hal : s.vm.Alike (s.vm.noted f.method.cls x.catchType (.cls c)) := (Vm.Alike.refl s.vm).noted _ _ _
  obtain ⟨ha, ht⟩ := (resolveClass_links e.toSetting hl).op (op := VmOp.resolveClass f.method.cls x.catchType) rfl
  obtain ⟨k1, hk1⟩ := hk
  obtain ⟨k2, hk2⟩ := hc
  obtain ⟨k3, hk3, -⟩ := hal.2.2 _ _ hk1
  obtain ⟨k4, hk4, -⟩ := hal.2.2 _ _ hk2
  have hasg : (s.vm.noted f.method.cls x.catchType (.cls c)).assignable cell.cls c = s.vm.assignable cell.cls c := by rw [hal.assignable]
  simp only [covers] at hx
  cases hfit : s.vm.assignable cell.cls c <;> rw [hfit] at hasg <;> simp [findHandler.go, hx, h0, ha, ht, hcell, hobj, hk3, hk4, hasg, VmOp.dirties, VmOp.acts]
theorem hq_seek {s0 : State} {x : ExceptionTableEntry} {suf : List ExceptionTableEntry} {cT : ClassId} (hobj : ∀ k, cell.vm ≠ .statics k) (hk : ∃ k, s0.vm.classes[cell.cls]? = some k) (hx : covers x f.pc = true) (h0 : x.catchType ≠ 0) (hl : s0.vm.ClassLinks e.platform f.method.cls x.catchType cT) (hfit : s0.vm.assignable cell.cls cT = true) (pre : List ExceptionTableEntry) :
    ∀ S : State, s0.WarmedH S.vm → S.heap[a]? = some cell → (∀ y ∈ pre, covers y f.pc = false ∨ (y.catchType ≠ 0 ∧ ∃ c, s0.vm.ClassLinks e.platform f.method.cls y.catchType c ∧ s0.vm.assignable cell.cls c = false)) →
      ∃ vm', s0.WarmedH vm' ∧ ∀ (Q : Handler → Pre) (E : CtlPost) (d : Bool) (acts : List Action), wp (findHandler.go f a (pre ++ x :: suf)) Q E e d acts S ↔ Q (.found x.handlerPc) d acts (S.setVm vm') := by
  have kls : ∀ (S : State), s0.WarmedH S.vm → ∀ c : ClassId, (∃ k, s0.vm.classes[c]? = some k) → ∃ k, S.vm.classes[c]? = some k := by
    intro S hW c ⟨k, h⟩
    obtain ⟨k', h', -⟩ := hW.alike.2.2 _ _ h
    exact ⟨k', h'⟩
  induction pre with
  | nil =>
    intro S hW hcell _
    obtain ⟨dk, _, _, kt, hd, _, _, _, _, hkt, _, hopen⟩ := hl.here
    refine ⟨_, hW.noted hd hopen (State.rightAt_cls hl), fun Q E d acts => ?_⟩
    rw [List.nil_append, hq_row hx h0 (hW.classLinks hl) hcell hobj (kls S hW _ hk) (kls S hW _ ⟨kt, hkt⟩), if_pos (by rw [hW.alike.assignable]; exact hfit)]
  | cons z zs ih =>
    intro S hW hcell hpass
    have hps := fun y hy => hpass y (List.mem_cons_of_mem z hy)
    cases hcov : covers z f.pc with
    | false =>
      obtain ⟨vm', hW', hq⟩ := ih S hW hcell hps
      exact ⟨vm', hW', fun Q E d acts => by rw [List.cons_append, _root_.Jvm.W.findHandler_go_skip hcov]; exact hq Q E d acts⟩
    | true =>
      rcases hpass z List.mem_cons_self with h | ⟨hz0, c, hlz, hno⟩
      · rw [hcov] at h; cases h
      · obtain ⟨dk, _, _, kt, hd, _, _, _, _, hkt, _, hopen⟩ := hlz.here
        obtain ⟨vm', hW', hq⟩ := ih (S.setVm (S.vm.noted f.method.cls z.catchType (.cls c))) (hW.noted hd hopen (State.rightAt_cls hlz)) hcell hps
        refine ⟨vm', hW', fun Q E d acts => ?_⟩
        rw [List.cons_append, hq_row hcov hz0 (hW.classLinks hlz) hcell hobj (kls S hW _ hk) (kls S hW _ ⟨kt, hkt⟩), if_neg (by rw [hW.alike.assignable, hno]; decide)]
        exact hq Q E d acts
end HQH
theorem hq_caught {tb : Tables} {e : Env} {s target : State} {g : JFrame} {c : Code} {below : List Frame} {a : Addr} (h : At s g.method c below) {pc : Nat} {vm' : Vm}
    (hf : ∀ (Q : Handler → Pre) (E : CtlPost) (d : Bool) (acts : List Action), wp (findHandler g a) Q E e d acts ((s.setTop g).pushFrame (.throwing a)) ↔ Q (.found pc) d acts (((s.setTop g).pushFrame (.throwing a)).setVm vm'))
    (hrest : Steps tb e below ((s.setVm vm').setTop { g with pc := pc, stack := [.ref a] }) target) : Steps tb e below ((s.setTop g).pushFrame (.throwing a)) target := by
  have hstep : ∀ r : List Frame, (stepThrowing e ((s.setTop g).pushFrame (.throwing a)) a (.java g :: r)).Is ((((s.setTop g).pushFrame (.throwing a)).setVm vm').setFrames (.java { g with pc := pc, stack := [.ref a] } :: r)) [] := by
    intro r
    simp only [stepThrowing, searchFrame, vmDo]
    generalize hr : Sem.go _ e false [] ((s.setTop g).pushFrame (.throwing a)) = res
    obtain ⟨as, rfl, ha⟩ := Sem.eq_ok_of hr (a := Handler.found pc) (s' := ((s.setTop g).pushFrame (.throwing a)).setVm vm') (acts' := []) (by simp [hf _ _ _ _])
    exact ⟨rfl, ha⟩
  obtain ⟨hgo, hw⟩ := h.throwing a
  refine Steps.head hgo hw ?_
  rw [stepThread_throwing (frames_entered h.top _), (hstep _).1]
  obtain ⟨g₀, hg⟩ := Option.isSome_iff_exists.mp h.top
  obtain ⟨r, hr⟩ := State.topJava?_eq_some.mp hg
  have hmove : ∀ (u : State) (F G : List Frame), ((u.setFrames F).setVm vm').setFrames G = (u.setVm vm').setFrames G := fun u F G => by
    rw [show (u.setFrames F).setVm vm' = (u.setVm vm').setFrames F from rfl, State.setFrames_setFrames]
  have hr' : (s.setVm vm').frames = .java g₀ :: r := hr
  rw [State.setTop_of_frames _ hr'] at hrest
  rw [hr, List.tail_cons, State.pushFrame, hmove, State.setTop_of_frames _ hr, hmove]
  exact hrest
section HQK
variable {p : Program} {l : Launch} {e : Env} {R : Room} {s : State} {m : MethodId} {args : Array Value} {below : List Frame} {meth : Method} {c : Code} {H : Heap} {locs : List Loc} {cells slots : Nat} {Q : State → Prop} {pc : Nat} {ls : Array Slot} {rest : List Value}
/-- caught by the row x; each row ahead doesn't cover the place, or names a class that E is not -/
theorem hq_catch {own name E : String} {ce : Cell} {q : Addr} (hown : s.vm.findClass own = some m.cls) (pre : List ExceptionTableEntry) (x : ExceptionTableEntry) (suf : List ExceptionTableEntry) (hsplit : c.exceptionTable.toList = pre ++ x :: suf)
    (hpass : ∀ z ∈ pre, covers z pc = false ∨ (z.catchType ≠ 0 ∧ ∃ nm : String, (Cond.classLink own z.catchType nm).before args s = true ∧ ∀ c1 c2, s.vm.findClass E = some c1 → s.vm.findClass nm = some c2 → s.vm.assignable c1 c2 = false)) (hx : covers x pc = true) (h0 : x.catchType ≠ 0)
    (hlink : (Cond.classLink own x.catchType name).before args s = true) (hcast : (Cond.castable E name).before args s = true) (hcell : H[q]? = some ce) (hv : ce.vm = .none) (hcl : s.vm.findClass E = some ce.cls)
    (kk : W p l e R s m args below meth c H locs cells slots Q (F0 m x.handlerPc ls [.ref q])) : hq_V p l e R s m args below meth c H locs cells slots Q (F0 m pc ls rest) q := by
  intro T hT X
  have hpl : e.platform.magicAccessors = ({} : Platform).magicAccessors := by rw [X.admits.platform]
  obtain ⟨c3, c4, hc3, hc4, hasg⟩ := Cond.castable_spec hcast
  cases Option.some.inj (hc3.symm.trans hcl)
  obtain ⟨c5, hc5, hcl5⟩ := Cond.classLink_spec hown hlink e.platform hpl
  cases Option.some.inj (hc4.symm.trans hc5)
  have hkE : ∃ k, s.vm.classes[ce.cls]? = some k := by
    obtain ⟨k9, h9, -⟩ := Vm.findClass_spec hcl
    exact ⟨k9, h9⟩
  have hW9 : s.WarmedH ((T.setTop (F0 m pc ls rest)).pushFrame (.throwing q)).vm := by rw [Stand.throwing_vm]; exact X.warmed
  have hh9 : ((T.setTop (F0 m pc ls rest)).pushFrame (.throwing q)).heap[q]? = some ce := by rw [Stand.throwing_heap, hT]; exact hcell
  obtain ⟨vm', hW', hq⟩ := hq_seek (e := e) (f := F0 m pc ls rest) (a := q) (x := x) (suf := suf) (by rw [hv]; exact fun k h => by cases h) hkE hx h0 hcl5 hasg pre ((T.setTop (F0 m pc ls rest)).pushFrame (.throwing q)) hW9 hh9 (fun z hz => by
    rcases hpass z hz with h | ⟨hz0, nm, hl1, hn1⟩
    · exact Or.inl h
    · obtain ⟨c6, hc6, hcl6⟩ := Cond.classLink_spec hown hl1 e.platform hpl
      exact Or.inr ⟨hz0, c6, hcl6, hn1 _ _ hcl hc6⟩)
  have hm9 : ((T.setTop (F0 m pc ls rest)).pushFrame (.throwing q)).vm.method? (F0 m pc ls rest).method = some meth := by rw [Stand.throwing_vm]; exact X.method'
  obtain ⟨t, a1, b1⟩ := kk (T.setVm vm') hT (X.noted hW')
  refine ⟨t, hq_caught (c := c) X.here (vm' := vm') (pc := x.handlerPc) (fun Q E d acts => ?_) a1, b1⟩
  rw [_root_.Jvm.W.findHandler_eq hm9 X.code, hsplit]
  exact hq Q E d acts
end HQK
