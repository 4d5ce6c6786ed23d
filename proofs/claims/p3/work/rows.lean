section
-- ===== PART A: goes FIRST, ahead of the names: the tables' words, and 'selects' of the private methods out of them =====
/-- a private method of a class that the tables say can be made, by its rows of tables_1 -/
def lw_okq (q : MethodName × Nat) : Prop := (q.1.cls ≠ "java/lang/invoke/MethodHandle" ∧ q.1.cls ≠ "java/lang/invoke/VarHandle") ∧ Cond.instantiable q.1.cls q.2 ∈ tables_1 ∧ Cond.privateMethod q.1 ∈ tables_1 ∧ Cond.instanceMethod q.1 ∈ tables_1
theorem lw_p0 : lw_okq (⟨"StrongBus", "nodeOf", "(I)LStrongBus$Node;"⟩, 3) := ⟨⟨by decide +kernel, by decide +kernel⟩, List.mem_of_getElem? (i := 15) (by decide +kernel), List.mem_of_getElem? (i := 206) (by decide +kernel), List.mem_of_getElem? (i := 207) (by decide +kernel)⟩
theorem lw_p1 : lw_okq (⟨"java/lang/Throwable", "fillInStackTrace", "(I)Ljava/lang/Throwable;"⟩, 6) := ⟨⟨by decide +kernel, by decide +kernel⟩, List.mem_of_getElem? (i := 247) (by decide +kernel), List.mem_of_getElem? (i := 245) (by decide +kernel), List.mem_of_getElem? (i := 246) (by decide +kernel)⟩
theorem lw_p2 : lw_okq (⟨"StrongBus", "passOne", "()V"⟩, 3) := ⟨⟨by decide +kernel, by decide +kernel⟩, List.mem_of_getElem? (i := 15) (by decide +kernel), List.mem_of_getElem? (i := 342) (by decide +kernel), List.mem_of_getElem? (i := 343) (by decide +kernel)⟩
theorem lw_p3 : lw_okq (⟨"StrongBusModel", "noNode", "(I)Z"⟩, 32) := ⟨⟨by decide +kernel, by decide +kernel⟩, List.mem_of_getElem? (i := 575) (by decide +kernel), List.mem_of_getElem? (i := 686) (by decide +kernel), List.mem_of_getElem? (i := 687) (by decide +kernel)⟩
theorem lw_p4 : lw_okq (⟨"StrongBusModel", "bitTime", "()V"⟩, 32) := ⟨⟨by decide +kernel, by decide +kernel⟩, List.mem_of_getElem? (i := 575) (by decide +kernel), List.mem_of_getElem? (i := 702) (by decide +kernel), List.mem_of_getElem? (i := 703) (by decide +kernel)⟩
theorem lw_p5 : lw_okq (⟨"StrongBusModel", "begin", "(I)V"⟩, 32) := ⟨⟨by decide +kernel, by decide +kernel⟩, List.mem_of_getElem? (i := 575) (by decide +kernel), List.mem_of_getElem? (i := 706) (by decide +kernel), List.mem_of_getElem? (i := 707) (by decide +kernel)⟩
theorem lw_p6 : lw_okq (⟨"StrongBusModel", "open", "(II)V"⟩, 32) := ⟨⟨by decide +kernel, by decide +kernel⟩, List.mem_of_getElem? (i := 575) (by decide +kernel), List.mem_of_getElem? (i := 710) (by decide +kernel), List.mem_of_getElem? (i := 711) (by decide +kernel)⟩
theorem lw_p7 : lw_okq (⟨"StrongBusModel", "driven", "(I)I"⟩, 32) := ⟨⟨by decide +kernel, by decide +kernel⟩, List.mem_of_getElem? (i := 575) (by decide +kernel), List.mem_of_getElem? (i := 714) (by decide +kernel), List.mem_of_getElem? (i := 715) (by decide +kernel)⟩
theorem lw_p8 : lw_okq (⟨"StrongBusModel", "coreBit", "(I)I"⟩, 32) := ⟨⟨by decide +kernel, by decide +kernel⟩, List.mem_of_getElem? (i := 575) (by decide +kernel), List.mem_of_getElem? (i := 718) (by decide +kernel), List.mem_of_getElem? (i := 719) (by decide +kernel)⟩
theorem lw_p9 : lw_okq (⟨"StrongBusModel", "see", "(II)V"⟩, 32) := ⟨⟨by decide +kernel, by decide +kernel⟩, List.mem_of_getElem? (i := 575) (by decide +kernel), List.mem_of_getElem? (i := 722) (by decide +kernel), List.mem_of_getElem? (i := 723) (by decide +kernel)⟩
theorem lw_p10 : lw_okq (⟨"StrongBusModel", "send", "(II)V"⟩, 32) := ⟨⟨by decide +kernel, by decide +kernel⟩, List.mem_of_getElem? (i := 575) (by decide +kernel), List.mem_of_getElem? (i := 726) (by decide +kernel), List.mem_of_getElem? (i := 727) (by decide +kernel)⟩
theorem lw_p11 : lw_okq (⟨"StrongBusModel", "hear", "(II)V"⟩, 32) := ⟨⟨by decide +kernel, by decide +kernel⟩, List.mem_of_getElem? (i := 575) (by decide +kernel), List.mem_of_getElem? (i := 730) (by decide +kernel), List.mem_of_getElem? (i := 731) (by decide +kernel)⟩
theorem lw_p12 : lw_okq (⟨"StrongBusModel", "readCore", "(II)I"⟩, 32) := ⟨⟨by decide +kernel, by decide +kernel⟩, List.mem_of_getElem? (i := 575) (by decide +kernel), List.mem_of_getElem? (i := 734) (by decide +kernel), List.mem_of_getElem? (i := 735) (by decide +kernel)⟩
theorem lw_p13 : lw_okq (⟨"StrongBusModel", "coreLength", "(I)I"⟩, 32) := ⟨⟨by decide +kernel, by decide +kernel⟩, List.mem_of_getElem? (i := 575) (by decide +kernel), List.mem_of_getElem? (i := 738) (by decide +kernel), List.mem_of_getElem? (i := 739) (by decide +kernel)⟩
theorem lw_p14 : lw_okq (⟨"StrongBusModel", "err", "(III)V"⟩, 32) := ⟨⟨by decide +kernel, by decide +kernel⟩, List.mem_of_getElem? (i := 575) (by decide +kernel), List.mem_of_getElem? (i := 742) (by decide +kernel), List.mem_of_getElem? (i := 743) (by decide +kernel)⟩
theorem lw_p15 : lw_okq (⟨"StrongBusModel", "isPassive", "(I)Z"⟩, 32) := ⟨⟨by decide +kernel, by decide +kernel⟩, List.mem_of_getElem? (i := 575) (by decide +kernel), List.mem_of_getElem? (i := 746) (by decide +kernel), List.mem_of_getElem? (i := 747) (by decide +kernel)⟩
def lw_privs_1 : List (MethodName × Nat) := [(⟨"StrongBus", "nodeOf", "(I)LStrongBus$Node;"⟩, 3), (⟨"java/lang/Throwable", "fillInStackTrace", "(I)Ljava/lang/Throwable;"⟩, 6), (⟨"StrongBus", "passOne", "()V"⟩, 3), (⟨"StrongBusModel", "noNode", "(I)Z"⟩, 32), (⟨"StrongBusModel", "bitTime", "()V"⟩, 32), (⟨"StrongBusModel", "begin", "(I)V"⟩, 32), (⟨"StrongBusModel", "open", "(II)V"⟩, 32), (⟨"StrongBusModel", "driven", "(I)I"⟩, 32), (⟨"StrongBusModel", "coreBit", "(I)I"⟩, 32), (⟨"StrongBusModel", "see", "(II)V"⟩, 32), (⟨"StrongBusModel", "send", "(II)V"⟩, 32), (⟨"StrongBusModel", "hear", "(II)V"⟩, 32), (⟨"StrongBusModel", "readCore", "(II)I"⟩, 32), (⟨"StrongBusModel", "coreLength", "(I)I"⟩, 32), (⟨"StrongBusModel", "err", "(III)V"⟩, 32), (⟨"StrongBusModel", "isPassive", "(I)Z"⟩, 32)]
theorem lw_r1 : ∀ q ∈ lw_privs_1, lw_okq q := List.forall_mem_cons.mpr ⟨lw_p0, List.forall_mem_cons.mpr ⟨lw_p1, List.forall_mem_cons.mpr ⟨lw_p2, List.forall_mem_cons.mpr ⟨lw_p3, List.forall_mem_cons.mpr ⟨lw_p4, List.forall_mem_cons.mpr ⟨lw_p5, List.forall_mem_cons.mpr ⟨lw_p6, List.forall_mem_cons.mpr ⟨lw_p7, List.forall_mem_cons.mpr ⟨lw_p8, List.forall_mem_cons.mpr ⟨lw_p9, List.forall_mem_cons.mpr ⟨lw_p10, List.forall_mem_cons.mpr ⟨lw_p11, List.forall_mem_cons.mpr ⟨lw_p12, List.forall_mem_cons.mpr ⟨lw_p13, List.forall_mem_cons.mpr ⟨lw_p14, List.forall_mem_cons.mpr ⟨lw_p15, fun _ h => absurd h List.not_mem_nil⟩⟩⟩⟩⟩⟩⟩⟩⟩⟩⟩⟩⟩⟩⟩⟩
theorem lw_p16 : lw_okq (⟨"StrongBusModel", "goesOff", "(I)Z"⟩, 32) := ⟨⟨by decide +kernel, by decide +kernel⟩, List.mem_of_getElem? (i := 575) (by decide +kernel), List.mem_of_getElem? (i := 750) (by decide +kernel), List.mem_of_getElem? (i := 751) (by decide +kernel)⟩
theorem lw_p17 : lw_okq (⟨"StrongBusModel", "flag", "(IIZ)V"⟩, 32) := ⟨⟨by decide +kernel, by decide +kernel⟩, List.mem_of_getElem? (i := 575) (by decide +kernel), List.mem_of_getElem? (i := 754) (by decide +kernel), List.mem_of_getElem? (i := 755) (by decide +kernel)⟩
theorem lw_p18 : lw_okq (⟨"StrongBusModel", "heardFrame", "(II)V"⟩, 32) := ⟨⟨by decide +kernel, by decide +kernel⟩, List.mem_of_getElem? (i := 575) (by decide +kernel), List.mem_of_getElem? (i := 758) (by decide +kernel), List.mem_of_getElem? (i := 759) (by decide +kernel)⟩
theorem lw_p19 : lw_okq (⟨"StrongBusModel", "overload", "(I)V"⟩, 32) := ⟨⟨by decide +kernel, by decide +kernel⟩, List.mem_of_getElem? (i := 575) (by decide +kernel), List.mem_of_getElem? (i := 762) (by decide +kernel), List.mem_of_getElem? (i := 763) (by decide +kernel)⟩
theorem lw_p20 : lw_okq (⟨"StrongBusModel", "rest", "(I)V"⟩, 32) := ⟨⟨by decide +kernel, by decide +kernel⟩, List.mem_of_getElem? (i := 575) (by decide +kernel), List.mem_of_getElem? (i := 766) (by decide +kernel), List.mem_of_getElem? (i := 767) (by decide +kernel)⟩
theorem lw_p21 : lw_okq (⟨"StrongBusModel", "sentFrame", "(I)V"⟩, 32) := ⟨⟨by decide +kernel, by decide +kernel⟩, List.mem_of_getElem? (i := 575) (by decide +kernel), List.mem_of_getElem? (i := 770) (by decide +kernel), List.mem_of_getElem? (i := 771) (by decide +kernel)⟩
theorem lw_p22 : lw_okq (⟨"StrongBusModel", "flagging", "(II)V"⟩, 32) := ⟨⟨by decide +kernel, by decide +kernel⟩, List.mem_of_getElem? (i := 575) (by decide +kernel), List.mem_of_getElem? (i := 774) (by decide +kernel), List.mem_of_getElem? (i := 775) (by decide +kernel)⟩
theorem lw_p23 : lw_okq (⟨"StrongBusModel", "eightMore", "(I)Z"⟩, 32) := ⟨⟨by decide +kernel, by decide +kernel⟩, List.mem_of_getElem? (i := 575) (by decide +kernel), List.mem_of_getElem? (i := 778) (by decide +kernel), List.mem_of_getElem? (i := 779) (by decide +kernel)⟩
theorem lw_p24 : lw_okq (⟨"StrongBusModel", "goAfter", "(II)V"⟩, 32) := ⟨⟨by decide +kernel, by decide +kernel⟩, List.mem_of_getElem? (i := 575) (by decide +kernel), List.mem_of_getElem? (i := 782) (by decide +kernel), List.mem_of_getElem? (i := 783) (by decide +kernel)⟩
theorem lw_p25 : lw_okq (⟨"StrongBusModel", "pausing", "(II)V"⟩, 32) := ⟨⟨by decide +kernel, by decide +kernel⟩, List.mem_of_getElem? (i := 575) (by decide +kernel), List.mem_of_getElem? (i := 786) (by decide +kernel), List.mem_of_getElem? (i := 787) (by decide +kernel)⟩
theorem lw_p26 : lw_okq (⟨"StrongBusModel", "start", "(I)V"⟩, 32) := ⟨⟨by decide +kernel, by decide +kernel⟩, List.mem_of_getElem? (i := 575) (by decide +kernel), List.mem_of_getElem? (i := 790) (by decide +kernel), List.mem_of_getElem? (i := 791) (by decide +kernel)⟩
theorem lw_p27 : lw_okq (⟨"StrongBusModel", "offTime", "(II)V"⟩, 32) := ⟨⟨by decide +kernel, by decide +kernel⟩, List.mem_of_getElem? (i := 575) (by decide +kernel), List.mem_of_getElem? (i := 794) (by decide +kernel), List.mem_of_getElem? (i := 795) (by decide +kernel)⟩
def lw_privs_2 : List (MethodName × Nat) := [(⟨"StrongBusModel", "goesOff", "(I)Z"⟩, 32), (⟨"StrongBusModel", "flag", "(IIZ)V"⟩, 32), (⟨"StrongBusModel", "heardFrame", "(II)V"⟩, 32), (⟨"StrongBusModel", "overload", "(I)V"⟩, 32), (⟨"StrongBusModel", "rest", "(I)V"⟩, 32), (⟨"StrongBusModel", "sentFrame", "(I)V"⟩, 32), (⟨"StrongBusModel", "flagging", "(II)V"⟩, 32), (⟨"StrongBusModel", "eightMore", "(I)Z"⟩, 32), (⟨"StrongBusModel", "goAfter", "(II)V"⟩, 32), (⟨"StrongBusModel", "pausing", "(II)V"⟩, 32), (⟨"StrongBusModel", "start", "(I)V"⟩, 32), (⟨"StrongBusModel", "offTime", "(II)V"⟩, 32)]
theorem lw_r2 : ∀ q ∈ lw_privs_2, lw_okq q := List.forall_mem_cons.mpr ⟨lw_p16, List.forall_mem_cons.mpr ⟨lw_p17, List.forall_mem_cons.mpr ⟨lw_p18, List.forall_mem_cons.mpr ⟨lw_p19, List.forall_mem_cons.mpr ⟨lw_p20, List.forall_mem_cons.mpr ⟨lw_p21, List.forall_mem_cons.mpr ⟨lw_p22, List.forall_mem_cons.mpr ⟨lw_p23, List.forall_mem_cons.mpr ⟨lw_p24, List.forall_mem_cons.mpr ⟨lw_p25, List.forall_mem_cons.mpr ⟨lw_p26, List.forall_mem_cons.mpr ⟨lw_p27, fun _ h => absurd h List.not_mem_nil⟩⟩⟩⟩⟩⟩⟩⟩⟩⟩⟩⟩
def lw_privs : List (MethodName × Nat) := lw_privs_1 ++ (lw_privs_2)
def lw_tbl : List Cond := k2_sels lw_privs ++ tables_1
theorem lw_privs_ok : ∀ q ∈ lw_privs, lw_okq q := by
  show ∀ q ∈ lw_privs_1 ++ (lw_privs_2), lw_okq q
  exact List.forall_mem_append.mpr ⟨lw_r1, lw_r2⟩
/-- the words that hold at every warmer state: one list for all methods -/
def TB : List Cond := lw_tbl.filter goodWord
theorem tb_good : GoodIn TB TB := fun w h => ⟨h, good_of_word (List.mem_filter.mp h).2⟩
theorem tb_in {w : Cond} (h : w ∈ lw_tbl) (hg : goodWord w = true) : w ∈ TB := List.mem_filter.mpr ⟨h, hg⟩
theorem tb_at {w : Cond} (i : Nat) (h : lw_tbl[i]? = some w) (hg : goodWord w = true) : w ∈ TB := tb_in (List.mem_of_getElem? h) hg
end
section
/-! The heap by its cells: va_at says what stands at an address; a row that writes says that all else is as it was. lo: below it nothing is written. -/
def hq_L (lo : Nat) (locs : List Loc) : Prop := ∀ z ∈ locs, lo ≤ z.base
theorem hq_L0 {lo : Nat} : hq_L lo [] := fun _ h => by cases h
theorem hq_La {lo a k : Nat} {locs : List Loc} (h : hq_L lo locs) (ha : lo ≤ a) : hq_L lo (locs ++ [⟨a, k⟩]) := by
  intro z hz
  rcases List.mem_append.mp hz with h1 | h1
  · exact h z h1
  · rw [List.mem_singleton.mp h1]; exact ha
theorem hq_Lp {lo : Nat} {locs L : List Loc} (h : hq_L lo locs) (hL : ∀ z ∈ L, lo ≤ z.base) : hq_L lo (locs ++ L) := by
  intro z hz
  rcases List.mem_append.mp hz with h1 | h1
  · exact h z h1
  · exact hL z h1
theorem hq_one {D : va_G} {cl : List vw_C} {q : Nat × va_E} {H : Heap} (h : va_at D cl q H) : va_P D cl [q] H := by
  intro k x hk
  cases k with
  | zero => cases hk; exact h
  | succ k => simp at hk
/-- the cell a is e now, all else is as it was -/
def hq_U (D : va_G) (cl : List vw_C) (a : Nat) (e : va_E) (H H1 : Heap) : Prop := H1.size = H.size ∧ (∀ q : Nat, q ≠ a → H1[q]? = H[q]?) ∧ va_at D cl (a, e) H1
/-- a new cell h with e, all else is as it was -/
def hq_N (D : va_G) (cl : List vw_C) (h : Nat) (e : va_E) (H H1 : Heap) : Prop := H1.size = h + 1 ∧ (∀ q : Nat, q < h → H1[q]? = H[q]?) ∧ va_at D cl (h, e) H1
/-- what a method's rows stand on -/
def hq_C (p : Program) (c : Code) (s : State) (m : MethodId) (args : Array Value) (own : String) (cc : ByteArray) (Ts : List Cond) (D : va_G) (cl : List vw_C) (tys : List (ClassId × FieldType)) : Prop :=
  p.tables.exec = Jvm.exec ∧ c.code = cc ∧ s.vm.findClass own = some m.cls ∧ (∀ w ∈ Ts, w.before args s = true) ∧ va_K D cl tys s
/-- a class of the list: its words are among the given -/
def hq_K (Ts : List Cond) (cl : List vw_C) (ci : Nat) (C : String) (T : u_T) (N : Nat) (ty0 : Nat → FieldType) : Prop :=
  cl[ci]? = some (C, T, N) ∧ (∀ w ∈ u_ws C T N, w ∈ Ts) ∧ (∀ j, j < N → parseFieldDescriptor (T j).2.2.1 = some (ty0 j)) ∧ (∀ a, a < N → ∀ b, b < N → a ≠ b → (T a).2.1 ≠ (T b).2.1)
/-- a field by its place in the constant pool of 'own': field k of class ci -/
def hq_F (Ts : List Cond) (cl : List vw_C) (own : String) (index ci k : Nat) (ty : FieldType) (fin : Bool) : Prop :=
  ∃ (C : String) (T : u_T) (N : Nat) (ty0 : Nat → FieldType), hq_K Ts cl ci C T N ty0 ∧ k < N ∧ Cond.fieldLink own index (T k).1 (T k).2.1 (T k).2.2.1 ∈ Ts ∧ (T k).2.2.2 = fin ∧ parseFieldDescriptor (T k).2.2.1 = some ty ∧ (T k).1 = C
theorem hq_K.mono {Ts Ts' : List Cond} {cl : List vw_C} {ci : Nat} {C : String} {T : u_T} {N : Nat} {ty0 : Nat → FieldType} (h : hq_K Ts cl ci C T N ty0) (hs : ∀ w ∈ Ts, w ∈ Ts') : hq_K Ts' cl ci C T N ty0 := ⟨h.1, fun w hw => hs w (h.2.1 w hw), h.2.2⟩
theorem hq_F.mono {Ts Ts' : List Cond} {cl : List vw_C} {own : String} {index ci k : Nat} {ty : FieldType} {fin : Bool} (h : hq_F Ts cl own index ci k ty fin) (hs : ∀ w ∈ Ts, w ∈ Ts') : hq_F Ts' cl own index ci k ty fin := by
  obtain ⟨C, T, N, ty0, h1, h2, h3, h4⟩ := h
  exact ⟨C, T, N, ty0, h1.mono hs, h2, hs _ h3, h4⟩
section HQ
variable {p : Program} {l : Launch} {e : Env} {R : Room} {s : State} {m : MethodId} {args : Array Value} {below : List Frame} {meth : Method} {c : Code} {H : Heap} {locs : List Loc} {cells slots : Nat} {Q : State → Prop}
variable {cc : ByteArray} {pc : Nat} {ls : Array Slot} {rest : List Value} {D : va_G} {cl : List vw_C} {a lo : Nat} {tys : List (ClassId × FieldType)} {own : String} {Ts : List Cond}
theorem hq_get (C : hq_C p c s m args own cc Ts D cl tys) {index ci k : Nat} {ty : FieldType} {fin : Bool} (F : hq_F Ts cl own index ci k ty fin) {fs : List Value} {v : Value} (h : va_at D cl (a, .inr (ci, fs)) H) (hv : fs[k]? = some v) (hdg : decode cc pc = .ok (.getfield index, 3))
    (kk : W p l e R s m args below meth c H locs cells slots Q (F0 m (pc + 3) ls (v :: rest))) : W p l e R s m args below meth c H locs cells slots Q (F0 m pc ls (.ref a :: rest)) := by
  obtain ⟨hx, hb, hown, hts, hK⟩ := C
  obtain ⟨Cn, T, N, ty0, ⟨hc, hin, -, -⟩, hk, hl, -, -, -⟩ := F
  exact va_get (D := D) (ci := ci) (v := v) (C := Cn) (T := T) (N := N) hx hb hts hin hown hK (hq_one h) 0 rfl hc k hk (hts _ hl) (fun _ h9 => h9) hv hdg kk
theorem hq_put (C : hq_C p c s m args own cc Ts D cl tys) {index ci k : Nat} {ty : FieldType} (F : hq_F Ts cl own index ci k ty false) {fs : List Value} {v : Value} (h : va_at D cl (a, .inr (ci, fs)) H) (hn : narrow ty v = v) (hfit : fits ty v = true) (hl : k < fs.length) (hL : hq_L lo locs) (ha : lo ≤ a) (hdg : decode cc pc = .ok (.putfield index, 3))
    (kk : ∀ (H1 : Heap) (locs1 : List Loc), hq_U D cl a (.inr (ci, fs.set k v)) H H1 → hq_L lo locs1 → W p l e R s m args below meth c H1 locs1 cells slots Q (F0 m (pc + 3) ls rest)) : W p l e R s m args below meth c H locs cells slots Q (F0 m pc ls (v :: .ref a :: rest)) := by
  obtain ⟨hx, hb, hown, hts, hK⟩ := C
  obtain ⟨Cn, T, N, ty0, ⟨hc, hin, hty, hnm⟩, hk, hli, hfin, hd, -⟩ := F
  have hap := va_apart (own := own) hts hin ty0 hty hnm hK hc
  obtain ⟨r, h1, cell, q1, q2, q3, q4⟩ := h
  have hr : r = (Cn, T, N) := Option.some.inj (h1.symm.trans hc)
  subst hr
  obtain ⟨hS, hfc, kC, hkC, hkind⟩ := hK.1 ci _ hc
  obtain ⟨cf, kf, fi, f, hi, hsl⟩ := hS k hk
  have hlay := hts _ (hin _ (u_in_lay hk))
  unfold u_lay at hlay
  rw [if_neg (by rw [hfin]; decide)] at hlay
  have hst := (u_facts hfc hkC (u_lays hts hin hk) hi).1
  have h6 := u_store hfc hkC hkind hlay hi hd hn hfit
  refine W.putK hx hb (f := f) ⟨hown, hts _ hli, ⟨_, _, _, hi⟩, hst⟩ (by rw [q2]; exact h6) q1 q3 (by rw [hsl]; exact k2_hasslot (q4 k hk)) rfl rfl hdg fun H' e1 e2 e3 => ?_
  rw [hsl] at e1 ⊢
  exact kk H' _ ⟨e2, e3, ⟨_, hc, t_OB.to (V := updV (vp_V fs) k v) ⟨_, e1, q2, q3, t_set q4 hap hk v⟩ (fun j _ => vp_updV_set hl v j)⟩⟩ (hq_La hL ha)
theorem hq_putF (C : hq_C p c s m args own cc Ts D cl tys) {index ci k : Nat} {ty : FieldType} (F : hq_F Ts cl own index ci k ty true) (hin2 : meth.name = "<init>") (hC : ∀ r, cl[ci]? = some r → r.1 = own) {fs : List Value} {v : Value} (h : va_at D cl (a, .inr (ci, fs)) H) (hn : narrow ty v = v) (hfit : fits ty v = true) (hl : k < fs.length) (hL : hq_L lo locs) (ha : lo ≤ a) (hdg : decode cc pc = .ok (.putfield index, 3))
    (kk : ∀ (H1 : Heap) (locs1 : List Loc), hq_U D cl a (.inr (ci, fs.set k v)) H H1 → hq_L lo locs1 → W p l e R s m args below meth c H1 locs1 cells slots Q (F0 m (pc + 3) ls rest)) : W p l e R s m args below meth c H locs cells slots Q (F0 m pc ls (v :: .ref a :: rest)) := by
  obtain ⟨hx, hb, hown, hts, hK⟩ := C
  obtain ⟨Cn, T, N, ty0, ⟨hc, hin, hty, hnm⟩, hk, hli, hfin, hd, hdC⟩ := F
  have hdecl : (T k).1 = own := hdC.trans (hC _ hc)
  have hap := va_apart (own := own) hts hin ty0 hty hnm hK hc
  obtain ⟨r, h1, cell, q1, q2, q3, q4⟩ := h
  have hr : r = (Cn, T, N) := Option.some.inj (h1.symm.trans hc)
  subst hr
  obtain ⟨hS, hfc, kC, hkC, hkind⟩ := hK.1 ci _ hc
  obtain ⟨cf, kf, fi, f, hi, hsl⟩ := hS k hk
  have hlay := hts _ (hin _ (u_in_lay hk))
  unfold u_lay at hlay
  rw [if_pos hfin] at hlay
  have hst := (u_facts hfc hkC (u_lays hts hin hk) hi).1
  have hcf : m.cls = cf := by
    obtain ⟨_, _, c', _, _, _, -, -, hf', -, -, -, hown2, -⟩ := Cond.laysFinal_spec hlay
    have e1 : c' = cf := by have := hi.symm.trans hf'; simp at this; exact this.1.symm
    rw [hdecl] at hown2
    rw [← e1]; exact Option.some.inj (hown.symm.trans hown2)
  have h6 := u_fits hfc hkC hkind (Or.inr hlay) hi hd hn hfit
  refine W.putFinK hx hb hown (hts _ hli) hi hst hcf hin2 (by rw [q2]; exact h6) q1 q3 (by rw [hsl]; exact k2_hasslot (q4 k hk)) rfl rfl hdg fun H' e1 e2 e3 => ?_
  rw [hsl] at e1 ⊢
  exact kk H' _ ⟨e2, e3, ⟨_, hc, t_OB.to (V := updV (vp_V fs) k v) ⟨_, e1, q2, q3, t_set q4 hap hk v⟩ (fun j _ => vp_updV_set hl v j)⟩⟩ (hq_La hL ha)
theorem hq_iald (C : hq_C p c s m args own cc Ts D cl tys) (t0 : Nat) {cA : ClassId} {n : Nat} {f : Nat → Int32} (ht : tys[t0]? = some (cA, .int)) (h : va_at D cl (a, .inl (cA, n, .inl f)) H) {i : Int32} (hin : vp_in i n) (hdg : decode cc pc = .ok (.iaload, 1))
    (kk : W p l e R s m args below meth c H locs cells slots Q (F0 m (pc + 1) ls (.int (f i.toNatClampNeg) :: rest))) : W p l e R s m args below meth c H locs cells slots Q (F0 m pc ls (.int i :: .ref a :: rest)) :=
  va_iald C.1 C.2.1 C.2.2.2.2 (hq_one h) 0 t0 rfl ht hin hdg kk
theorem hq_zald (C : hq_C p c s m args own cc Ts D cl tys) (t0 : Nat) {cA : ClassId} {n : Nat} {f : Nat → Int32} (ht : tys[t0]? = some (cA, .boolean)) (h : va_at D cl (a, .inl (cA, n, .inl f)) H) {i : Int32} (hin : vp_in i n) (hdg : decode cc pc = .ok (.baload, 1))
    (kk : W p l e R s m args below meth c H locs cells slots Q (F0 m (pc + 1) ls (.int (f i.toNatClampNeg) :: rest))) : W p l e R s m args below meth c H locs cells slots Q (F0 m pc ls (.int i :: .ref a :: rest)) :=
  va_zald C.1 C.2.1 C.2.2.2.2 (hq_one h) 0 t0 rfl ht hin hdg kk
theorem hq_aald (C : hq_C p c s m args own cc Ts D cl tys) (t0 : Nat) {cA : ClassId} {Cn : String} {n : Nat} {f : Nat → Option Nat} (ht : tys[t0]? = some (cA, .object Cn)) (h : va_at D cl (a, .inl (cA, n, .inr (.inr (.inr (.inr f))))) H) {i : Int32} (hin : vp_in i n) {q : Nat} (hq : f i.toNatClampNeg = some q) (hdg : decode cc pc = .ok (.aaload, 1))
    (kk : W p l e R s m args below meth c H locs cells slots Q (F0 m (pc + 1) ls (.ref q :: rest))) : W p l e R s m args below meth c H locs cells slots Q (F0 m pc ls (.int i :: .ref a :: rest)) :=
  va_aldq C.1 C.2.1 C.2.2.2.2 (hq_one h) 0 t0 rfl ht hin hdg (by rw [hq]; exact kk)
theorem hq_alen (C : hq_C p c s m args own cc Ts D cl tys) (t0 : Nat) {cA : ClassId} {x : vp_A} {ty : FieldType} (ht : tys[t0]? = some (cA, ty)) (h : va_at D cl (a, .inl (cA, x)) H) {v : Int32} (hv : Int32.ofNat x.1 = v) (hdg : decode cc pc = .ok (.arraylength, 1))
    (kk : W p l e R s m args below meth c H locs cells slots Q (F0 m (pc + 1) ls (.int v :: rest))) : W p l e R s m args below meth c H locs cells slots Q (F0 m pc ls (.ref a :: rest)) :=
  va_alen C.1 C.2.1 C.2.2.2.2 (hq_one h) 0 t0 rfl ht hv hdg kk
theorem hq_iast (C : hq_C p c s m args own cc Ts D cl tys) (t0 : Nat) {cA : ClassId} {n : Nat} {f : Nat → Int32} (ht : tys[t0]? = some (cA, .int)) (h : va_at D cl (a, .inl (cA, n, .inl f)) H) {i x : Int32} (hin : vp_in i n) (hL : hq_L lo locs) (ha : lo ≤ a) (hdg : decode cc pc = .ok (.iastore, 1))
    (kk : ∀ (H1 : Heap) (locs1 : List Loc), hq_U D cl a (.inl (cA, n, .inl (upd f i.toNatClampNeg x))) H H1 → hq_L lo locs1 → W p l e R s m args below meth c H1 locs1 cells slots Q (F0 m (pc + 1) ls rest)) : W p l e R s m args below meth c H locs cells slots Q (F0 m pc ls (.int x :: .int i :: .ref a :: rest)) := by
  obtain ⟨hx, hb, hown, hts, hK⟩ := C
  refine W.iast hx hb h ((hK.2 t0 _ ht).1 n (fun j => .int (f j))) (fun q => by cases q) (by show ¬ (i < 0 ∨ (arrV _ _ _).slots.size ≤ _); rw [arrV_size]; exact hin) rfl rfl hdg fun H1 e1 z oq => ?_
  refine kk H1 _ ⟨z, oq, ?_⟩ (hq_La hL ha)
  show H1[a]? = some (vp_cell _ _)
  rw [e1, vp_cell_i, vp_cell_i, arrV_store]
  congr 2
  funext q
  by_cases hq : q = i.toNatClampNeg
  · subst hq
    simp [updV, upd]
  · simp [updV, upd, hq]
theorem hq_last (C : hq_C p c s m args own cc Ts D cl tys) (t0 : Nat) {cA : ClassId} {n : Nat} {f : Nat → Int64} (ht : tys[t0]? = some (cA, .long)) (h : va_at D cl (a, .inl (cA, n, .inr (.inl f))) H) {i : Int32} {x : Int64} (hin : vp_in i n) (hL : hq_L lo locs) (ha : lo ≤ a) (hdg : decode cc pc = .ok (.lastore, 1))
    (kk : ∀ (H1 : Heap) (locs1 : List Loc), hq_U D cl a (.inl (cA, n, .inr (.inl (vp_updL f i.toNatClampNeg x)))) H H1 → hq_L lo locs1 → W p l e R s m args below meth c H1 locs1 cells slots Q (F0 m (pc + 1) ls rest)) : W p l e R s m args below meth c H locs cells slots Q (F0 m pc ls (.long x :: .int i :: .ref a :: rest)) := by
  obtain ⟨hx, hb, hown, hts, hK⟩ := C
  refine W.last hx hb h ((hK.2 t0 _ ht).1 n (fun j => .long (f j))) (fun q => by cases q) (by show ¬ (i < 0 ∨ (arrV _ _ _).slots.size ≤ _); rw [arrV_size]; exact hin) rfl rfl hdg fun H1 e1 z oq => ?_
  refine kk H1 _ ⟨z, oq, ?_⟩ (hq_La hL ha)
  show H1[a]? = some (vp_cell _ _)
  rw [e1, vp_cell_l, vp_cell_l, arrV_store]
  congr 2
  funext q
  by_cases hq : q = i.toNatClampNeg
  · subst hq
    simp [updV, vp_updL]
  · simp [updV, vp_updL, hq]
theorem hq_lald (C : hq_C p c s m args own cc Ts D cl tys) (t0 : Nat) {cA : ClassId} {n : Nat} {f : Nat → Int64} (ht : tys[t0]? = some (cA, .long)) (h : va_at D cl (a, .inl (cA, n, .inr (.inl f))) H) {i : Int32} (hin : vp_in i n) (hdg : decode cc pc = .ok (.laload, 1))
    (kk : W p l e R s m args below meth c H locs cells slots Q (F0 m (pc + 1) ls (.long (f i.toNatClampNeg) :: rest))) : W p l e R s m args below meth c H locs cells slots Q (F0 m pc ls (.int i :: .ref a :: rest)) :=
  va_lald C.1 C.2.1 C.2.2.2.2 (hq_one h) 0 t0 rfl ht hin hdg kk
theorem hq_zast (C : hq_C p c s m args own cc Ts D cl tys) (t0 : Nat) {cA : ClassId} {n : Nat} {f : Nat → Int32} (ht : tys[t0]? = some (cA, .boolean)) (h : va_at D cl (a, .inl (cA, n, .inl f)) H) {i x : Int32} (hin : vp_in i n) (hL : hq_L lo locs) (ha : lo ≤ a) (hdg : decode cc pc = .ok (.bastore, 1))
    (kk : ∀ (H1 : Heap) (locs1 : List Loc), hq_U D cl a (.inl (cA, n, .inl (upd f i.toNatClampNeg (vp_nar .boolean x)))) H H1 → hq_L lo locs1 → W p l e R s m args below meth c H1 locs1 cells slots Q (F0 m (pc + 1) ls rest)) : W p l e R s m args below meth c H locs cells slots Q (F0 m pc ls (.int x :: .int i :: .ref a :: rest)) := by
  obtain ⟨hx, hb, hown, hts, hK⟩ := C
  refine W.zast hx hb h ((hK.2 t0 _ ht).1 n (fun j => .int (f j))) (fun q => by cases q) (by show ¬ (i < 0 ∨ (arrV _ _ _).slots.size ≤ _); rw [arrV_size]; exact hin) rfl rfl hdg fun H1 e1 z oq => ?_
  refine kk H1 _ ⟨z, oq, ?_⟩ (hq_La hL ha)
  show H1[a]? = some (vp_cell _ _)
  rw [e1, vp_cell_i, vp_cell_i, arrV_store]
  congr 2
  funext q
  by_cases hq : q = i.toNatClampNeg
  · subst hq
    simp [updV, upd, vp_nar]
    try rfl
  · simp [updV, upd, hq]
theorem hq_aast (C : hq_C p c s m args own cc Ts D cl tys) (t0 ci : Nat) {cA : ClassId} {r : vw_C} {n v : Nat} {vs : List Value} {f : Nat → Option Nat} (ht : tys[t0]? = some (cA, .object r.1)) (hc : cl[ci]? = some r) (h : va_at D cl (a, .inl (cA, n, .inr (.inr (.inr (.inr f))))) H) (hv : va_at D cl (v, .inr (ci, vs)) H) {i : Int32} (hin : vp_in i n) (hL : hq_L lo locs) (ha : lo ≤ a) (hdg : decode cc pc = .ok (.aastore, 1))
    (kk : ∀ (H1 : Heap) (locs1 : List Loc), hq_U D cl a (.inl (cA, n, .inr (.inr (.inr (.inr (va_up f i.toNatClampNeg (some v))))))) H H1 → hq_L lo locs1 → W p l e R s m args below meth c H1 locs1 cells slots Q (F0 m (pc + 1) ls rest)) : W p l e R s m args below meth c H locs cells slots Q (F0 m pc ls (.ref v :: .int i :: .ref a :: rest)) := by
  obtain ⟨hx, hb, hown, hts, hK⟩ := C
  have hlt : i.toNatClampNeg < n := Nat.not_le.mp fun q => hin (Or.inr q)
  have h0 : ¬ i < 0 := fun q => hin (Or.inl q)
  obtain ⟨r', hr', cellV, g1, g2, g3, -⟩ := hv
  have hcls := (hK.1 ci r hc).2
  obtain ⟨kA, comp, k1, k2, k3, -⟩ := (hK.2 t0 _ ht).2
  have hcomp : comp = D.1 ci := Option.some.inj (k3.symm.trans hcls.1)
  subst hcomp
  obtain ⟨kC, hkC, -⟩ := hcls.2
  refine W.aast hx hb h (fun q h => by cases h) (fun h => by cases h) k1 k2 rfl hkC ⟨h0, by show _ < (arrV _ _ _).slots.size; rw [arrV_size]; exact hlt⟩ g1 (fun q h => by rw [g3] at h; cases h) (by rw [g2]; exact hkC) (by rw [g2]; exact va_assign hcls) rfl rfl hdg fun H1 e1 z oq => ?_
  refine kk H1 _ ⟨z, oq, ?_⟩ (hq_La hL ha)
  show H1[a]? = some (vp_cell _ _)
  rw [e1, vp_cell_q, vp_cell_q, arrV_store]
  congr 2
  funext q
  by_cases hq : q = i.toNatClampNeg
  · subst hq
    simp [updV, va_up, va_rf]
  · simp [updV, va_up, hq]
theorem hq_new (C : hq_C p c s m args own cc Ts D cl tys) {index ci N : Nat} {Cn : String} {T : u_T} {ty0 : Nat → FieldType} (K : hq_K Ts cl ci Cn T N ty0) (hcl : Cond.classLink own index Cn ∈ Ts) (hinst : Cond.instantiable Cn N ∈ Ts) (hini : Cond.initialized Cn ∈ Ts) {fs : List Value} (hfs : ∀ j, j < N → defaultValue (ty0 j) = vp_V fs j) (hcells : cells + 1 ≤ R.cells) (hslots : slots + N ≤ R.slots) {h : Nat} (hh : H.size = h) (hdg : decode cc pc = .ok (.new index, 3))
    (kk : ∀ H1 : Heap, hq_N D cl h (.inr (ci, fs)) H H1 → W p l e R s m args below meth c H1 locs (cells + 1) (slots + N) Q (F0 m (pc + 3) ls (.ref h :: rest))) : W p l e R s m args below meth c H locs cells slots Q (F0 m pc ls rest) := by
  obtain ⟨hx, hb, hown, hts, hK⟩ := C
  obtain ⟨hc, hin, hty, -⟩ := K
  have hKn := hK.1 ci _ hc
  refine W.newcK hx hb hown (hts _ hcl) (hts _ hinst) (hts _ hini) rfl hdg hcells hslots hKn.2.1 hh fun H1 kC hkC e1 z1 o1 => ?_
  exact kk H1 ⟨z1, o1, ⟨_, hc, (u_born ty0 hts hin hKn hkC e1 hty).to hfs⟩⟩
theorem hq_newa (C : hq_C p c s m args own cc Ts D cl tys) {atype : ArrayType} (harr : Cond.arrayClass (newarray.typeOf atype) ∈ Ts) (t0 : Nat) {cA : ClassId} (ht : tys[t0]? = some (cA, newarray.typeOf atype)) {n : Int32} {N' : Nat} {a0 : vp_A} (ha0 : vp_cell cA a0 = arrV cA N' (fun _ => defaultValue (newarray.typeOf atype))) (hn : ¬ n < 0) (hN : n.toNatClampNeg = N') (hbytes : N' * componentBytes (newarray.typeOf atype) ≤ 536870912) (hcells : cells + 1 ≤ R.cells) (hslots : slots + N' ≤ R.slots) {h : Nat} (hh : H.size = h) (hdg : decode cc pc = .ok (.newarray atype, 2))
    (kk : ∀ H1 : Heap, hq_N D cl h (.inl (cA, a0)) H H1 → W p l e R s m args below meth c H1 locs (cells + 1) (slots + N') Q (F0 m (pc + 2) ls (.ref h :: rest))) : W p l e R s m args below meth c H locs cells slots Q (F0 m pc ls (.int n :: rest)) := by
  obtain ⟨hx, hb, hown, hts, hK⟩ := C
  refine va_newaK hx hb (hts _ harr) rfl hdg rfl hn hN hbytes hcells hslots hh fun H1 cB e1 z1 o1 hAr hNm => ?_
  have hRA := (hK.2 t0 _ ht).2
  have hcc : cB = cA := by
    cases atype <;> exact Option.some.inj (hNm.symm.trans hRA)
  subst hcc
  refine kk H1 ⟨z1, o1, ?_⟩
  show H1[h]? = some (vp_cell _ _)
  rw [ha0]
  exact e1
theorem hq_newq (C : hq_C p c s m args own cc Ts D cl tys) {index : Nat} {Cn : String} (hcl : Cond.classLink own index Cn ∈ Ts) (hover : Cond.arrayOver (.object Cn) ∈ Ts) (t0 : Nat) {cA : ClassId} (ht : tys[t0]? = some (cA, .object Cn)) {n : Int32} {N' : Nat} (hn : ¬ n < 0) (hN : n.toNatClampNeg = N') (hbytes : N' * 4 ≤ 536870912) (hcells : cells + 1 ≤ R.cells) (hslots : slots + N' ≤ R.slots) {h : Nat} (hh : H.size = h) (hdg : decode cc pc = .ok (.anewarray index, 3))
    (kk : ∀ H1 : Heap, hq_N D cl h (.inl (cA, N', .inr (.inr (.inr (.inr (fun _ => none)))))) H H1 → W p l e R s m args below meth c H1 locs (cells + 1) (slots + N') Q (F0 m (pc + 3) ls (.ref h :: rest))) : W p l e R s m args below meth c H locs cells slots Q (F0 m pc ls (.int n :: rest)) := by
  obtain ⟨hx, hb, hown, hts, hK⟩ := C
  subst hN
  refine W.anew hx hb hown (hts _ hcl) (hts _ hover) rfl hdg rfl hn hbytes hcells hslots fun cB kA comp f1 f2 f3 f4 => ?_
  obtain ⟨kA', comp', k1, k2, k3, k4⟩ := (hK.2 t0 _ ht).2
  have hcc : cB = cA := Option.some.inj (f1.symm.trans k4)
  subst hcc
  generalize hH1 : H.push ({ cls := cB, slots := Array.replicate n.toNatClampNeg .null, vm := .none } : Cell) = H1
  have z1 : H1.size = h + 1 := by rw [← hH1, Array.size_push, hh]
  have e1 : H1[h]? = some (arrV cB n.toNatClampNeg (fun _ => .null)) := by rw [← hH1, ← hh, Array.getElem?_push_size, ← arrV_new]
  have o1 : ∀ q : Nat, q < h → H1[q]? = H[q]? := fun q hq => by rw [← hH1, Array.getElem?_push, if_neg (by omega)]
  rw [hh]
  refine kk H1 ⟨z1, o1, ?_⟩
  show H1[h]? = some (vp_cell _ _)
  rw [vp_cell_q]
  exact e1
end HQ
end
section
/-! Contracts whose end is a fact of two heaps, and their calls. TB: one table of words for all methods. -/
/-- the end of a contract: it has returned v, and Post holds of the heap before, v, and the heap behind -/
def hq_Q (Post : Heap → Option Value → Heap → Prop) : Array Value → State → Outcome → State → Prop := fun _ st o t => ∃ v, o = .returned v ∧ Post st.heap v t.heap
def hq_M (l : Launch) (y : MethodName) (bytes : ByteArray) (maxL : Nat) (ret : Option FieldType) (TB : List Cond) (rm : Room) (lo : Nat) (D : va_G) (cl : List vw_C) (tys : List (ClassId × FieldType)) (av : List Value) (P : State → Prop) (Post : Heap → Option Value → Heap → Prop) : Prop :=
  Met l y (Cond.code y bytes maxL ret :: TB) rm (va_Pc av (fun U => va_K D cl tys U ∧ P U)) (hq_Q Post) rm.cells rm.slots (fun q => lo ≤ q)
/-- what a contract asks of the start reads no frame -/
def hq_Bl (P : State → Prop) : Prop := ∀ (a : Array Value) (U : State) (g : JFrame) (mk : MethodId), P U → P (U.calling g mk a)
theorem hq_Bh {P : Heap → Prop} : hq_Bl (fun U => P U.heap) := fun _ _ _ _ h => h
theorem hq_blind {D : va_G} {cl : List vw_C} {tys : List (ClassId × FieldType)} {av : List Value} {P : State → Prop} (hP : hq_Bl P) : FrameBlind (va_Pc av (fun U => va_K D cl tys U ∧ P U)) :=
  fun a U g mk q => ⟨q.1, va_K.moved (u := U) (U := U.calling g mk a) (Vm.Alike.refl U.vm) q.2.1, hP a U g mk q.2.2⟩
theorem hq_good {Ts TB : List Cond} {y : MethodName} {bytes : ByteArray} {maxL : Nat} {ret : Option FieldType} (hG : GoodIn Ts TB) (hy : Cond.code y bytes maxL ret ∈ TB) : GoodIn Ts (Cond.code y bytes maxL ret :: TB) := by
  intro w hw
  rcases List.mem_cons.mp hw with h | h
  · rw [h]; exact hG _ hy
  · exact hG _ h
/-- a method that is called at place 'index' of the pool of 'own' -/
def hq_Y (TB : List Cond) (own : String) (index : Nat) (y : MethodName) (bytes : ByteArray) (maxL : Nat) (ret : Option FieldType) (n : Nat) : Prop :=
  Cond.code y bytes maxL ret ∈ TB ∧ Cond.methodLink own index y ∈ TB ∧ Cond.initialized y.cls ∈ TB ∧ y.cls ≠ "java/lang/invoke/MethodHandle" ∧ y.cls ≠ "java/lang/invoke/VarHandle" ∧ (parseMethodDescriptor y.desc).map (fun d => d.parameters.length) = some n
def hq_YV (TB : List Cond) (own : String) (index : Nat) (y : MethodName) (bytes : ByteArray) (maxL : Nat) (ret : Option FieldType) (n : Nat) : Prop :=
  hq_Y TB own index y bytes maxL ret n ∧ Cond.instanceMethod y ∈ TB ∧ Cond.selects y.cls y y ∈ TB
def hq_YS (TB : List Cond) (own : String) (index : Nat) (y : MethodName) (bytes : ByteArray) (maxL : Nat) (ret : Option FieldType) (n : Nat) : Prop :=
  hq_Y TB own index y bytes maxL ret n ∧ Cond.static y ∈ TB
def hq_YI (TB : List Cond) (own : String) (index : Nat) (y : MethodName) (bytes : ByteArray) (maxL : Nat) (n : Nat) : Prop :=
  hq_Y TB own index y bytes maxL none n ∧ Cond.instanceMethod y ∈ TB ∧ y.name = "<init>"
/-- a private constructor of a nest mate -/
def hq_YN (TB : List Cond) (own : String) (index : Nat) (host : String) (y : MethodName) (bytes : ByteArray) (maxL : Nat) (n : Nat) : Prop :=
  Cond.code y bytes maxL none ∈ TB ∧ Cond.initialized y.cls ∈ TB ∧ Cond.instanceMethod y ∈ TB ∧ y.name = "<init>" ∧ y.cls ≠ "java/lang/invoke/MethodHandle" ∧ y.cls ≠ "java/lang/invoke/VarHandle" ∧ (parseMethodDescriptor y.desc).map (fun d => d.parameters.length) = some n ∧ own ≠ ""
/-- the room that a callee asks of its caller -/
def hq_R (R rm : Room) (maxL cells slots : Nat) : Prop := (rm.frames + 1 ≤ R.frames ∧ 8 + (maxL + 11) + rm.locals ≤ R.locals) ∧ cells + rm.cells ≤ R.cells ∧ slots + rm.slots ≤ R.slots
section HQC
variable {p : Program} {l : Launch} {e : Env} {R : Room} {s : State} {m : MethodId} {args : Array Value} {below : List Frame} {meth : Method} {c : Code} {H : Heap} {locs : List Loc} {cells slots : Nat} {Q : State → Prop}
variable {cc : ByteArray} {pc : Nat} {ls : Array Slot} {rest st0 : List Value} {D : va_G} {cl : List vw_C} {a lo nL : Nat} {tys : List (ClassId × FieldType)} {own : String} {TB : List Cond}
variable {index : Nat} {y : MethodName} {bytes : ByteArray} {maxL n : Nat} {ret : Option FieldType} {rm : Room} {As : List Value} {b : Nat} {P : State → Prop} {Post : Heap → Option Value → Heap → Prop}
theorem hq_callB (hts : ∀ w ∈ TB, w.before args s = true) (hG : GoodIn TB TB) (Y : hq_Y TB own index y bytes maxL ret n) (hR : hq_R R rm maxL cells slots) : CallB R s args own index y bytes maxL ret (Cond.code y bytes maxL ret :: TB) rm rm.cells rm.slots n := by
  obtain ⟨h1, h2, h3, h4, h5, h6⟩ := Y
  exact callB_of n hts (hq_good hG h1) rfl rfl rfl (hts _ (hG _ h3).1) (hts _ (hG _ h2).1) ⟨h4, h5, h6⟩ hR.1
theorem hq_run {av9 : Array Value} (hr : CallRun p l e R s m args below meth c H locs cells slots rm.cells rm.slots (F0 m pc ls st0) rest (hq_Q Post av9) (fun q => lo ≤ q)) (hL : hq_L lo locs)
    (kk : ∀ (v : Option Value) (H1 : Heap) (locs1 : List Loc), Post H v H1 → hq_L lo locs1 → W p l e R s m args below meth c H1 locs1 (cells + rm.cells) (slots + rm.slots) Q (F0 m (pc + 3) ls (v.toList ++ rest))) : W p l e R s m args below meth c H locs cells slots Q (F0 m pc ls st0) := by
  intro T hT X
  obtain ⟨v, st₀, t, T', L, h0, X', hL1, e1, ⟨v', hv, hp⟩, st⟩ := hr T hT X
  cases hv
  rw [h0, ← e1] at hp
  obtain ⟨t2, a1, b1⟩ := kk v T'.heap (locs ++ L) hp (hq_Lp hL hL1) T' rfl X'
  exact ⟨t2, st t2 a1, b1⟩
theorem hq_callV (C : hq_C p c s m args own cc TB D cl tys) (hG : GoodIn TB TB) (hml : c.maxLocals = nL) (Y : hq_YV TB own index y bytes maxL ret n) (hM : hq_M l y bytes maxL ret TB rm lo D cl tys (.ref b :: As) P Post) {ci : Nat} {fs : List Value} {T : u_T} {N : Nat} (hb : va_at D cl (b, .inr (ci, fs)) H) (hci : cl[ci]? = some (y.cls, T, N)) (hPb : hq_Bl P) (hP : ∀ U : State, U.heap = H → s.WarmedH U.vm → P U) (hL : hq_L lo locs) (hls : ls.size = nL) (hn : As.length = n) (hst : st0 = As.reverse ++ .ref b :: rest) (hR : hq_R R rm maxL cells slots) (hW : (rest.map fun v => v.category).sum ≤ 8) (hdg : decode cc pc = .ok (.invokevirtual index, 3))
    (kk : ∀ (v : Option Value) (H1 : Heap) (locs1 : List Loc), Post H v H1 → hq_L lo locs1 → W p l e R s m args below meth c H1 locs1 (cells + rm.cells) (slots + rm.slots) Q (F0 m (pc + 3) ls (v.toList ++ rest))) : W p l e R s m args below meth c H locs cells slots Q (F0 m pc ls st0) := by
  obtain ⟨hx, hbb, hown, hts, hK⟩ := C
  obtain ⟨Y0, y1, y2⟩ := Y
  refine hq_run (W.runV (As := As) (rest := rest) (b := b) (C := y.cls) ⟨hx, hbb, hml, hown, hts⟩ hM ⟨hq_callB hts hG Y0 hR, hts _ (hG _ y1).1, hts _ (hG _ y2).1⟩ ⟨hq_blind hPb, va_recv hK (hq_one hb) hci (q0 := 0) rfl, fun U hU hW => ⟨rfl, va_K.moved hW.alike hK, hP U hU hW⟩⟩ rfl hn hls hst (lv_room hW) hdg hR.2) hL kk
theorem hq_callS (C : hq_C p c s m args own cc TB D cl tys) (hG : GoodIn TB TB) (hml : c.maxLocals = nL) (Y : hq_YS TB own index y bytes maxL ret n) (hM : hq_M l y bytes maxL ret TB rm lo D cl tys As P Post) (hPb : hq_Bl P) (hP : ∀ U : State, U.heap = H → s.WarmedH U.vm → P U) (hL : hq_L lo locs) (hls : ls.size = nL) (hn : As.length = n) (hst : st0 = As.reverse ++ rest) (hR : hq_R R rm maxL cells slots) (hW : (rest.map fun v => v.category).sum ≤ 8) (hdg : decode cc pc = .ok (.invokestatic index, 3))
    (kk : ∀ (v : Option Value) (H1 : Heap) (locs1 : List Loc), Post H v H1 → hq_L lo locs1 → W p l e R s m args below meth c H1 locs1 (cells + rm.cells) (slots + rm.slots) Q (F0 m (pc + 3) ls (v.toList ++ rest))) : W p l e R s m args below meth c H locs cells slots Q (F0 m pc ls st0) := by
  obtain ⟨hx, hbb, hown, hts, hK⟩ := C
  obtain ⟨Y0, y1⟩ := Y
  refine hq_run (W.runS (As := As) (rest := rest) ⟨hx, hbb, hml, hown, hts⟩ hM ⟨hq_callB hts hG Y0 hR, hts _ (hG _ y1).1⟩ ⟨hq_blind hPb, fun U hU hW => ⟨rfl, va_K.moved hW.alike hK, hP U hU hW⟩⟩ rfl hn hls hst (lv_room hW) hdg hR.2) hL kk
theorem hq_callI (C : hq_C p c s m args own cc TB D cl tys) (hG : GoodIn TB TB) (hml : c.maxLocals = nL) (Y : hq_YI TB own index y bytes maxL n) (hM : hq_M l y bytes maxL none TB rm lo D cl tys (.ref b :: As) P Post) (hPb : hq_Bl P) (hP : ∀ U : State, U.heap = H → s.WarmedH U.vm → P U) (hL : hq_L lo locs) (hls : ls.size = nL) (hn : As.length = n) (hst : st0 = As.reverse ++ .ref b :: rest) (hR : hq_R R rm maxL cells slots) (hW : (rest.map fun v => v.category).sum ≤ 8) (hdg : decode cc pc = .ok (.invokespecial index, 3))
    (kk : ∀ (v : Option Value) (H1 : Heap) (locs1 : List Loc), Post H v H1 → hq_L lo locs1 → W p l e R s m args below meth c H1 locs1 (cells + rm.cells) (slots + rm.slots) Q (F0 m (pc + 3) ls (v.toList ++ rest))) : W p l e R s m args below meth c H locs cells slots Q (F0 m pc ls st0) := by
  obtain ⟨hx, hbb, hown, hts, hK⟩ := C
  obtain ⟨Y0, y1, y2⟩ := Y
  refine hq_run (W.runI (As := As) (rest := rest) (b := b) ⟨hx, hbb, hml, hown, hts⟩ hM ⟨hq_callB hts hG Y0 hR, y2, hts _ (hG _ y1).1⟩ ⟨hq_blind hPb, fun U hU hW => ⟨rfl, va_K.moved hW.alike hK, hP U hU hW⟩⟩ rfl hn hls hst (lv_room hW) hdg hR.2) hL kk
theorem hq_callIN {host : String} (C : hq_C p c s m args own cc TB D cl tys) (hG : GoodIn TB TB) (hml : c.maxLocals = nL) (Y : hq_YN TB own index host y bytes maxL n) (hNw : va_Nw (.methodLinkNest own index y host) s) (hM : hq_M l y bytes maxL none TB rm lo D cl tys (.ref b :: As) P Post) (hPb : hq_Bl P) (hP : ∀ U : State, U.heap = H → s.WarmedH U.vm → P U) (hL : hq_L lo locs) (hls : ls.size = nL) (hn : As.length = n) (hst : st0 = As.reverse ++ .ref b :: rest) (hR : hq_R R rm maxL cells slots) (hW : (rest.map fun v => v.category).sum ≤ 8) (hdg : decode cc pc = .ok (.invokespecial index, 3))
    (kk : ∀ (v : Option Value) (H1 : Heap) (locs1 : List Loc), Post H v H1 → hq_L lo locs1 → W p l e R s m args below meth c H1 locs1 (cells + rm.cells) (slots + rm.slots) Q (F0 m (pc + 3) ls (v.toList ++ rest))) : W p l e R s m args below meth c H locs cells slots Q (F0 m pc ls st0) := by
  obtain ⟨hx, hbb, hown, hts, hK⟩ := C
  obtain ⟨y1, y2, y3, y4, y5, y6, y7, -⟩ := Y
  have hr := va_runIN (p := p) (l := l) (e := e) (R := R) (below := below) (meth := meth) (H := H) (locs := locs) (cells := cells) (slots := slots) (host := host) (index := index) (n := n) (bytes := bytes) (maxL := maxL) (As := As) (rest := rest) (b := b) (g := F0 m pc ls st0) (own := own) (Ts := TB) (cc := cc) (nL := nL) ⟨hx, hbb, hml, hown, hts⟩ hM ⟨va_cnB n hts (hq_good hG y1) rfl rfl rfl hNw (hts _ y2) ⟨y5, y6, y7⟩ hR.1, y4, hts _ y3⟩ ⟨hq_blind hPb, fun U hU hW => ⟨rfl, va_K.moved hW.alike hK, hP U hU hW⟩⟩ rfl hn hls hst (lv_room hW) hdg hR.2
  refine hq_run (rm := rm) (Post := Post) (av9 := (Value.ref b :: As).toArray) (fun T hT X => ?_) hL kk
  obtain ⟨v, st₀, t, T', L, h0, X', hL1, e1, -, hq, st⟩ := hr T hT X
  exact ⟨v, st₀, t, T', L, h0, X', hL1, e1, hq, st⟩
/-- a contract out of the walk of its body -/
theorem hq_ofW (hy : plainName y.cls = true) {av : List Value} (hlen : (lg_sl av).length ≤ maxL)
    (body : ∀ (p : Program) (e : Env) (s : State) (m : MethodId) (below : List Frame) (meth : Method) (c : Code) (ls : Array Slot), hq_C p c s m av.toArray y.cls bytes TB D cl tys → c.maxLocals = maxL → meth.sig.returnType = ret → meth.locks = false → meth.name = y.name → lv_has ls maxL (lv_args 0 av) → P s →
      W p l e rm s m av.toArray below meth c s.heap [] 0 0 (MQ below (hq_Q Post) av.toArray s rm.cells rm.slots (fun q => lo ≤ q)) (F0 m 0 ls [])) :
    hq_M l y bytes maxL ret TB rm lo D cl tys av P Post := by
  refine Met.ofW (cc := bytes) (maxL := maxL) (ret := ret) hy rfl ?_
  intro p e s m args below meth c s₁ B hml hv
  obtain ⟨rfl, hK, hP⟩ := hv
  rw [lg_entry_eq]
  exact body p e s m below meth c _ ⟨B.exec, B.bytes, findClass_of_methodNamed B.named, fun w hw => atoms_spec (ws := Cond.code y bytes maxL ret :: TB) B.pre w (List.mem_cons_of_mem _ hw), hK⟩ hml B.returns B.notSynchronized (name_of_methodNamed B.named B.method).1 (lv_entry av hlen) hP
theorem hq_iret {v : Int32} (C : hq_C p c s m args own cc TB D cl tys) (hr : meth.sig.returnType = some .int) (hlocks : meth.locks = false) {mc ms : Nat} (hc : cells ≤ mc) (hs : slots ≤ ms) (hL : hq_L lo locs) (hq : Post s.heap (some (.int v)) H) (hdg : decode cc pc = .ok (.ireturn, 1)) :
    W p l e R s m args below meth c H locs cells slots (MQ below (hq_Q Post) args s mc ms (fun q => lo ≤ q)) (F0 m pc ls [.int v]) := by
  refine W.widen hc hs ?_
  exact W.iret C.1 C.2.1 hr (fun t ht hW => ⟨_, rfl, by rw [ht]; exact hq⟩) hL hdg hlocks
theorem hq_zret {v : Int32} (C : hq_C p c s m args own cc TB D cl tys) (hr : meth.sig.returnType = some .boolean) (hlocks : meth.locks = false) (hv : narrow .boolean (.int v) = .int v) {mc ms : Nat} (hc : cells ≤ mc) (hs : slots ≤ ms) (hL : hq_L lo locs) (hq : Post s.heap (some (.int v)) H) (hdg : decode cc pc = .ok (.ireturn, 1)) :
    W p l e R s m args below meth c H locs cells slots (MQ below (hq_Q Post) args s mc ms (fun q => lo ≤ q)) (F0 m pc ls [.int v]) := by
  refine W.widen hc hs ?_
  exact W.zret C.1 C.2.1 hr hv (fun t ht hW => ⟨_, rfl, by rw [ht]; exact hq⟩) hL hdg hlocks
theorem hq_vret (C : hq_C p c s m args own cc TB D cl tys) (hr : meth.sig.returnType = none) (hlocks : meth.locks = false) {mc ms : Nat} (hc : cells ≤ mc) (hs : slots ≤ ms) (hL : hq_L lo locs) (hq : Post s.heap none H) (hdg : decode cc pc = .ok (.return_, 1)) :
    W p l e R s m args below meth c H locs cells slots (MQ below (hq_Q Post) args s mc ms (fun q => lo ≤ q)) (F0 m pc ls []) := by
  refine W.widen hc hs ?_
  exact W.vret C.1 C.2.1 hr (fun t ht hW => ⟨_, rfl, by rw [ht]; exact hq⟩) hL hdg hlocks
theorem hq_aret {rt : FieldType} {q : Nat} (C : hq_C p c s m args own cc TB D cl tys) (hr : meth.sig.returnType = some rt) (hrt : (∃ n, rt = .object n) ∨ ∃ t, rt = .array t) (hlocks : meth.locks = false) {mc ms : Nat} (hc : cells ≤ mc) (hs : slots ≤ ms) (hL : hq_L lo locs) (hq : Post s.heap (some (.ref q)) H) (hdg : decode cc pc = .ok (.areturn, 1)) :
    W p l e R s m args below meth c H locs cells slots (MQ below (hq_Q Post) args s mc ms (fun q => lo ≤ q)) (F0 m pc ls [.ref q]) := by
  refine W.widen hc hs ?_
  exact W.aret C.1 C.2.1 hr hrt (Or.inr ⟨_, rfl⟩) (fun t ht hW => ⟨_, rfl, by rw [ht]; exact hq⟩) hL hdg hlocks
end HQC
end
section
/-! Blocks of cells: n cells from b on; what stays outside. -/
def hq_B (D : va_G) (cl : List vw_C) (b n : Nat) (C : Nat → va_E) (H : Heap) : Prop := ∀ j, j < n → va_at D cl (b + j, C j) H
def hq_S (b n : Nat) (H H' : Heap) : Prop := H'.size = H.size ∧ ∀ q : Nat, (q < b ∨ b + n ≤ q) → H'[q]? = H[q]?
def hq_O (b : Nat) (H H' : Heap) : Prop := ∀ q : Nat, q < b → H'[q]? = H[q]?
section HQB
variable {D : va_G} {cl : List vw_C} {a a' b b' n n' : Nat} {e e' : va_E} {C : Nat → va_E} {H0 H H1 : Heap}
theorem hq_S0 : hq_S b n H H := ⟨rfl, fun _ _ => rfl⟩
theorem hq_Sput (h : hq_S b n H0 H) (hU : hq_U D cl a e H H1) (h1 : b ≤ a) (h2 : a < b + n) : hq_S b n H0 H1 := ⟨hU.1.trans h.1, fun q hq => (hU.2.1 q (by omega)).trans (h.2 q hq)⟩
theorem hq_Scall (h : hq_S b n H0 H) (h' : hq_S b' n' H H1) (h1 : b ≤ b') (h2 : b' + n' ≤ b + n) : hq_S b n H0 H1 := ⟨h'.1.trans h.1, fun q hq => (h'.2 q (by omega)).trans (h.2 q hq)⟩
theorem hq_as (h : va_at D cl (a, e) H) (hs : hq_S b n H H1) (hd : a < b ∨ b + n ≤ a) : va_at D cl (a, e) H1 := h.kept (hs.2 a hd)
theorem hq_au (h : va_at D cl (a, e) H) (hU : hq_U D cl a' e' H H1) (hd : a ≠ a') : va_at D cl (a, e) H1 := h.kept (hU.2.1 a hd)
theorem hq_an (h : va_at D cl (a, e) H) (hN : hq_N D cl a' e' H H1) (hd : a < a') : va_at D cl (a, e) H1 := h.kept (hN.2.1 a hd)
theorem hq_ao (h : va_at D cl (a, e) H) (hO : hq_O b H H1) (hd : a < b) : va_at D cl (a, e) H1 := h.kept (hO a hd)
theorem hq_Bs (h : hq_B D cl b n C H) (hs : hq_S b' n' H H1) (hd : b + n ≤ b' ∨ b' + n' ≤ b) : hq_B D cl b n C H1 := fun j hj => hq_as (h j hj) hs (by omega)
theorem hq_Bu (h : hq_B D cl b n C H) (hU : hq_U D cl a e H H1) (hd : a < b ∨ b + n ≤ a) : hq_B D cl b n C H1 := fun j hj => hq_au (h j hj) hU (by omega)
theorem hq_Bn (h : hq_B D cl b n C H) (hN : hq_N D cl a e H H1) (hd : b + n ≤ a) : hq_B D cl b n C H1 := fun j hj => hq_an (h j hj) hN (by omega)
theorem hq_Bo (h : hq_B D cl b n C H) (hO : hq_O a H H1) (hd : b + n ≤ a) : hq_B D cl b n C H1 := fun j hj => hq_ao (h j hj) hO (by omega)
theorem hq_Bm {C' : Nat → va_E} (h : hq_B D cl b n C H) (hc : ∀ j, j < n → C' j = C j) : hq_B D cl b n C' H := fun j hj => by rw [hc j hj]; exact h j hj
theorem hq_O0 : hq_O b H H := fun _ _ => rfl
theorem hq_On (h : hq_O b H0 H) (hN : hq_N D cl a e H H1) (hd : b ≤ a) : hq_O b H0 H1 := fun q hq => (hN.2.1 q (by omega)).trans (h q hq)
theorem hq_Ou (h : hq_O b H0 H) (hU : hq_U D cl a e H H1) (hd : b ≤ a) : hq_O b H0 H1 := fun q hq => (hU.2.1 q (by omega)).trans (h q hq)
theorem hq_Oo (h : hq_O b H0 H) (hO : hq_O b' H H1) (hd : b ≤ b') : hq_O b H0 H1 := fun q hq => (hO q (by omega)).trans (h q hq)
theorem hq_Os (h : hq_O b H0 H) (hs : hq_S b' n' H H1) (hd : b ≤ b') : hq_O b H0 H1 := fun q hq => (hs.2 q (by omega)).trans (h q hq)
theorem hq_B0 : hq_B D cl b 0 C H := fun j hj => absurd hj (Nat.not_lt_zero j)
theorem hq_Ba (h : hq_B D cl b n C H) (hk : va_at D cl (b + n, C n) H) : hq_B D cl b (n + 1) C H := by
  intro j hj
  by_cases hjn : j = n
  · rw [hjn]; exact hk
  · exact h j (by omega)
theorem hq_B2 {k : Nat} {C2 : Nat → va_E} (h : hq_B D cl b n C H) (h2 : hq_B D cl (b + n) k C2 H) (hc : ∀ j, j < k → C (n + j) = C2 j) : hq_B D cl b (n + k) C H := by
  intro j hj
  by_cases hjn : j < n
  · exact h j hjn
  · have h3 := h2 (j - n) (by omega)
    rw [← hc (j - n) (by omega), show b + n + (j - n) = b + j by omega, show n + (j - n) = j by omega] at h3
    exact h3
end HQB
end
section
/-! Methods that throw: E is thrown, and no old cell has changed. -/
def hq_X (E : String) (mc ms : Nat) (st : State) (q : Addr) (t : State) : Prop :=
  ∃ ce : Cell, t.heap[q]? = some ce ∧ ce.vm = .none ∧ st.vm.findClass E = some ce.cls ∧ st.WarmedH t.vm ∧ st.sameButNew ({ t with vm := st.vm } : State) [] mc ms
def hq_T (l : Launch) (y : MethodName) (bytes : ByteArray) (maxL : Nat) (ret : Option FieldType) (TB : List Cond) (rm : Room) (D : va_G) (cl : List vw_C) (tys : List (ClassId × FieldType)) (av : List Value) (P : State → Prop) (E : String) : Prop :=
  MetFree l y (headSpec (Cond.code y bytes maxL ret :: TB) rm) (va_Pc av (fun U => va_K D cl tys U ∧ P U)) (fun _ _ _ _ _ => True) (fun _ st o t => ∃ q, o = .threw q ∧ hq_X E rm.cells rm.slots st q t)
/-- what the body of a method that throws comes to -/
def hq_TQ (below : List Frame) (E : String) (s : State) (mc ms : Nat) : State → Prop := fun t => ∃ q, t.status = .running ∧ Ended t below (.threw q) ∧ hq_X E mc ms s q t
/-- the frame g, with q thrown over it -/
def hq_V (p : Program) (l : Launch) (e : Env) (R : Room) (s : State) (m : MethodId) (args : Array Value) (below : List Frame) (meth : Method) (c : Code) (H : Heap) (locs : List Loc) (cells slots : Nat) (Q : State → Prop) (g : JFrame) (q : Addr) : Prop :=
  ∀ T : State, T.heap = H → Stand p l e R s m args below meth c T locs cells slots → ∃ t, Steps p.tables e below ((T.setTop g).pushFrame (.throwing q)) t ∧ Q t
theorem hq_old {U V : State} {mc ms : Nat} (h : U.sameButNew V [] mc ms) : hq_O U.heap.size U.heap V.heap ∧ U.heap.size ≤ V.heap.size := by
  obtain ⟨-, h2, -, -, -, h6⟩ := h
  refine ⟨fun q hq => ?_, h2⟩
  obtain ⟨c9, e1, e2, e3, e4⟩ := h6 q _ (Array.getElem?_eq_getElem hq)
  have hs : c9.slots = (U.heap[q]).slots := Array.ext_getElem? fun i => e4 i (by simp)
  rw [hs] at e2
  have h9 : c9 = U.heap[q] := e2
  rw [e1, h9, Array.getElem?_eq_getElem hq]
section HQT
variable {p : Program} {l : Launch} {e : Env} {R : Room} {s : State} {m : MethodId} {args : Array Value} {below : List Frame} {meth : Method} {c : Code} {H : Heap} {locs : List Loc} {cells slots : Nat} {Q : State → Prop}
variable {cc : ByteArray} {pc : Nat} {ls : Array Slot} {rest st0 : List Value} {D : va_G} {cl : List vw_C} {nL : Nat} {tys : List (ClassId × FieldType)} {own E : String} {TB : List Cond}
variable {index : Nat} {y : MethodName} {bytes : ByteArray} {maxL n : Nat} {ret : Option FieldType} {rm : Room} {As : List Value} {b : Nat} {P : State → Prop}
theorem hq_tback {ws : List Cond} {Pc : Array Value → State → Prop} {len W9 : Nat} (hM : MetFree l y (headSpec ws rm) Pc (fun _ _ _ _ _ => True) (fun _ st o t => ∃ q, o = .threw q ∧ hq_X E rm.cells rm.slots st q t)) (hbl : FrameBlind Pc)
    (hframes : rm.frames + 1 ≤ R.frames) (hlocals : W9 + (maxL + 11) + rm.locals ≤ R.locals) {U : State} (X : Stand p l e R s m args below meth c U locs cells slots) {g : JFrame} {ig : Instr} {mk : MethodId} {a : Array Value}
    (hg : g.method = m) (hsize : g.locals.size = c.maxLocals) (hdg : decode c.code g.pc = .ok (ig, len)) (hW : 2 * g.monitorRoom + (g.stack.map fun v => v.category).sum ≤ W9) (hn : U.methodNamed? y = some mk)
    (h1 : (headSpec ws rm).pre.before a U = true) (h2 : (Cond.code y bytes maxL ret).before a U = true) (h3 : (Cond.initialized y.cls).before a U = true) (h4 : cells + rm.cells ≤ R.cells) (h5 : slots + rm.slots ≤ R.slots) (hP : Pc a U) :
    ∃ (q : Addr) (V : State) (ce : Cell), Stand p l e R s m args below meth c V locs (cells + rm.cells) (slots + rm.slots) ∧ V.heap[q]? = some ce ∧ ce.vm = .none ∧ U.vm.findClass E = some ce.cls ∧ hq_O U.heap.size U.heap V.heap ∧ U.heap.size ≤ V.heap.size ∧
      Steps p.tables e below (doInvoke e (U.setTop g) [] mk a).1 ((V.setTop g).pushFrame (.throwing q)) := by
  obtain ⟨methY, cY, hmY, hcY, -, hlY, -, -, -, -⟩ := Cond.code_spec hn h2
  obtain ⟨kY, hkY, -⟩ := className_of_methodNamed hn
  have hinitY : kY.init = .initialized := Cond.initialized_spec (findClass_of_methodNamed hn) hkY h3
  have h : At U g.method c below := by rw [hg]; exact X.here
  have hloc : 2 * g.monitorRoom + (g.stack.map fun v => v.category).sum + (cY.maxLocals + 11) + rm.locals ≤ R.locals := by rw [hlY]; omega
  have happ : (headSpec ws rm).appliesLoose y e.platform (U.calling g mk a) = true :=
    Spec.appliesLoose_calling (g := g) h hdg hn hkY hinitY (X.room_calling (g := g) (R' := (headSpec ws rm).room) hsize hmY hcY hframes hloc h4 h5) h1
  obtain ⟨mid, hmid⟩ := h.above
  have hfr : (U.setTop g).frames = (.java g :: mid) ++ below := by rw [State.frames_setTop' g h.top, hmid]; rfl
  obtain ⟨o, t, hsteps, -, hend, q, rfl, ce, hce, hcv, hcl, hWt, hsm⟩ := Steps.callFree hM p X.admits X.cas X.clock (acts := []) hfr happ (hbl _ _ _ _ hP) trivial
  rw [State.frames_setTop' g h.top] at hend
  obtain ⟨g₀, hg0⟩ := Option.isSome_iff_exists.mp h.top
  obtain ⟨r, hr⟩ := State.topJava?_eq_some.mp hg0
  have hsm9 : (U.calling g mk a).sameButNew ({ t with vm := (U.calling g mk a).vm } : State) [] rm.cells rm.slots := hsm
  have hold := hq_old hsm9
  obtain ⟨e2, q2, q3, q4, q5, q6⟩ := hsm9
  have e3 : t = ({ (U.calling g mk a).setFrames t.frames with heap := t.heap, slotsUsed := t.slotsUsed } : State).setVm t.vm := by
    have h9 : t = ({ t with vm := (U.calling g mk a).vm } : State).setVm t.vm := rfl
    rw [e2] at h9
    exact h9
  have hft : t.frames = .throwing q :: .java g :: U.frames.tail := hend
  have hWU : U.WarmedH t.vm := hWt
  have hrV : (({ U with heap := t.heap, slotsUsed := t.slotsUsed } : State).setVm t.vm).frames = .java g₀ :: r := hr
  have ht : t = ((({ U with heap := t.heap, slotsUsed := t.slotsUsed } : State).setVm t.vm).setTop g).pushFrame (.throwing q) := by
    refine e3.trans ?_
    rw [hft, State.calling_eq h.top, State.setFrames_setFrames, State.pushFrame, State.frames_setTop _ hrV, State.setTop_of_frames _ hrV, State.setFrames_setFrames, hr]
    rfl
  have hsame : U.sameButNew ({ U with heap := t.heap, slotsUsed := t.slotsUsed } : State) [] rm.cells rm.slots := by
    refine ⟨?_, q2, q3, q4, q5, q6⟩
    obtain ⟨z, hz, -⟩ := State.frames_cons hr
    show ({ U with heap := t.heap, slotsUsed := t.slotsUsed } : State) = { U.setFrames U.frames with heap := t.heap, slotsUsed := t.slotsUsed }
    rw [State.setFrames_self hz]
  subst hg
  have hst : Stand p l e R s g.method args below meth c (({ U with heap := t.heap, slotsUsed := t.slotsUsed } : State).setVm t.vm) (locs ++ []) (cells + rm.cells) (slots + rm.slots) :=
    ⟨X.admits, X.cas, X.clock, X.frames, X.room, X.hears, X.method, X.code, (X.here.setHeapUsed t.heap t.slotsUsed).setVm hWU.alike, X.tail, State.WarmedH.trans X.warmed hWU, X.limits, X.bytes, X.same.trans (hsame.setVm s.vm)⟩
  rw [List.append_nil] at hst
  refine ⟨q, ({ U with heap := t.heap, slotsUsed := t.slotsUsed } : State).setVm t.vm, ce, hst, hce, hcv, hcl, hold.1, hold.2, ?_⟩
  rw [← ht]
  exact hsteps
theorem hq_tcallV (C : hq_C p c s m args own cc TB D cl tys) (hG : GoodIn TB TB) (hml : c.maxLocals = nL) (Y : hq_YV TB own index y bytes maxL ret n) (hM : hq_T l y bytes maxL ret TB rm D cl tys (.ref b :: As) P E) {ci : Nat} {fs : List Value} {T0 : u_T} {N : Nat} (hb : va_at D cl (b, .inr (ci, fs)) H) (hci : cl[ci]? = some (y.cls, T0, N)) (hPb : hq_Bl P) (hP : ∀ U : State, U.heap = H → s.WarmedH U.vm → P U) (hls : ls.size = nL) (hn : As.length = n) (hst : st0 = As.reverse ++ .ref b :: rest) (hR : hq_R R rm maxL cells slots) (hW : (rest.map fun v => v.category).sum ≤ 8) (hdg : decode cc pc = .ok (.invokevirtual index, 3))
    (kk : ∀ (q : Addr) (ce : Cell) (H1 : Heap), hq_O H.size H H1 → H.size ≤ H1.size → H1[q]? = some ce → ce.vm = .none → s.vm.findClass E = some ce.cls → hq_V p l e R s m args below meth c H1 locs (cells + rm.cells) (slots + rm.slots) Q (F0 m pc ls rest) q) : W p l e R s m args below meth c H locs cells slots Q (F0 m pc ls st0) := by
  obtain ⟨hx, hbb, hown, hts, hK⟩ := C
  obtain ⟨Y0, y1, y2⟩ := Y
  obtain ⟨hrc, hrs, hfr, hlo, hws, hcw, hcode, hini, hy, hlen, hl⟩ := hq_callB hts hG Y0 hR
  obtain ⟨cellB, hcB, hoB, hclB⟩ := va_recv hK (hq_one hb) hci (q0 := 0) rfl
  have hinst := hts _ (hG _ y1).1
  have hsel := hts _ (hG _ y2).1
  intro T hT X
  obtain ⟨mk, methM, hnamed, hmethM, hstM, habM⟩ := Cond.instanceMethod_spec hinst
  obtain ⟨methM', cM, hmethM', -, -, -, -, -, -, hsigM⟩ := Cond.code_spec hnamed hcode
  cases hmethM.symm.trans hmethM'
  obtain ⟨c2, r2, m2, q1, q2, q3, q4, kP, hkP, hkPi⟩ := Cond.selects_spec hsel
  cases hclB.symm.trans q1
  cases (State.methodFound?_of_named hnamed hy).symm.trans q2
  cases hnamed.symm.trans q3
  have hselP : selectMethod e.platform s.vm cellB.cls mk = .method mk := by rw [Launch.admits_selectMethod X.admits]; exact q4
  obtain ⟨vm₁, X₁, hstep₁⟩ := X.invokevirtual hx hown hl hnamed hmethM hstM hkP hkPi hy (a := b) (cell := cellB) (by rw [hT]; exact hcB) (fun z h => by rw [h] at hoB; cases hoB) hselP hmethM habM hkP hkPi (g := F0 m pc ls st0) rfl (argsL := As) (rest := rest) (hn.trans (hlen _ hsigM)) hst (by rw [hbb]; exact hdg)
  obtain ⟨q, V, ce, XV, hce, hcv, hcl, hO, hz, hsteps⟩ := hq_tback (bytes := bytes) (maxL := maxL) (ret := ret) (W9 := 8) hM (hq_blind hPb) hfr hlo X₁ (g := F0 m pc ls rest) (mk := mk) (a := (Value.ref b :: As).toArray) rfl (hls.trans hml.symm) (by rw [hbb]; exact hdg) (lv_room hW) (X₁.named hnamed)
    (atoms_intro fun w hw => hws w hw _ _ X₁.warmed) (hws _ hcw _ _ X₁.warmed) (word_at X₁.warmed (Or.inl (by first | rfl | simp [Cond.onTables, Cond.keeps, Cond.steady])) hini) hR.2.1 hR.2.2 ⟨rfl, va_K.moved X₁.warmed.alike hK, hP _ hT X₁.warmed⟩
  have hO' : hq_O H.size H V.heap := by
    have h9 : hq_O T.heap.size T.heap V.heap := hO
    rw [hT] at h9
    exact h9
  have hz' : H.size ≤ V.heap.size := by
    have h9 : T.heap.size ≤ V.heap.size := hz
    rw [hT] at h9
    exact h9
  have hcl' : s.vm.findClass E = some ce.cls := by
    rw [X₁.warmed.alike.findClass] at hcl
    exact hcl
  obtain ⟨t, a1, b1⟩ := kk q ce V.heap hO' hz' hce hcv hcl' V rfl XV
  exact ⟨t, (hstep₁ _ fun acts => by rw [doInvoke_state]; exact hsteps).trans a1, b1⟩
theorem hq_tcallS (C : hq_C p c s m args own cc TB D cl tys) (hG : GoodIn TB TB) (hml : c.maxLocals = nL) (Y : hq_YS TB own index y bytes maxL ret n) (hM : hq_T l y bytes maxL ret TB rm D cl tys As P E) (hPb : hq_Bl P) (hP : ∀ U : State, U.heap = H → s.WarmedH U.vm → P U) (hls : ls.size = nL) (hn : As.length = n) (hst : st0 = As.reverse ++ rest) (hR : hq_R R rm maxL cells slots) (hW : (rest.map fun v => v.category).sum ≤ 8) (hdg : decode cc pc = .ok (.invokestatic index, 3))
    (kk : ∀ (q : Addr) (ce : Cell) (H1 : Heap), hq_O H.size H H1 → H.size ≤ H1.size → H1[q]? = some ce → ce.vm = .none → s.vm.findClass E = some ce.cls → hq_V p l e R s m args below meth c H1 locs (cells + rm.cells) (slots + rm.slots) Q (F0 m pc ls rest) q) : W p l e R s m args below meth c H locs cells slots Q (F0 m pc ls st0) := by
  obtain ⟨hx, hbb, hown, hts, hK⟩ := C
  obtain ⟨Y0, y1⟩ := Y
  obtain ⟨hrc, hrs, hfr, hlo, hws, hcw, hcode, hini, hy, hlen, hl⟩ := hq_callB hts hG Y0 hR
  have hstat := hts _ (hG _ y1).1
  intro T hT X
  obtain ⟨mk, hnamed⟩ := Cond.code_named hcode
  obtain ⟨methM, cM, hmethM, -, -, -, -, -, -, hsigM⟩ := Cond.code_spec hnamed hcode
  have hstatic : methM.isStatic = true := Cond.static_spec hnamed hmethM hstat
  obtain ⟨kP, hkP, -⟩ := className_of_methodNamed hnamed
  have hinitP : kP.init = .initialized := Cond.initialized_spec (findClass_of_methodNamed hnamed) hkP hini
  obtain ⟨vm₁, X₁, hstep₁⟩ := X.invokestatic hx hown hl hnamed hmethM hstatic hkP hinitP hy (g := F0 m pc ls st0) rfl (argsL := As) (rest := rest) (hn.trans (hlen _ hsigM)) hst (by rw [hbb]; exact hdg)
  obtain ⟨q, V, ce, XV, hce, hcv, hcl, hO, hz, hsteps⟩ := hq_tback (bytes := bytes) (maxL := maxL) (ret := ret) (W9 := 8) hM (hq_blind hPb) hfr hlo X₁ (g := F0 m pc ls rest) (mk := mk) (a := As.toArray) rfl (hls.trans hml.symm) (by rw [hbb]; exact hdg) (lv_room hW) (X₁.named hnamed)
    (atoms_intro fun w hw => hws w hw _ _ X₁.warmed) (hws _ hcw _ _ X₁.warmed) (word_at X₁.warmed (Or.inl (by first | rfl | simp [Cond.onTables, Cond.keeps, Cond.steady])) hini) hR.2.1 hR.2.2 ⟨rfl, va_K.moved X₁.warmed.alike hK, hP _ hT X₁.warmed⟩
  have hO' : hq_O H.size H V.heap := by
    have h9 : hq_O T.heap.size T.heap V.heap := hO
    rw [hT] at h9
    exact h9
  have hz' : H.size ≤ V.heap.size := by
    have h9 : T.heap.size ≤ V.heap.size := hz
    rw [hT] at h9
    exact h9
  have hcl' : s.vm.findClass E = some ce.cls := by
    rw [X₁.warmed.alike.findClass] at hcl
    exact hcl
  obtain ⟨t, a1, b1⟩ := kk q ce V.heap hO' hz' hce hcv hcl' V rfl XV
  exact ⟨t, (hstep₁ _ fun acts => by rw [doInvoke_state]; exact hsteps).trans a1, b1⟩
/-- it goes on to the caller -/
theorem hq_tout {mc ms : Nat} {ce : Cell} {q : Addr} (hout : ∀ x ∈ c.exceptionTable.toList, covers x pc = false) (hlocks : meth.locks = false) (hcell : H[q]? = some ce) (hv : ce.vm = .none) (hcl : s.vm.findClass E = some ce.cls) (hc : cells ≤ mc) (hs : slots ≤ ms) :
    hq_V p l e R s m args below meth c H [] cells slots (hq_TQ below E s mc ms) (F0 m pc ls rest) q := by
  intro T hT X
  obtain ⟨st1, hrun, hend, hW, hsm⟩ := X.leaveThrown q (g := F0 m pc ls rest) rfl rfl rfl hout hlocks
  have hcell9 : (T.setFrames (.throwing q :: below)).heap[q]? = some ce := by
    show T.heap[q]? = some ce
    rw [hT]; exact hcell
  exact ⟨_, st1, q, hrun, hend, ce, hcell9, hv, hcl, hW, hsm.mono hc hs⟩
/-- a throwing contract out of the walk of its body -/
theorem hq_ofT (hy : plainName y.cls = true) {av : List Value} (hlen : (lg_sl av).length ≤ maxL)
    (body : ∀ (p : Program) (e : Env) (s : State) (m : MethodId) (below : List Frame) (meth : Method) (c : Code) (ls : Array Slot), hq_C p c s m av.toArray y.cls bytes TB D cl tys → c.maxLocals = maxL → meth.locks = false → (∀ x ∈ c.exceptionTable.toList, ∀ k, covers x k = false) → lv_has ls maxL (lv_args 0 av) → P s →
      W p l e rm s m av.toArray below meth c s.heap [] 0 0 (hq_TQ below E s rm.cells rm.slots) (F0 m 0 ls [])) :
    hq_T l y bytes maxL ret TB rm D cl tys av P E := by
  refine MetFree.of_bodyS (code := bytes) (maxLocals := maxL) (ret := ret) hy ?_ ?_
  · intro args s m h hn
    obtain ⟨meth, c, h1, h2, h3, h4, h5, h6, -, -⟩ := Cond.code_spec hn (atoms_spec (ws := Cond.code y bytes maxL ret :: TB) h _ List.mem_cons_self)
    exact ⟨meth, c, h1, h2, h3, h4, h5, h6⟩
  · intro p e s m args below meth c s₁ B hml hv _
    obtain ⟨rfl, hK, hP⟩ := hv
    have hts := atoms_spec (ws := Cond.code y bytes maxL ret :: TB) B.pre
    have hh0 : s₁.heap = s.heap := by rw [B.state]; rfl
    have hno : ∀ x ∈ c.exceptionTable.toList, ∀ k, covers x k = false := fun x hx k => covers_of_empty (B.noHandlers (hts _ List.mem_cons_self)) k x hx
    obtain ⟨t, a1, q, b1, b2, b3⟩ := body p e s m below meth c _ ⟨B.exec, B.bytes, findClass_of_methodNamed B.named, fun w hw => hts w (List.mem_cons_of_mem _ hw), hK⟩ hml B.notSynchronized hno (lv_entry av hlen) hP s₁ hh0 (Stand.of_body B)
    refine ⟨t, .threw q, ?_, b1, b2, q, rfl, b3⟩
    rw [lg_entry_eq]
    exact a1
/-- new E; dup; ldc; E.<init>(String); athrow: from the call on -/
theorem hq_ctor (C : hq_C p c s m args own cc TB D cl tys) (htr : l.stackTraces = false) {names : List String} {ic a mc ms : Nat} (hfit : Bundle.fit E = true) (hnames : ∀ n ∈ names, Bundle.fit n = true) (h : ∀ w ∈ Bundle.ownAtoms own ic E names, w.before args s = true) {cX : ClassId} {kX : Class} (hfX : s.vm.findClass E = some cX) (hkX : s.vm.classes[cX]? = some kX) (hcell : H[a]? = some (freshCell cX kX)) (hnew : s.heap.size ≤ a) {msg : Nat}
    (hls : ls.size = c.maxLocals) (hd6 : decode cc pc = .ok (.invokespecial ic, 3)) (hd9 : decode cc (pc + 3) = .ok (.athrow, 1)) (hout : ∀ x ∈ c.exceptionTable.toList, ∀ k, covers x k = false) (hlocks : meth.locks = false) (hRf : names.length + 3 < R.frames) (hRl : ((Value.ref a :: rest).map fun v => v.category).sum + (13 * (names.length + 1) + 42) ≤ R.locals) (hc : cells ≤ mc) (hs : slots ≤ ms) :
    W p l e R s m args below meth c H [] cells slots (hq_TQ below E s mc ms) (F0 m pc ls (.ref msg :: .ref a :: .ref a :: rest)) := by
  obtain ⟨hx, hbb, hown, hts, hK⟩ := C
  intro T hT X
  have htr9 : e.platform.stackTraces = false := (show e.platform.stackTraces = l.stackTraces by rw [X.admits.platform]).trans htr
  obtain ⟨U, hsteps, hrun, hend, hW, hsame, ce, hce, K⟩ := X.ctorThrowS hx htr9 (own := own) (cls := E) (names := names) (ic := ic) hown hfit hnames h (fun x hx => by cases hx) hfX hkX (a := a) (by rw [hT]; exact hcell) hnew (msg := .ref msg) rfl (g := F0 m pc ls (.ref msg :: .ref a :: .ref a :: rest)) rfl hls rfl rfl (rest := rest) rfl
    (by rw [hbb]; exact hd6) (by rw [hbb]; exact hd9) (fun x hx => hout x hx _) hRf (by show 2 * 0 + _ + _ ≤ _; omega) hlocks
  exact ⟨U, hsteps, a, hrun, hend, ce, hce, K.vm, K.cls, hW, hsame.mono hc hs⟩
end HQT
end
section
/-! A thrown object is caught by a row of the method's own table; catch types may be resolved on the way. -/
section HQH
variable {e : Env} {f : JFrame} {a : Addr} {cell : Cell}
theorem hq_row {s : State} {x : ExceptionTableEntry} {t : List ExceptionTableEntry} {c : ClassId} {Q : Handler → Pre} {E : CtlPost} {d : Bool} {acts : List Action} (hx : covers x f.pc = true) (h0 : x.catchType ≠ 0) (hl : s.vm.ClassLinks e.platform f.method.cls x.catchType c) (hcell : s.heap[a]? = some cell) (hobj : ∀ k, cell.vm ≠ .statics k)
    (hk : ∃ k, s.vm.classes[cell.cls]? = some k) (hc : ∃ k, s.vm.classes[c]? = some k) :
    wp (findHandler.go f a (x :: t)) Q E e d acts s ↔ if s.vm.assignable cell.cls c = true then Q (.found x.handlerPc) d acts (s.setVm (s.vm.noted f.method.cls x.catchType (.cls c))) else wp (findHandler.go f a t) Q E e d acts (s.setVm (s.vm.noted f.method.cls x.catchType (.cls c))) := by
  have hal : s.vm.Alike (s.vm.noted f.method.cls x.catchType (.cls c)) := (Vm.Alike.refl s.vm).noted _ _ _
  obtain ⟨ha, ht⟩ := (resolveClass_links e.toSetting hl).op (op := VmOp.resolveClass f.method.cls x.catchType) rfl
  obtain ⟨k1, hk1⟩ := hk
  obtain ⟨k2, hk2⟩ := hc
  obtain ⟨k3, hk3, -⟩ := hal.2.2 _ _ hk1
  obtain ⟨k4, hk4, -⟩ := hal.2.2 _ _ hk2
  have hasg : (s.vm.noted f.method.cls x.catchType (.cls c)).assignable cell.cls c = s.vm.assignable cell.cls c := by rw [hal.assignable]
  simp only [covers] at hx
  cases hfit : s.vm.assignable cell.cls c <;> rw [hfit] at hasg <;> simp [findHandler.go, hx, h0, ha, ht, hcell, hobj, hk3, hk4, hasg, VmOp.dirties, VmOp.acts]
theorem hq_seek {s0 : State} {x : ExceptionTableEntry} {suf : List ExceptionTableEntry} {cT : ClassId} (hobj : ∀ k, cell.vm ≠ .statics k) (hk : ∃ k, s0.vm.classes[cell.cls]? = some k) (hx : covers x f.pc = true) (h0 : x.catchType ≠ 0) (hl : s0.vm.ClassLinks e.platform f.method.cls x.catchType cT) (hfit : s0.vm.assignable cell.cls cT = true) (pre : List ExceptionTableEntry) :
    ∀ S : State, s0.WarmedH S.vm → S.heap[a]? = some cell → (∀ y ∈ pre, covers y f.pc = false ∨ (y.catchType ≠ 0 ∧ ∃ c, s0.vm.ClassLinks e.platform f.method.cls y.catchType c ∧ s0.vm.assignable cell.cls c = false)) →
      ∃ vm', s0.WarmedH vm' ∧ ∀ (Q : Handler → Pre) (E : CtlPost) (d : Bool) (acts : List Action), wp (findHandler.go f a (pre ++ x :: suf)) Q E e d acts S ↔ Q (.found x.handlerPc) d acts (S.setVm vm') := by
  have kls : ∀ (S : State), s0.WarmedH S.vm → ∀ c : ClassId, (∃ k, s0.vm.classes[c]? = some k) → ∃ k, S.vm.classes[c]? = some k := by
    intro S hW c ⟨k, h⟩
    obtain ⟨k', h', -⟩ := hW.alike.2.2 _ _ h
    exact ⟨k', h'⟩
  induction pre with
  | nil =>
    intro S hW hcell _
    obtain ⟨dk, _, _, kt, hd, _, _, _, _, hkt, _, hopen⟩ := hl.here
    refine ⟨_, hW.noted hd hopen (State.rightAt_cls hl), fun Q E d acts => ?_⟩
    rw [List.nil_append, hq_row hx h0 (hW.classLinks hl) hcell hobj (kls S hW _ hk) (kls S hW _ ⟨kt, hkt⟩), if_pos (by rw [hW.alike.assignable]; exact hfit)]
  | cons z zs ih =>
    intro S hW hcell hpass
    have hps := fun y hy => hpass y (List.mem_cons_of_mem z hy)
    cases hcov : covers z f.pc with
    | false =>
      obtain ⟨vm', hW', hq⟩ := ih S hW hcell hps
      exact ⟨vm', hW', fun Q E d acts => by rw [List.cons_append, _root_.Jvm.W.findHandler_go_skip hcov]; exact hq Q E d acts⟩
    | true =>
      rcases hpass z List.mem_cons_self with h | ⟨hz0, c, hlz, hno⟩
      · rw [hcov] at h; cases h
      · obtain ⟨dk, _, _, kt, hd, _, _, _, _, hkt, _, hopen⟩ := hlz.here
        obtain ⟨vm', hW', hq⟩ := ih (S.setVm (S.vm.noted f.method.cls z.catchType (.cls c))) (hW.noted hd hopen (State.rightAt_cls hlz)) hcell hps
        refine ⟨vm', hW', fun Q E d acts => ?_⟩
        rw [List.cons_append, hq_row hcov hz0 (hW.classLinks hlz) hcell hobj (kls S hW _ hk) (kls S hW _ ⟨kt, hkt⟩), if_neg (by rw [hW.alike.assignable, hno]; decide)]
        exact hq Q E d acts
end HQH
theorem hq_caught {tb : Tables} {e : Env} {s target : State} {g : JFrame} {c : Code} {below : List Frame} {a : Addr} (h : At s g.method c below) {pc : Nat} {vm' : Vm}
    (hf : ∀ (Q : Handler → Pre) (E : CtlPost) (d : Bool) (acts : List Action), wp (findHandler g a) Q E e d acts ((s.setTop g).pushFrame (.throwing a)) ↔ Q (.found pc) d acts (((s.setTop g).pushFrame (.throwing a)).setVm vm'))
    (hrest : Steps tb e below ((s.setVm vm').setTop { g with pc := pc, stack := [.ref a] }) target) : Steps tb e below ((s.setTop g).pushFrame (.throwing a)) target := by
  have hstep : ∀ r : List Frame, (stepThrowing e ((s.setTop g).pushFrame (.throwing a)) a (.java g :: r)).Is ((((s.setTop g).pushFrame (.throwing a)).setVm vm').setFrames (.java { g with pc := pc, stack := [.ref a] } :: r)) [] := by
    intro r
    simp only [stepThrowing, searchFrame, vmDo]
    generalize hr : Sem.go _ e false [] ((s.setTop g).pushFrame (.throwing a)) = res
    obtain ⟨as, rfl, ha⟩ := Sem.eq_ok_of hr (a := Handler.found pc) (s' := ((s.setTop g).pushFrame (.throwing a)).setVm vm') (acts' := []) (by simp [hf _ _ _ _])
    exact ⟨rfl, ha⟩
  obtain ⟨hgo, hw⟩ := h.throwing a
  refine Steps.head hgo hw ?_
  rw [stepThread_throwing (frames_entered h.top _), (hstep _).1]
  obtain ⟨g₀, hg⟩ := Option.isSome_iff_exists.mp h.top
  obtain ⟨r, hr⟩ := State.topJava?_eq_some.mp hg
  have hmove : ∀ (u : State) (F G : List Frame), ((u.setFrames F).setVm vm').setFrames G = (u.setVm vm').setFrames G := fun u F G => by
    rw [show (u.setFrames F).setVm vm' = (u.setVm vm').setFrames F from rfl, State.setFrames_setFrames]
  have hr' : (s.setVm vm').frames = .java g₀ :: r := hr
  rw [State.setTop_of_frames _ hr'] at hrest
  rw [hr, List.tail_cons, State.pushFrame, hmove, State.setTop_of_frames _ hr, hmove]
  exact hrest
section HQK
variable {p : Program} {l : Launch} {e : Env} {R : Room} {s : State} {m : MethodId} {args : Array Value} {below : List Frame} {meth : Method} {c : Code} {H : Heap} {locs : List Loc} {cells slots : Nat} {Q : State → Prop} {pc : Nat} {ls : Array Slot} {rest : List Value}
/-- caught by the row x; each row ahead doesn't cover the place, or names a class that E is not -/
theorem hq_catch {own name E : String} {ce : Cell} {q : Addr} (hown : s.vm.findClass own = some m.cls) (pre : List ExceptionTableEntry) (x : ExceptionTableEntry) (suf : List ExceptionTableEntry) (hsplit : c.exceptionTable.toList = pre ++ x :: suf)
    (hpass : ∀ z ∈ pre, covers z pc = false ∨ (z.catchType ≠ 0 ∧ ∃ nm : String, (Cond.classLink own z.catchType nm).before args s = true ∧ ∀ c1 c2, s.vm.findClass E = some c1 → s.vm.findClass nm = some c2 → s.vm.assignable c1 c2 = false)) (hx : covers x pc = true) (h0 : x.catchType ≠ 0)
    (hlink : (Cond.classLink own x.catchType name).before args s = true) (hcast : (Cond.castable E name).before args s = true) (hcell : H[q]? = some ce) (hv : ce.vm = .none) (hcl : s.vm.findClass E = some ce.cls)
    (kk : W p l e R s m args below meth c H locs cells slots Q (F0 m x.handlerPc ls [.ref q])) : hq_V p l e R s m args below meth c H locs cells slots Q (F0 m pc ls rest) q := by
  intro T hT X
  have hpl : e.platform.magicAccessors = ({} : Platform).magicAccessors := by rw [X.admits.platform]
  obtain ⟨c3, c4, hc3, hc4, hasg⟩ := Cond.castable_spec hcast
  cases Option.some.inj (hc3.symm.trans hcl)
  obtain ⟨c5, hc5, hcl5⟩ := Cond.classLink_spec hown hlink e.platform hpl
  cases Option.some.inj (hc4.symm.trans hc5)
  have hkE : ∃ k, s.vm.classes[ce.cls]? = some k := by
    obtain ⟨k9, h9, -⟩ := Vm.findClass_spec hcl
    exact ⟨k9, h9⟩
  have hW9 : s.WarmedH ((T.setTop (F0 m pc ls rest)).pushFrame (.throwing q)).vm := by rw [Stand.throwing_vm]; exact X.warmed
  have hh9 : ((T.setTop (F0 m pc ls rest)).pushFrame (.throwing q)).heap[q]? = some ce := by rw [Stand.throwing_heap, hT]; exact hcell
  obtain ⟨vm', hW', hq⟩ := hq_seek (e := e) (f := F0 m pc ls rest) (a := q) (x := x) (suf := suf) (by rw [hv]; exact fun k h => by cases h) hkE hx h0 hcl5 hasg pre ((T.setTop (F0 m pc ls rest)).pushFrame (.throwing q)) hW9 hh9 (fun z hz => by
    rcases hpass z hz with h | ⟨hz0, nm, hl1, hn1⟩
    · exact Or.inl h
    · obtain ⟨c6, hc6, hcl6⟩ := Cond.classLink_spec hown hl1 e.platform hpl
      exact Or.inr ⟨hz0, c6, hcl6, hn1 _ _ hcl hc6⟩)
  have hm9 : ((T.setTop (F0 m pc ls rest)).pushFrame (.throwing q)).vm.method? (F0 m pc ls rest).method = some meth := by rw [Stand.throwing_vm]; exact X.method'
  obtain ⟨t, a1, b1⟩ := kk (T.setVm vm') hT (X.noted hW')
  refine ⟨t, hq_caught (c := c) X.here (vm' := vm') (pc := x.handlerPc) (fun Q E d acts => ?_) a1, b1⟩
  rw [_root_.Jvm.W.findHandler_eq hm9 X.code, hsplit]
  exact hq Q E d acts
end HQK
end
section
/-! Out of the words at a start: the numbers of the classes and of the arrays' classes. -/
theorem hq_arrI {s : State} {args : Array Value} (h : (Cond.arrayClass .int).before args s = true) : ∃ cA : ClassId, ArrOfT s cA .int ∧ va_RA s cA .int := by
  obtain ⟨cA, kA, comp, h1, h2, h3⟩ := Cond.arrayClass_spec h
  exact ⟨cA, fun n z => ⟨(fun k h => by cases h), kA, h2, comp, h3⟩, h1⟩
theorem hq_arrZ {s : State} {args : Array Value} (h : (Cond.arrayClass .boolean).before args s = true) : ∃ cA : ClassId, ArrOfT s cA .boolean ∧ va_RA s cA .boolean := by
  obtain ⟨cA, kA, comp, h1, h2, h3⟩ := Cond.arrayClass_spec h
  exact ⟨cA, fun n z => ⟨(fun k h => by cases h), kA, h2, comp, h3⟩, h1⟩
theorem hq_arrJ {s : State} {args : Array Value} (h : (Cond.arrayClass .long).before args s = true) : ∃ cA : ClassId, ArrOfT s cA .long ∧ va_RA s cA .long := by
  obtain ⟨cA, kA, comp, h1, h2, h3⟩ := Cond.arrayClass_spec h
  exact ⟨cA, fun n z => ⟨(fun k h => by cases h), kA, h2, comp, h3⟩, h1⟩
theorem hq_arrQ {s : State} {args : Array Value} {C : String} (h : (Cond.arrayOver (.object C)).before args s = true) : ∃ cA : ClassId, ArrOfT s cA (.object C) ∧ va_RA s cA (.object C) := by
  obtain ⟨comp, cA, kA, h1, -, h3, h4, h5⟩ := Cond.arrayOver_spec h
  exact ⟨cA, fun n z => ⟨(fun k h => by cases h), kA, h3, comp, h4⟩, kA, comp, h3, h4, h1, h5⟩
theorem hq_cls {s : State} {cl : List vw_C} (h : ∀ (c : Nat) (q : vw_C), cl[c]? = some q → ∃ (cC : ClassId) (iS : Nat → Nat), u_Kn s q.1 q.2.1 q.2.2 cC iS) : ∃ D : va_G, ∀ (c : Nat) (q : vw_C), cl[c]? = some q → u_Kn s q.1 q.2.1 q.2.2 (D.1 c) (D.2 c) := by
  have h' : ∀ c : Nat, ∃ x : ClassId × (Nat → Nat), ∀ q, cl[c]? = some q → u_Kn s q.1 q.2.1 q.2.2 x.1 x.2 := by
    intro c
    cases hc : cl[c]? with
    | none => exact ⟨((0 : Nat), fun _ => 0), fun q h => by cases h⟩
    | some q0 =>
      obtain ⟨a, b, h1⟩ := h c q0 hc
      exact ⟨(a, b), fun q hq => by cases hq; exact h1⟩
  exact ⟨(fun c => (Classical.choose (h' c)).1, fun c => (Classical.choose (h' c)).2), fun c q hq => Classical.choose_spec (h' c) q hq⟩
end
section
def R_X : String := "StrongBus"
def R_Co : String := "StrongBus$Core"
def R_Di : String := "StrongBus$Disturbances"
def R_Fr : String := "StrongBus$Frames"
def R_No : String := "StrongBus$Node"
def R_Re : String := "StrongBus$Reader"
def R_M : String := "StrongBusModel"
def R_L : String := "StrongBusLaw"
def R_Ma : String := "java/lang/Math"
def T_Co : u_T := fun k => match k with
  | 0 => ("StrongBus$Core", "bits", "[I", true)
  | 1 => ("StrongBus$Core", "length", "I", false)
  | _ => ("StrongBus$Core", "register", "I", false)
def t_Co : Nat → FieldType := fun k => match k with
  | 0 => .array .int
  | 1 => .int
  | _ => .int
def T_Di : u_T := fun k => match k with
  | 0 => ("StrongBus$Disturbances", "ring", "[Z", true)
  | _ => ("StrongBus$Disturbances", "latest", "I", false)
def t_Di : Nat → FieldType := fun k => match k with
  | 0 => .array .boolean
  | _ => .int
def T_Fr : u_T := fun k => match k with
  | 0 => ("StrongBus$Frames", "row", "[I", true)
  | _ => ("StrongBus$Frames", "size", "I", false)
def t_Fr : Nat → FieldType := fun k => match k with
  | 0 => .array .int
  | _ => .int
def T_No : u_T := fun k => match k with
  | 0 => ("StrongBus$Node", "waiting", "LStrongBus$Frames;", true)
  | 1 => ("StrongBus$Node", "inbox", "LStrongBus$Frames;", true)
  | 2 => ("StrongBus$Node", "disturbances", "LStrongBus$Disturbances;", true)
  | 3 => ("StrongBus$Node", "core", "LStrongBus$Core;", true)
  | 4 => ("StrongBus$Node", "reader", "LStrongBus$Reader;", true)
  | 5 => ("StrongBus$Node", "state", "I", false)
  | 6 => ("StrongBus$Node", "was", "I", false)
  | 7 => ("StrongBus$Node", "sendErrors", "I", false)
  | 8 => ("StrongBus$Node", "hearErrors", "I", false)
  | 9 => ("StrongBus$Node", "lost", "I", false)
  | 10 => ("StrongBus$Node", "mask", "I", false)
  | 11 => ("StrongBus$Node", "value", "I", false)
  | 12 => ("StrongBus$Node", "sendingPlace", "I", false)
  | 13 => ("StrongBus$Node", "driven", "I", false)
  | 14 => ("StrongBus$Node", "passiveFlag", "Z", false)
  | 15 => ("StrongBus$Node", "steps", "I", false)
  | 16 => ("StrongBus$Node", "ones", "I", false)
  | _ => ("StrongBus$Node", "rowsOfOnes", "I", false)
def t_No : Nat → FieldType := fun k => match k with
  | 0 => .object "StrongBus$Frames"
  | 1 => .object "StrongBus$Frames"
  | 2 => .object "StrongBus$Disturbances"
  | 3 => .object "StrongBus$Core"
  | 4 => .object "StrongBus$Reader"
  | 5 => .int
  | 6 => .int
  | 7 => .int
  | 8 => .int
  | 9 => .int
  | 10 => .int
  | 11 => .int
  | 12 => .int
  | 13 => .int
  | 14 => .boolean
  | 15 => .int
  | 16 => .int
  | _ => .int
def T_Re : u_T := fun k => match k with
  | 0 => ("StrongBus$Reader", "place", "I", false)
  | 1 => ("StrongBus$Reader", "coreLength", "I", false)
  | 2 => ("StrongBus$Reader", "latest", "I", false)
  | 3 => ("StrongBus$Reader", "equal", "I", false)
  | 4 => ("StrongBus$Reader", "register", "I", false)
  | 5 => ("StrongBus$Reader", "id", "I", false)
  | 6 => ("StrongBus$Reader", "bytes", "I", false)
  | _ => ("StrongBus$Reader", "data", "I", false)
def t_Re : Nat → FieldType := fun k => match k with
  | 0 => .int
  | 1 => .int
  | 2 => .int
  | 3 => .int
  | 4 => .int
  | 5 => .int
  | 6 => .int
  | _ => .int
def T_X : u_T := fun k => match k with
  | 0 => ("StrongBus", "nodes", "[LStrongBus$Node;", true)
  | 1 => ("StrongBus", "levels", "[I", true)
  | _ => ("StrongBus", "totals", "[I", true)
def t_X : Nat → FieldType := fun k => match k with
  | 0 => .array (.object "StrongBus$Node")
  | 1 => .array .int
  | _ => .array .int
def T_M : u_T := fun k => match k with
  | 0 => ("StrongBusModel", "thrown", "I", false)
  | 1 => ("StrongBusModel", "nodes", "I", false)
  | 2 => ("StrongBusModel", "totals", "[I", false)
  | 3 => ("StrongBusModel", "wire", "[I", false)
  | 4 => ("StrongBusModel", "disturbed", "[Z", false)
  | 5 => ("StrongBusModel", "state", "[I", false)
  | 6 => ("StrongBusModel", "sendErrors", "[I", false)
  | 7 => ("StrongBusModel", "hearErrors", "[I", false)
  | 8 => ("StrongBusModel", "masks", "[I", false)
  | 9 => ("StrongBusModel", "values", "[I", false)
  | 10 => ("StrongBusModel", "lost", "[I", false)
  | 11 => ("StrongBusModel", "waits", "[I", false)
  | 12 => ("StrongBusModel", "waitId", "[I", false)
  | 13 => ("StrongBusModel", "waitBytes", "[I", false)
  | 14 => ("StrongBusModel", "waitData", "[I", false)
  | 15 => ("StrongBusModel", "chosen", "[I", false)
  | 16 => ("StrongBusModel", "boxed", "[I", false)
  | 17 => ("StrongBusModel", "box", "[I", false)
  | 18 => ("StrongBusModel", "part", "[I", false)
  | 19 => ("StrongBusModel", "read", "[I", false)
  | 20 => ("StrongBusModel", "run", "[I", false)
  | 21 => ("StrongBusModel", "latest", "[I", false)
  | 22 => ("StrongBusModel", "register", "[I", false)
  | 23 => ("StrongBusModel", "id", "[I", false)
  | 24 => ("StrongBusModel", "bytes", "[I", false)
  | 25 => ("StrongBusModel", "data", "[I", false)
  | 26 => ("StrongBusModel", "was", "[I", false)
  | 27 => ("StrongBusModel", "quiet", "[Z", false)
  | 28 => ("StrongBusModel", "time", "[I", false)
  | 29 => ("StrongBusModel", "ones", "[I", false)
  | 30 => ("StrongBusModel", "role", "[I", false)
  | _ => ("StrongBusModel", "drive", "[I", false)
def t_M : Nat → FieldType := fun k => match k with
  | 0 => .int
  | 1 => .int
  | 2 => .array .int
  | 3 => .array .int
  | 4 => .array .boolean
  | 5 => .array .int
  | 6 => .array .int
  | 7 => .array .int
  | 8 => .array .int
  | 9 => .array .int
  | 10 => .array .int
  | 11 => .array .int
  | 12 => .array .int
  | 13 => .array .int
  | 14 => .array .int
  | 15 => .array .int
  | 16 => .array .int
  | 17 => .array .int
  | 18 => .array .int
  | 19 => .array .int
  | 20 => .array .int
  | 21 => .array .int
  | 22 => .array .int
  | 23 => .array .int
  | 24 => .array .int
  | 25 => .array .int
  | 26 => .array .int
  | 27 => .array .boolean
  | 28 => .array .int
  | 29 => .array .int
  | 30 => .array .int
  | _ => .array .int
abbrev vwCl : List vw_C := [(R_Co, T_Co, 3), (R_Di, T_Di, 2), (R_Fr, T_Fr, 2), (R_No, T_No, 18), (R_Re, T_Re, 8), (R_X, T_X, 3), (R_M, T_M, 32)]
set_option maxRecDepth 20000 in
theorem k_Co : hq_K TB vwCl 0 R_Co T_Co 3 t_Co := ⟨rfl, by decide +kernel, by decide +kernel, by decide +kernel⟩
set_option maxRecDepth 20000 in
theorem k_Di : hq_K TB vwCl 1 R_Di T_Di 2 t_Di := ⟨rfl, by decide +kernel, by decide +kernel, by decide +kernel⟩
set_option maxRecDepth 20000 in
theorem k_Fr : hq_K TB vwCl 2 R_Fr T_Fr 2 t_Fr := ⟨rfl, by decide +kernel, by decide +kernel, by decide +kernel⟩
set_option maxRecDepth 20000 in
theorem k_No : hq_K TB vwCl 3 R_No T_No 18 t_No := ⟨rfl, by decide +kernel, by decide +kernel, by decide +kernel⟩
set_option maxRecDepth 20000 in
theorem k_Re : hq_K TB vwCl 4 R_Re T_Re 8 t_Re := ⟨rfl, by decide +kernel, by decide +kernel, by decide +kernel⟩
set_option maxRecDepth 20000 in
theorem k_X : hq_K TB vwCl 5 R_X T_X 3 t_X := ⟨rfl, by decide +kernel, by decide +kernel, by decide +kernel⟩
set_option maxRecDepth 20000 in
theorem k_M : hq_K TB vwCl 6 R_M T_M 32 t_M := ⟨rfl, by decide +kernel, by decide +kernel, by decide +kernel⟩
abbrev b_X_init : ByteArray := prog_1_method_1_code
def y_X_init : MethodName := ⟨R_X, "<init>", "(I)V"⟩
set_option maxRecDepth 100000 in
theorem cw_X_init : Cond.code y_X_init b_X_init 3 none ∈ TB := tb_at 46 rfl rfl
abbrev b_Ma_min : ByteArray := prog_12_method_69_code
def y_Ma_min : MethodName := ⟨R_Ma, "min", "(II)I"⟩
set_option maxRecDepth 100000 in
theorem cw_Ma_min : Cond.code y_Ma_min b_Ma_min 2 (some .int) ∈ TB := tb_at 52 rfl rfl
abbrev b_Ma_max : ByteArray := prog_12_method_65_code
def y_Ma_max : MethodName := ⟨R_Ma, "max", "(II)I"⟩
set_option maxRecDepth 100000 in
theorem cw_Ma_max : Cond.code y_Ma_max b_Ma_max 2 (some .int) ∈ TB := tb_at 55 rfl rfl
abbrev b_No_init : ByteArray := prog_5_method_1_code
def y_No_init : MethodName := ⟨R_No, "<init>", "()V"⟩
set_option maxRecDepth 100000 in
theorem cw_No_init : Cond.code y_No_init b_No_init 1 none ∈ TB := tb_at 61 rfl rfl
abbrev b_Fr_init : ByteArray := prog_4_method_1_code
def y_Fr_init : MethodName := ⟨R_Fr, "<init>", "()V"⟩
set_option maxRecDepth 100000 in
theorem cw_Fr_init : Cond.code y_Fr_init b_Fr_init 1 none ∈ TB := tb_at 67 rfl rfl
abbrev b_Di_init : ByteArray := prog_3_method_1_code
def y_Di_init : MethodName := ⟨R_Di, "<init>", "()V"⟩
set_option maxRecDepth 100000 in
theorem cw_Di_init : Cond.code y_Di_init b_Di_init 1 none ∈ TB := tb_at 83 rfl rfl
abbrev b_Co_init : ByteArray := prog_2_method_1_code
def y_Co_init : MethodName := ⟨R_Co, "<init>", "()V"⟩
set_option maxRecDepth 100000 in
theorem cw_Co_init : Cond.code y_Co_init b_Co_init 1 none ∈ TB := tb_at 97 rfl rfl
abbrev b_Re_init : ByteArray := prog_6_method_1_code
def y_Re_init : MethodName := ⟨R_Re, "<init>", "()V"⟩
set_option maxRecDepth 100000 in
theorem cw_Re_init : Cond.code y_Re_init b_Re_init 1 none ∈ TB := tb_at 113 rfl rfl
abbrev b_X_level : ByteArray := prog_1_method_6_code
def y_X_level : MethodName := ⟨R_X, "level", "(I)I"⟩
set_option maxRecDepth 100000 in
theorem cw_X_level : Cond.code y_X_level b_X_level 2 (some .int) ∈ TB := tb_at 220 rfl rfl
abbrev b_L_cell : ByteArray := method_2_code
def y_L_cell : MethodName := ⟨R_L, "cell", "([II)I"⟩
set_option maxRecDepth 100000 in
theorem cw_L_cell : Cond.code y_L_cell b_L_cell 2 (some .int) ∈ TB := tb_at 223 rfl rfl
abbrev b_L_request : ByteArray := method_3_code
def y_L_request : MethodName := ⟨R_L, "request", "(LStrongBus;IIII[J)I"⟩
abbrev b_X_request : ByteArray := prog_1_method_2_code
def y_X_request : MethodName := ⟨R_X, "request", "(IIII)I"⟩
set_option maxRecDepth 100000 in
theorem cw_X_request : Cond.code y_X_request b_X_request 6 (some .int) ∈ TB := tb_at 232 rfl rfl
abbrev b_X_nodeOf : ByteArray := prog_1_method_11_code
def y_X_nodeOf : MethodName := ⟨R_X, "nodeOf", "(I)LStrongBus$Node;"⟩
set_option maxRecDepth 100000 in
theorem cw_X_nodeOf : Cond.code y_X_nodeOf b_X_nodeOf 2 (some (.object "StrongBus$Node")) ∈ TB := tb_at 236 rfl rfl
abbrev b_X_isEleven : ByteArray := prog_1_method_12_code
def y_X_isEleven : MethodName := ⟨R_X, "isEleven", "(I)Z"⟩
set_option maxRecDepth 100000 in
theorem cw_X_isEleven : Cond.code y_X_isEleven b_X_isEleven 1 (some .boolean) ∈ TB := tb_at 306 rfl rfl
abbrev b_Fr_isFull : ByteArray := prog_4_method_6_code
def y_Fr_isFull : MethodName := ⟨R_Fr, "isFull", "()Z"⟩
set_option maxRecDepth 100000 in
theorem cw_Fr_isFull : Cond.code y_Fr_isFull b_Fr_isFull 1 (some .boolean) ∈ TB := tb_at 311 rfl rfl
abbrev b_Fr_packed : ByteArray := prog_4_method_2_code
def y_Fr_packed : MethodName := ⟨R_Fr, "packed", "(III)I"⟩
set_option maxRecDepth 100000 in
theorem cw_Fr_packed : Cond.code y_Fr_packed b_Fr_packed 3 (some .int) ∈ TB := tb_at 330 rfl rfl
abbrev b_Fr_add : ByteArray := prog_4_method_7_code
def y_Fr_add : MethodName := ⟨R_Fr, "add", "(I)V"⟩
set_option maxRecDepth 100000 in
theorem cw_Fr_add : Cond.code y_Fr_add b_Fr_add 2 none ∈ TB := tb_at 334 rfl rfl
abbrev b_L_filter : ByteArray := method_4_code
def y_L_filter : MethodName := ⟨R_L, "filter", "(LStrongBus;III)I"⟩
abbrev b_X_filter : ByteArray := prog_1_method_3_code
def y_X_filter : MethodName := ⟨R_X, "filter", "(III)V"⟩
set_option maxRecDepth 100000 in
theorem cw_X_filter : Cond.code y_X_filter b_X_filter 5 none ∈ TB := tb_at 342 rfl rfl
abbrev b_L_disturb : ByteArray := method_5_code
def y_L_disturb : MethodName := ⟨R_L, "disturb", "(LStrongBus;II)I"⟩
abbrev b_X_disturb : ByteArray := prog_1_method_4_code
def y_X_disturb : MethodName := ⟨R_X, "disturb", "(II)V"⟩
set_option maxRecDepth 100000 in
theorem cw_X_disturb : Cond.code y_X_disturb b_X_disturb 4 none ∈ TB := tb_at 350 rfl rfl
abbrev b_X_checkBitTimes : ByteArray := prog_1_method_13_code
def y_X_checkBitTimes : MethodName := ⟨R_X, "checkBitTimes", "(I)V"⟩
set_option maxRecDepth 100000 in
theorem cw_X_checkBitTimes : Cond.code y_X_checkBitTimes b_X_checkBitTimes 1 none ∈ TB := tb_at 353 rfl rfl
abbrev b_Di_mark : ByteArray := prog_3_method_2_code
def y_Di_mark : MethodName := ⟨R_Di, "mark", "(I)V"⟩
set_option maxRecDepth 100000 in
theorem cw_Di_mark : Cond.code y_Di_mark b_Di_mark 2 none ∈ TB := tb_at 358 rfl rfl
abbrev b_Ma_floorMod : ByteArray := prog_12_method_50_code
def y_Ma_floorMod : MethodName := ⟨R_Ma, "floorMod", "(II)I"⟩
set_option maxRecDepth 100000 in
theorem cw_Ma_floorMod : Cond.code y_Ma_floorMod b_Ma_floorMod 3 (some .int) ∈ TB := tb_at 361 rfl rfl
abbrev b_L_pass : ByteArray := method_6_code
def y_L_pass : MethodName := ⟨R_L, "pass", "(LStrongBus;I[J)I"⟩
abbrev b_X_pass : ByteArray := prog_1_method_5_code
def y_X_pass : MethodName := ⟨R_X, "pass", "(I)I"⟩
set_option maxRecDepth 100000 in
theorem cw_X_pass : Cond.code y_X_pass b_X_pass 4 (some .int) ∈ TB := tb_at 368 rfl rfl
abbrev b_X_passOne : ByteArray := prog_1_method_14_code
def y_X_passOne : MethodName := ⟨R_X, "passOne", "()V"⟩
set_option maxRecDepth 100000 in
theorem cw_X_passOne : Cond.code y_X_passOne b_X_passOne 4 none ∈ TB := tb_at 372 rfl rfl
abbrev b_No_drive : ByteArray := prog_5_method_3_code
def y_No_drive : MethodName := ⟨R_No, "drive", "()I"⟩
set_option maxRecDepth 100000 in
theorem cw_No_drive : Cond.code y_No_drive b_No_drive 1 (some .int) ∈ TB := tb_at 376 rfl rfl
abbrev b_No_beginToSend : ByteArray := prog_5_method_7_code
def y_No_beginToSend : MethodName := ⟨R_No, "beginToSend", "()V"⟩
set_option maxRecDepth 100000 in
theorem cw_No_beginToSend : Cond.code y_No_beginToSend b_No_beginToSend 1 none ∈ TB := tb_at 380 rfl rfl
abbrev b_Fr_placeOfLeastId : ByteArray := prog_4_method_9_code
def y_Fr_placeOfLeastId : MethodName := ⟨R_Fr, "placeOfLeastId", "()I"⟩
set_option maxRecDepth 100000 in
theorem cw_Fr_placeOfLeastId : Cond.code y_Fr_placeOfLeastId b_Fr_placeOfLeastId 3 (some .int) ∈ TB := tb_at 384 rfl rfl
abbrev b_Fr_idOf : ByteArray := prog_4_method_3_code
def y_Fr_idOf : MethodName := ⟨R_Fr, "idOf", "(I)I"⟩
set_option maxRecDepth 100000 in
theorem cw_Fr_idOf : Cond.code y_Fr_idOf b_Fr_idOf 1 (some .int) ∈ TB := tb_at 387 rfl rfl
abbrev b_Fr_at : ByteArray := prog_4_method_8_code
def y_Fr_at : MethodName := ⟨R_Fr, "at", "(I)I"⟩
set_option maxRecDepth 100000 in
theorem cw_Fr_at : Cond.code y_Fr_at b_Fr_at 2 (some .int) ∈ TB := tb_at 391 rfl rfl
abbrev b_Co_write : ByteArray := prog_2_method_4_code
def y_Co_write : MethodName := ⟨R_Co, "write", "(I)V"⟩
set_option maxRecDepth 100000 in
theorem cw_Co_write : Cond.code y_Co_write b_Co_write 5 none ∈ TB := tb_at 395 rfl rfl
abbrev b_Fr_dataOf : ByteArray := prog_4_method_5_code
def y_Fr_dataOf : MethodName := ⟨R_Fr, "dataOf", "(I)I"⟩
set_option maxRecDepth 100000 in
theorem cw_Fr_dataOf : Cond.code y_Fr_dataOf b_Fr_dataOf 1 (some .int) ∈ TB := tb_at 398 rfl rfl
abbrev b_Fr_bytesOf : ByteArray := prog_4_method_4_code
def y_Fr_bytesOf : MethodName := ⟨R_Fr, "bytesOf", "(I)I"⟩
set_option maxRecDepth 100000 in
theorem cw_Fr_bytesOf : Cond.code y_Fr_bytesOf b_Fr_bytesOf 1 (some .int) ∈ TB := tb_at 401 rfl rfl
abbrev b_Co_append : ByteArray := prog_2_method_5_code
def y_Co_append : MethodName := ⟨R_Co, "append", "(II)V"⟩
set_option maxRecDepth 100000 in
theorem cw_Co_append : Cond.code y_Co_append b_Co_append 5 none ∈ TB := tb_at 405 rfl rfl
abbrev b_Co_registerBehind : ByteArray := prog_2_method_3_code
def y_Co_registerBehind : MethodName := ⟨R_Co, "registerBehind", "(II)I"⟩
set_option maxRecDepth 100000 in
theorem cw_Co_registerBehind : Cond.code y_Co_registerBehind b_Co_registerBehind 3 (some .int) ∈ TB := tb_at 408 rfl rfl
abbrev b_Re_begin : ByteArray := prog_6_method_2_code
def y_Re_begin : MethodName := ⟨R_Re, "begin", "()V"⟩
set_option maxRecDepth 100000 in
theorem cw_Re_begin : Cond.code y_Re_begin b_Re_begin 1 none ∈ TB := tb_at 413 rfl rfl
abbrev b_No_levelToDrive : ByteArray := prog_5_method_4_code
def y_No_levelToDrive : MethodName := ⟨R_No, "levelToDrive", "()I"⟩
set_option maxRecDepth 100000 in
theorem cw_No_levelToDrive : Cond.code y_No_levelToDrive b_No_levelToDrive 1 (some .int) ∈ TB := tb_at 417 rfl rfl
abbrev b_No_nextBit : ByteArray := prog_5_method_5_code
def y_No_nextBit : MethodName := ⟨R_No, "nextBit", "()I"⟩
set_option maxRecDepth 100000 in
theorem cw_No_nextBit : Cond.code y_No_nextBit b_No_nextBit 1 (some .int) ∈ TB := tb_at 421 rfl rfl
abbrev b_Re_padIsDue : ByteArray := prog_6_method_3_code
def y_Re_padIsDue : MethodName := ⟨R_Re, "padIsDue", "()Z"⟩
set_option maxRecDepth 100000 in
theorem cw_Re_padIsDue : Cond.code y_Re_padIsDue b_Re_padIsDue 1 (some .boolean) ∈ TB := tb_at 425 rfl rfl
abbrev b_Co_bitAt : ByteArray := prog_2_method_6_code
def y_Co_bitAt : MethodName := ⟨R_Co, "bitAt", "(I)I"⟩
set_option maxRecDepth 100000 in
theorem cw_Co_bitAt : Cond.code y_Co_bitAt b_Co_bitAt 2 (some .int) ∈ TB := tb_at 429 rfl rfl
abbrev b_Re_isAtAnswer : ByteArray := prog_6_method_6_code
def y_Re_isAtAnswer : MethodName := ⟨R_Re, "isAtAnswer", "()Z"⟩
set_option maxRecDepth 100000 in
theorem cw_Re_isAtAnswer : Cond.code y_Re_isAtAnswer b_Re_isAtAnswer 1 (some .boolean) ∈ TB := tb_at 433 rfl rfl
abbrev b_Re_isBehindCore : ByteArray := prog_6_method_4_code
def y_Re_isBehindCore : MethodName := ⟨R_Re, "isBehindCore", "()Z"⟩
set_option maxRecDepth 100000 in
theorem cw_Re_isBehindCore : Cond.code y_Re_isBehindCore b_Re_isBehindCore 1 (some .boolean) ∈ TB := tb_at 437 rfl rfl
abbrev b_Re_isRight : ByteArray := prog_6_method_8_code
def y_Re_isRight : MethodName := ⟨R_Re, "isRight", "()Z"⟩
set_option maxRecDepth 100000 in
theorem cw_Re_isRight : Cond.code y_Re_isRight b_Re_isRight 1 (some .boolean) ∈ TB := tb_at 442 rfl rfl
abbrev b_No_see : ByteArray := prog_5_method_6_code
def y_No_see : MethodName := ⟨R_No, "see", "(I)I"⟩
set_option maxRecDepth 100000 in
theorem cw_No_see : Cond.code y_No_see b_No_see 3 (some .int) ∈ TB := tb_at 446 rfl rfl
abbrev b_Di_next : ByteArray := prog_3_method_3_code
def y_Di_next : MethodName := ⟨R_Di, "next", "()Z"⟩
set_option maxRecDepth 100000 in
theorem cw_Di_next : Cond.code y_Di_next b_Di_next 2 (some .boolean) ∈ TB := tb_at 450 rfl rfl
abbrev b_No_seeSending : ByteArray := prog_5_method_9_code
def y_No_seeSending : MethodName := ⟨R_No, "seeSending", "(I)I"⟩
set_option maxRecDepth 100000 in
theorem cw_No_seeSending : Cond.code y_No_seeSending b_No_seeSending 2 (some .int) ∈ TB := tb_at 454 rfl rfl
abbrev b_No_err : ByteArray := prog_5_method_14_code
def y_No_err : MethodName := ⟨R_No, "err", "(I)I"⟩
set_option maxRecDepth 100000 in
theorem cw_No_err : Cond.code y_No_err b_No_err 3 (some .int) ∈ TB := tb_at 458 rfl rfl
abbrev b_No_isPassive : ByteArray := prog_5_method_2_code
def y_No_isPassive : MethodName := ⟨R_No, "isPassive", "()Z"⟩
set_option maxRecDepth 100000 in
theorem cw_No_isPassive : Cond.code y_No_isPassive b_No_isPassive 1 (some .boolean) ∈ TB := tb_at 462 rfl rfl
abbrev b_No_beginFlag : ByteArray := prog_5_method_16_code
def y_No_beginFlag : MethodName := ⟨R_No, "beginFlag", "(Z)V"⟩
set_option maxRecDepth 100000 in
theorem cw_No_beginFlag : Cond.code y_No_beginFlag b_No_beginFlag 2 none ∈ TB := tb_at 466 rfl rfl
abbrev b_No_goOffIfTooMany : ByteArray := prog_5_method_23_code
def y_No_goOffIfTooMany : MethodName := ⟨R_No, "goOffIfTooMany", "()V"⟩
set_option maxRecDepth 100000 in
theorem cw_No_goOffIfTooMany : Cond.code y_No_goOffIfTooMany b_No_goOffIfTooMany 1 none ∈ TB := tb_at 470 rfl rfl
abbrev b_Re_isInId : ByteArray := prog_6_method_5_code
def y_Re_isInId : MethodName := ⟨R_Re, "isInId", "()Z"⟩
set_option maxRecDepth 100000 in
theorem cw_Re_isInId : Cond.code y_Re_isInId b_Re_isInId 1 (some .boolean) ∈ TB := tb_at 474 rfl rfl
abbrev b_Re_read : ByteArray := prog_6_method_10_code
def y_Re_read : MethodName := ⟨R_Re, "read", "(I)V"⟩
set_option maxRecDepth 100000 in
theorem cw_Re_read : Cond.code y_Re_read b_Re_read 2 none ∈ TB := tb_at 478 rfl rfl
abbrev b_Re_readCore : ByteArray := prog_6_method_11_code
def y_Re_readCore : MethodName := ⟨R_Re, "readCore", "(I)V"⟩
set_option maxRecDepth 100000 in
theorem cw_Re_readCore : Cond.code y_Re_readCore b_Re_readCore 2 none ∈ TB := tb_at 482 rfl rfl
abbrev b_Re_readData : ByteArray := prog_6_method_12_code
def y_Re_readData : MethodName := ⟨R_Re, "readData", "(I)V"⟩
set_option maxRecDepth 100000 in
theorem cw_Re_readData : Cond.code y_Re_readData b_Re_readData 4 none ∈ TB := tb_at 487 rfl rfl
abbrev b_Co_lengthFor : ByteArray := prog_2_method_2_code
def y_Co_lengthFor : MethodName := ⟨R_Co, "lengthFor", "(I)I"⟩
set_option maxRecDepth 100000 in
theorem cw_Co_lengthFor : Cond.code y_Co_lengthFor b_Co_lengthFor 1 (some .int) ∈ TB := tb_at 490 rfl rfl
abbrev b_Re_isAtEnd : ByteArray := prog_6_method_7_code
def y_Re_isAtEnd : MethodName := ⟨R_Re, "isAtEnd", "()Z"⟩
set_option maxRecDepth 100000 in
theorem cw_Re_isAtEnd : Cond.code y_Re_isAtEnd b_Re_isAtEnd 1 (some .boolean) ∈ TB := tb_at 494 rfl rfl
abbrev b_No_endSending : ByteArray := prog_5_method_10_code
def y_No_endSending : MethodName := ⟨R_No, "endSending", "()I"⟩
set_option maxRecDepth 100000 in
theorem cw_No_endSending : Cond.code y_No_endSending b_No_endSending 1 (some .int) ∈ TB := tb_at 498 rfl rfl
abbrev b_Fr_remove : ByteArray := prog_4_method_10_code
def y_Fr_remove : MethodName := ⟨R_Fr, "remove", "(I)I"⟩
set_option maxRecDepth 100000 in
theorem cw_Fr_remove : Cond.code y_Fr_remove b_Fr_remove 4 (some .int) ∈ TB := tb_at 502 rfl rfl
abbrev b_No_beginPause : ByteArray := prog_5_method_20_code
def y_No_beginPause : MethodName := ⟨R_No, "beginPause", "()V"⟩
set_option maxRecDepth 100000 in
theorem cw_No_beginPause : Cond.code y_No_beginPause b_No_beginPause 1 none ∈ TB := tb_at 507 rfl rfl
abbrev b_No_seeHearing : ByteArray := prog_5_method_11_code
def y_No_seeHearing : MethodName := ⟨R_No, "seeHearing", "(I)I"⟩
set_option maxRecDepth 100000 in
theorem cw_No_seeHearing : Cond.code y_No_seeHearing b_No_seeHearing 3 (some .int) ∈ TB := tb_at 511 rfl rfl
abbrev b_Re_errorOf : ByteArray := prog_6_method_13_code
def y_Re_errorOf : MethodName := ⟨R_Re, "errorOf", "(I)I"⟩
set_option maxRecDepth 100000 in
theorem cw_Re_errorOf : Cond.code y_Re_errorOf b_Re_errorOf 4 (some .int) ∈ TB := tb_at 515 rfl rfl
abbrev b_Re_errorBehindCore : ByteArray := prog_6_method_14_code
def y_Re_errorBehindCore : MethodName := ⟨R_Re, "errorBehindCore", "(II)I"⟩
set_option maxRecDepth 100000 in
theorem cw_Re_errorBehindCore : Cond.code y_Re_errorBehindCore b_Re_errorBehindCore 4 (some .int) ∈ TB := tb_at 519 rfl rfl
abbrev b_No_endHearing : ByteArray := prog_5_method_12_code
def y_No_endHearing : MethodName := ⟨R_No, "endHearing", "(I)I"⟩
set_option maxRecDepth 100000 in
theorem cw_No_endHearing : Cond.code y_No_endHearing b_No_endHearing 2 (some .int) ∈ TB := tb_at 524 rfl rfl
abbrev b_Re_frame : ByteArray := prog_6_method_9_code
def y_Re_frame : MethodName := ⟨R_Re, "frame", "()I"⟩
set_option maxRecDepth 100000 in
theorem cw_Re_frame : Cond.code y_Re_frame b_Re_frame 1 (some .int) ∈ TB := tb_at 529 rfl rfl
abbrev b_No_keep : ByteArray := prog_5_method_13_code
def y_No_keep : MethodName := ⟨R_No, "keep", "(I)V"⟩
set_option maxRecDepth 100000 in
theorem cw_No_keep : Cond.code y_No_keep b_No_keep 2 none ∈ TB := tb_at 534 rfl rfl
abbrev b_No_overload : ByteArray := prog_5_method_15_code
def y_No_overload : MethodName := ⟨R_No, "overload", "()I"⟩
set_option maxRecDepth 100000 in
theorem cw_No_overload : Cond.code y_No_overload b_No_overload 1 (some .int) ∈ TB := tb_at 540 rfl rfl
abbrev b_No_seeInFlag : ByteArray := prog_5_method_17_code
def y_No_seeInFlag : MethodName := ⟨R_No, "seeInFlag", "(I)I"⟩
set_option maxRecDepth 100000 in
theorem cw_No_seeInFlag : Cond.code y_No_seeInFlag b_No_seeInFlag 2 (some .int) ∈ TB := tb_at 544 rfl rfl
abbrev b_No_countHeavily : ByteArray := prog_5_method_18_code
def y_No_countHeavily : MethodName := ⟨R_No, "countHeavily", "()V"⟩
set_option maxRecDepth 100000 in
theorem cw_No_countHeavily : Cond.code y_No_countHeavily b_No_countHeavily 1 none ∈ TB := tb_at 548 rfl rfl
abbrev b_No_seeAfter : ByteArray := prog_5_method_19_code
def y_No_seeAfter : MethodName := ⟨R_No, "seeAfter", "(I)I"⟩
set_option maxRecDepth 100000 in
theorem cw_No_seeAfter : Cond.code y_No_seeAfter b_No_seeAfter 2 (some .int) ∈ TB := tb_at 552 rfl rfl
abbrev b_No_seeInPause : ByteArray := prog_5_method_21_code
def y_No_seeInPause : MethodName := ⟨R_No, "seeInPause", "(I)I"⟩
set_option maxRecDepth 100000 in
theorem cw_No_seeInPause : Cond.code y_No_seeInPause b_No_seeInPause 2 (some .int) ∈ TB := tb_at 556 rfl rfl
abbrev b_No_beginToHear : ByteArray := prog_5_method_8_code
def y_No_beginToHear : MethodName := ⟨R_No, "beginToHear", "()I"⟩
set_option maxRecDepth 100000 in
theorem cw_No_beginToHear : Cond.code y_No_beginToHear b_No_beginToHear 1 (some .int) ∈ TB := tb_at 560 rfl rfl
abbrev b_No_seeSuspended : ByteArray := prog_5_method_22_code
def y_No_seeSuspended : MethodName := ⟨R_No, "seeSuspended", "(I)I"⟩
set_option maxRecDepth 100000 in
theorem cw_No_seeSuspended : Cond.code y_No_seeSuspended b_No_seeSuspended 2 (some .int) ∈ TB := tb_at 564 rfl rfl
abbrev b_No_seeOff : ByteArray := prog_5_method_24_code
def y_No_seeOff : MethodName := ⟨R_No, "seeOff", "(I)I"⟩
set_option maxRecDepth 100000 in
theorem cw_No_seeOff : Cond.code y_No_seeOff b_No_seeOff 2 (some .int) ∈ TB := tb_at 568 rfl rfl
abbrev b_L_state : ByteArray := method_7_code
def y_L_state : MethodName := ⟨R_L, "state", "(LStrongBus;I[J)I"⟩
abbrev b_X_state : ByteArray := prog_1_method_7_code
def y_X_state : MethodName := ⟨R_X, "state", "(I)I"⟩
set_option maxRecDepth 100000 in
theorem cw_X_state : Cond.code y_X_state b_X_state 2 (some .int) ∈ TB := tb_at 576 rfl rfl
abbrev b_L_count : ByteArray := method_8_code
def y_L_count : MethodName := ⟨R_L, "count", "(LStrongBus;II[J)I"⟩
abbrev b_X_count : ByteArray := prog_1_method_8_code
def y_X_count : MethodName := ⟨R_X, "count", "(II)I"⟩
set_option maxRecDepth 100000 in
theorem cw_X_count : Cond.code y_X_count b_X_count 4 (some .int) ∈ TB := tb_at 583 rfl rfl
abbrev b_L_take : ByteArray := method_9_code
def y_L_take : MethodName := ⟨R_L, "take", "(LStrongBus;I[J)I"⟩
abbrev b_X_take : ByteArray := prog_1_method_9_code
def y_X_take : MethodName := ⟨R_X, "take", "(I)I"⟩
set_option maxRecDepth 100000 in
theorem cw_X_take : Cond.code y_X_take b_X_take 3 (some .int) ∈ TB := tb_at 591 rfl rfl
abbrev b_L_total : ByteArray := method_10_code
def y_L_total : MethodName := ⟨R_L, "total", "(LStrongBus;I[J)I"⟩
abbrev b_X_total : ByteArray := prog_1_method_10_code
def y_X_total : MethodName := ⟨R_X, "total", "(I)I"⟩
set_option maxRecDepth 100000 in
theorem cw_X_total : Cond.code y_X_total b_X_total 2 (some .int) ∈ TB := tb_at 600 rfl rfl
abbrev b_M_init : ByteArray := prog_8_method_1_code
def y_M_init : MethodName := ⟨R_M, "<init>", "(I)V"⟩
set_option maxRecDepth 100000 in
theorem cw_M_init : Cond.code y_M_init b_M_init 2 none ∈ TB := tb_at 606 rfl rfl
abbrev b_M_thrown : ByteArray := prog_8_method_2_code
def y_M_thrown : MethodName := ⟨R_M, "thrown", "()I"⟩
set_option maxRecDepth 100000 in
theorem cw_M_thrown : Cond.code y_M_thrown b_M_thrown 1 (some .int) ∈ TB := tb_at 708 rfl rfl
abbrev b_M_request : ByteArray := prog_8_method_4_code
def y_M_request : MethodName := ⟨R_M, "request", "(IIII)I"⟩
set_option maxRecDepth 100000 in
theorem cw_M_request : Cond.code y_M_request b_M_request 7 (some .int) ∈ TB := tb_at 712 rfl rfl
abbrev b_M_noNode : ByteArray := prog_8_method_3_code
def y_M_noNode : MethodName := ⟨R_M, "noNode", "(I)Z"⟩
set_option maxRecDepth 100000 in
theorem cw_M_noNode : Cond.code y_M_noNode b_M_noNode 2 (some .boolean) ∈ TB := tb_at 716 rfl rfl
abbrev b_M_filter : ByteArray := prog_8_method_5_code
def y_M_filter : MethodName := ⟨R_M, "filter", "(III)V"⟩
set_option maxRecDepth 100000 in
theorem cw_M_filter : Cond.code y_M_filter b_M_filter 4 none ∈ TB := tb_at 720 rfl rfl
abbrev b_M_disturb : ByteArray := prog_8_method_6_code
def y_M_disturb : MethodName := ⟨R_M, "disturb", "(II)V"⟩
set_option maxRecDepth 100000 in
theorem cw_M_disturb : Cond.code y_M_disturb b_M_disturb 3 none ∈ TB := tb_at 724 rfl rfl
abbrev b_M_pass : ByteArray := prog_8_method_31_code
def y_M_pass : MethodName := ⟨R_M, "pass", "(I)I"⟩
set_option maxRecDepth 100000 in
theorem cw_M_pass : Cond.code y_M_pass b_M_pass 4 (some .int) ∈ TB := tb_at 728 rfl rfl
abbrev b_M_bitTime : ByteArray := prog_8_method_30_code
def y_M_bitTime : MethodName := ⟨R_M, "bitTime", "()V"⟩
set_option maxRecDepth 100000 in
theorem cw_M_bitTime : Cond.code y_M_bitTime b_M_bitTime 6 none ∈ TB := tb_at 732 rfl rfl
abbrev b_M_begin : ByteArray := prog_8_method_8_code
def y_M_begin : MethodName := ⟨R_M, "begin", "(I)V"⟩
set_option maxRecDepth 100000 in
theorem cw_M_begin : Cond.code y_M_begin b_M_begin 4 none ∈ TB := tb_at 736 rfl rfl
abbrev b_M_open : ByteArray := prog_8_method_7_code
def y_M_open : MethodName := ⟨R_M, "open", "(II)V"⟩
set_option maxRecDepth 100000 in
theorem cw_M_open : Cond.code y_M_open b_M_open 3 none ∈ TB := tb_at 740 rfl rfl
abbrev b_M_driven : ByteArray := prog_8_method_11_code
def y_M_driven : MethodName := ⟨R_M, "driven", "(I)I"⟩
set_option maxRecDepth 100000 in
theorem cw_M_driven : Cond.code y_M_driven b_M_driven 2 (some .int) ∈ TB := tb_at 744 rfl rfl
abbrev b_M_coreBit : ByteArray := prog_8_method_10_code
def y_M_coreBit : MethodName := ⟨R_M, "coreBit", "(I)I"⟩
set_option maxRecDepth 100000 in
theorem cw_M_coreBit : Cond.code y_M_coreBit b_M_coreBit 5 (some .int) ∈ TB := tb_at 748 rfl rfl
abbrev b_M_see : ByteArray := prog_8_method_29_code
def y_M_see : MethodName := ⟨R_M, "see", "(II)V"⟩
set_option maxRecDepth 100000 in
theorem cw_M_see : Cond.code y_M_see b_M_see 3 none ∈ TB := tb_at 752 rfl rfl
abbrev b_M_send : ByteArray := prog_8_method_22_code
def y_M_send : MethodName := ⟨R_M, "send", "(II)V"⟩
set_option maxRecDepth 100000 in
theorem cw_M_send : Cond.code y_M_send b_M_send 5 none ∈ TB := tb_at 756 rfl rfl
abbrev b_M_hear : ByteArray := prog_8_method_23_code
def y_M_hear : MethodName := ⟨R_M, "hear", "(II)V"⟩
set_option maxRecDepth 100000 in
theorem cw_M_hear : Cond.code y_M_hear b_M_hear 7 none ∈ TB := tb_at 760 rfl rfl
abbrev b_M_readCore : ByteArray := prog_8_method_12_code
def y_M_readCore : MethodName := ⟨R_M, "readCore", "(II)I"⟩
set_option maxRecDepth 100000 in
theorem cw_M_readCore : Cond.code y_M_readCore b_M_readCore 6 (some .int) ∈ TB := tb_at 764 rfl rfl
abbrev b_M_coreLength : ByteArray := prog_8_method_9_code
def y_M_coreLength : MethodName := ⟨R_M, "coreLength", "(I)I"⟩
set_option maxRecDepth 100000 in
theorem cw_M_coreLength : Cond.code y_M_coreLength b_M_coreLength 2 (some .int) ∈ TB := tb_at 768 rfl rfl
abbrev b_M_err : ByteArray := prog_8_method_16_code
def y_M_err : MethodName := ⟨R_M, "err", "(III)V"⟩
set_option maxRecDepth 100000 in
theorem cw_M_err : Cond.code y_M_err b_M_err 4 none ∈ TB := tb_at 772 rfl rfl
abbrev b_M_isPassive : ByteArray := prog_8_method_13_code
def y_M_isPassive : MethodName := ⟨R_M, "isPassive", "(I)Z"⟩
set_option maxRecDepth 100000 in
theorem cw_M_isPassive : Cond.code y_M_isPassive b_M_isPassive 2 (some .boolean) ∈ TB := tb_at 776 rfl rfl
abbrev b_M_goesOff : ByteArray := prog_8_method_14_code
def y_M_goesOff : MethodName := ⟨R_M, "goesOff", "(I)Z"⟩
set_option maxRecDepth 100000 in
theorem cw_M_goesOff : Cond.code y_M_goesOff b_M_goesOff 2 (some .boolean) ∈ TB := tb_at 780 rfl rfl
abbrev b_M_flag : ByteArray := prog_8_method_15_code
def y_M_flag : MethodName := ⟨R_M, "flag", "(IIZ)V"⟩
set_option maxRecDepth 100000 in
theorem cw_M_flag : Cond.code y_M_flag b_M_flag 4 none ∈ TB := tb_at 784 rfl rfl
abbrev b_M_heardFrame : ByteArray := prog_8_method_21_code
def y_M_heardFrame : MethodName := ⟨R_M, "heardFrame", "(II)V"⟩
set_option maxRecDepth 100000 in
theorem cw_M_heardFrame : Cond.code y_M_heardFrame b_M_heardFrame 3 none ∈ TB := tb_at 788 rfl rfl
abbrev b_M_overload : ByteArray := prog_8_method_17_code
def y_M_overload : MethodName := ⟨R_M, "overload", "(I)V"⟩
set_option maxRecDepth 100000 in
theorem cw_M_overload : Cond.code y_M_overload b_M_overload 2 none ∈ TB := tb_at 792 rfl rfl
abbrev b_M_rest : ByteArray := prog_8_method_19_code
def y_M_rest : MethodName := ⟨R_M, "rest", "(I)V"⟩
set_option maxRecDepth 100000 in
theorem cw_M_rest : Cond.code y_M_rest b_M_rest 2 none ∈ TB := tb_at 796 rfl rfl
abbrev b_M_sentFrame : ByteArray := prog_8_method_20_code
def y_M_sentFrame : MethodName := ⟨R_M, "sentFrame", "(I)V"⟩
set_option maxRecDepth 100000 in
theorem cw_M_sentFrame : Cond.code y_M_sentFrame b_M_sentFrame 3 none ∈ TB := tb_at 800 rfl rfl
abbrev b_M_flagging : ByteArray := prog_8_method_25_code
def y_M_flagging : MethodName := ⟨R_M, "flagging", "(II)V"⟩
set_option maxRecDepth 100000 in
theorem cw_M_flagging : Cond.code y_M_flagging b_M_flagging 3 none ∈ TB := tb_at 804 rfl rfl
abbrev b_M_eightMore : ByteArray := prog_8_method_18_code
def y_M_eightMore : MethodName := ⟨R_M, "eightMore", "(I)Z"⟩
set_option maxRecDepth 100000 in
theorem cw_M_eightMore : Cond.code y_M_eightMore b_M_eightMore 2 (some .boolean) ∈ TB := tb_at 808 rfl rfl
abbrev b_M_goAfter : ByteArray := prog_8_method_26_code
def y_M_goAfter : MethodName := ⟨R_M, "goAfter", "(II)V"⟩
set_option maxRecDepth 100000 in
theorem cw_M_goAfter : Cond.code y_M_goAfter b_M_goAfter 4 none ∈ TB := tb_at 812 rfl rfl
abbrev b_M_pausing : ByteArray := prog_8_method_27_code
def y_M_pausing : MethodName := ⟨R_M, "pausing", "(II)V"⟩
set_option maxRecDepth 100000 in
theorem cw_M_pausing : Cond.code y_M_pausing b_M_pausing 3 none ∈ TB := tb_at 816 rfl rfl
abbrev b_M_start : ByteArray := prog_8_method_24_code
def y_M_start : MethodName := ⟨R_M, "start", "(I)V"⟩
set_option maxRecDepth 100000 in
theorem cw_M_start : Cond.code y_M_start b_M_start 2 none ∈ TB := tb_at 820 rfl rfl
abbrev b_M_offTime : ByteArray := prog_8_method_28_code
def y_M_offTime : MethodName := ⟨R_M, "offTime", "(II)V"⟩
set_option maxRecDepth 100000 in
theorem cw_M_offTime : Cond.code y_M_offTime b_M_offTime 3 none ∈ TB := tb_at 824 rfl rfl
abbrev b_M_level : ByteArray := prog_8_method_32_code
def y_M_level : MethodName := ⟨R_M, "level", "(I)I"⟩
set_option maxRecDepth 100000 in
theorem cw_M_level : Cond.code y_M_level b_M_level 2 (some .int) ∈ TB := tb_at 828 rfl rfl
abbrev b_M_state : ByteArray := prog_8_method_33_code
def y_M_state : MethodName := ⟨R_M, "state", "(I)I"⟩
set_option maxRecDepth 100000 in
theorem cw_M_state : Cond.code y_M_state b_M_state 2 (some .int) ∈ TB := tb_at 832 rfl rfl
abbrev b_M_count : ByteArray := prog_8_method_34_code
def y_M_count : MethodName := ⟨R_M, "count", "(II)I"⟩
set_option maxRecDepth 100000 in
theorem cw_M_count : Cond.code y_M_count b_M_count 3 (some .int) ∈ TB := tb_at 836 rfl rfl
abbrev b_M_take : ByteArray := prog_8_method_35_code
def y_M_take : MethodName := ⟨R_M, "take", "(I)I"⟩
set_option maxRecDepth 100000 in
theorem cw_M_take : Cond.code y_M_take b_M_take 4 (some .int) ∈ TB := tb_at 840 rfl rfl
abbrev b_M_total : ByteArray := prog_8_method_36_code
def y_M_total : MethodName := ⟨R_M, "total", "(I)I"⟩
set_option maxRecDepth 100000 in
theorem cw_M_total : Cond.code y_M_total b_M_total 2 (some .int) ∈ TB := tb_at 844 rfl rfl
set_option maxRecDepth 20000 in
theorem f_X_9 : hq_F TB vwCl R_X 9 5 1 (.array .int) true := ⟨_, _, _, _, k_X, by decide, by decide +kernel, rfl, by decide +kernel, rfl⟩
set_option maxRecDepth 20000 in
theorem f_X_13 : hq_F TB vwCl R_X 13 5 2 (.array .int) true := ⟨_, _, _, _, k_X, by decide, by decide +kernel, rfl, by decide +kernel, rfl⟩
set_option maxRecDepth 20000 in
theorem Y_X_16 : hq_YS TB R_X 16 y_Ma_min b_Ma_min 2 (some .int) 2 := ⟨⟨cw_Ma_min, by decide +kernel, by decide +kernel, by decide +kernel, by decide +kernel, by decide +kernel⟩, by decide +kernel⟩
set_option maxRecDepth 20000 in
theorem Y_X_22 : hq_YS TB R_X 22 y_Ma_max b_Ma_max 2 (some .int) 2 := ⟨⟨cw_Ma_max, by decide +kernel, by decide +kernel, by decide +kernel, by decide +kernel, by decide +kernel⟩, by decide +kernel⟩
set_option maxRecDepth 20000 in
theorem f_X_27 : hq_F TB vwCl R_X 27 5 0 (.array (.object "StrongBus$Node")) true := ⟨_, _, _, _, k_X, by decide, by decide +kernel, rfl, by decide +kernel, rfl⟩
set_option maxRecDepth 20000 in
theorem Y_X_31 : hq_YN TB R_X 31 R_X y_No_init b_No_init 1 0 := ⟨cw_No_init, by decide +kernel, by decide +kernel, by decide +kernel, by decide +kernel, by decide +kernel, by decide +kernel, by decide +kernel⟩
set_option maxRecDepth 20000 in
theorem Y_X_32 : hq_YV TB R_X 32 y_X_nodeOf b_X_nodeOf 2 (some (.object "StrongBus$Node")) 1 := ⟨⟨cw_X_nodeOf, by decide +kernel, by decide +kernel, by decide +kernel, by decide +kernel, by decide +kernel⟩, by decide +kernel, by decide +kernel⟩
set_option maxRecDepth 20000 in
theorem Y_X_36 : hq_YS TB R_X 36 y_X_isEleven b_X_isEleven 1 (some .boolean) 1 := ⟨⟨cw_X_isEleven, by decide +kernel, by decide +kernel, by decide +kernel, by decide +kernel, by decide +kernel⟩, by decide +kernel⟩
set_option maxRecDepth 20000 in
theorem f_X_47 : hq_F TB vwCl R_X 47 3 5 (.int) false := ⟨_, _, _, _, k_No, by decide, by decide +kernel, rfl, by decide +kernel, rfl⟩
set_option maxRecDepth 20000 in
theorem f_X_51 : hq_F TB vwCl R_X 51 3 0 (.object "StrongBus$Frames") true := ⟨_, _, _, _, k_No, by decide, by decide +kernel, rfl, by decide +kernel, rfl⟩
set_option maxRecDepth 20000 in
theorem Y_X_55 : hq_YV TB R_X 55 y_Fr_isFull b_Fr_isFull 1 (some .boolean) 0 := ⟨⟨cw_Fr_isFull, by decide +kernel, by decide +kernel, by decide +kernel, by decide +kernel, by decide +kernel⟩, by decide +kernel, by decide +kernel⟩
set_option maxRecDepth 20000 in
theorem Y_X_66 : hq_YS TB R_X 66 y_Fr_packed b_Fr_packed 3 (some .int) 3 := ⟨⟨cw_Fr_packed, by decide +kernel, by decide +kernel, by decide +kernel, by decide +kernel, by decide +kernel⟩, by decide +kernel⟩
set_option maxRecDepth 20000 in
theorem Y_X_70 : hq_YV TB R_X 70 y_Fr_add b_Fr_add 2 none 1 := ⟨⟨cw_Fr_add, by decide +kernel, by decide +kernel, by decide +kernel, by decide +kernel, by decide +kernel⟩, by decide +kernel, by decide +kernel⟩
set_option maxRecDepth 20000 in
theorem f_X_74 : hq_F TB vwCl R_X 74 2 1 (.int) false := ⟨_, _, _, _, k_Fr, by decide, by decide +kernel, rfl, by decide +kernel, rfl⟩
set_option maxRecDepth 20000 in
theorem f_X_79 : hq_F TB vwCl R_X 79 3 10 (.int) false := ⟨_, _, _, _, k_No, by decide, by decide +kernel, rfl, by decide +kernel, rfl⟩
set_option maxRecDepth 20000 in
theorem f_X_82 : hq_F TB vwCl R_X 82 3 11 (.int) false := ⟨_, _, _, _, k_No, by decide, by decide +kernel, rfl, by decide +kernel, rfl⟩
set_option maxRecDepth 20000 in
theorem Y_X_85 : hq_YS TB R_X 85 y_X_checkBitTimes b_X_checkBitTimes 1 none 1 := ⟨⟨cw_X_checkBitTimes, by decide +kernel, by decide +kernel, by decide +kernel, by decide +kernel, by decide +kernel⟩, by decide +kernel⟩
set_option maxRecDepth 20000 in
theorem f_X_88 : hq_F TB vwCl R_X 88 3 2 (.object "StrongBus$Disturbances") true := ⟨_, _, _, _, k_No, by decide, by decide +kernel, rfl, by decide +kernel, rfl⟩
set_option maxRecDepth 20000 in
theorem Y_X_92 : hq_YV TB R_X 92 y_Di_mark b_Di_mark 2 none 1 := ⟨⟨cw_Di_mark, by decide +kernel, by decide +kernel, by decide +kernel, by decide +kernel, by decide +kernel⟩, by decide +kernel, by decide +kernel⟩
set_option maxRecDepth 20000 in
theorem Y_X_97 : hq_YV TB R_X 97 y_X_passOne b_X_passOne 4 none 0 := ⟨⟨cw_X_passOne, by decide +kernel, by decide +kernel, by decide +kernel, by decide +kernel, by decide +kernel⟩, by decide +kernel, by decide +kernel⟩
set_option maxRecDepth 20000 in
theorem f_X_100 : hq_F TB vwCl R_X 100 3 7 (.int) false := ⟨_, _, _, _, k_No, by decide, by decide +kernel, rfl, by decide +kernel, rfl⟩
set_option maxRecDepth 20000 in
theorem f_X_103 : hq_F TB vwCl R_X 103 3 8 (.int) false := ⟨_, _, _, _, k_No, by decide, by decide +kernel, rfl, by decide +kernel, rfl⟩
set_option maxRecDepth 20000 in
theorem f_X_106 : hq_F TB vwCl R_X 106 3 1 (.object "StrongBus$Frames") true := ⟨_, _, _, _, k_No, by decide, by decide +kernel, rfl, by decide +kernel, rfl⟩
set_option maxRecDepth 20000 in
theorem f_X_109 : hq_F TB vwCl R_X 109 3 9 (.int) false := ⟨_, _, _, _, k_No, by decide, by decide +kernel, rfl, by decide +kernel, rfl⟩
set_option maxRecDepth 20000 in
theorem Y_X_116 : hq_YV TB R_X 116 y_Fr_remove b_Fr_remove 4 (some .int) 1 := ⟨⟨cw_Fr_remove, by decide +kernel, by decide +kernel, by decide +kernel, by decide +kernel, by decide +kernel⟩, by decide +kernel, by decide +kernel⟩
set_option maxRecDepth 20000 in
theorem Y_X_126 : hq_YV TB R_X 126 y_No_drive b_No_drive 1 (some .int) 0 := ⟨⟨cw_No_drive, by decide +kernel, by decide +kernel, by decide +kernel, by decide +kernel, by decide +kernel⟩, by decide +kernel, by decide +kernel⟩
set_option maxRecDepth 20000 in
theorem Y_X_130 : hq_YV TB R_X 130 y_No_see b_No_see 3 (some .int) 1 := ⟨⟨cw_No_see, by decide +kernel, by decide +kernel, by decide +kernel, by decide +kernel, by decide +kernel⟩, by decide +kernel, by decide +kernel⟩
set_option maxRecDepth 20000 in
theorem Y_X_133 : hq_YS TB R_X 133 y_Ma_floorMod b_Ma_floorMod 3 (some .int) 2 := ⟨⟨cw_Ma_floorMod, by decide +kernel, by decide +kernel, by decide +kernel, by decide +kernel, by decide +kernel⟩, by decide +kernel⟩
set_option maxRecDepth 20000 in
theorem f_Co_11 : hq_F TB vwCl R_Co 11 0 0 (.array .int) true := ⟨_, _, _, _, k_Co, by decide, by decide +kernel, rfl, by decide +kernel, rfl⟩
set_option maxRecDepth 20000 in
theorem f_Co_15 : hq_F TB vwCl R_Co 15 0 1 (.int) false := ⟨_, _, _, _, k_Co, by decide, by decide +kernel, rfl, by decide +kernel, rfl⟩
set_option maxRecDepth 20000 in
theorem f_Co_19 : hq_F TB vwCl R_Co 19 0 2 (.int) false := ⟨_, _, _, _, k_Co, by decide, by decide +kernel, rfl, by decide +kernel, rfl⟩
set_option maxRecDepth 20000 in
theorem Y_Co_22 : hq_YS TB R_Co 22 y_Fr_dataOf b_Fr_dataOf 1 (some .int) 1 := ⟨⟨cw_Fr_dataOf, by decide +kernel, by decide +kernel, by decide +kernel, by decide +kernel, by decide +kernel⟩, by decide +kernel⟩
set_option maxRecDepth 20000 in
theorem Y_Co_28 : hq_YS TB R_Co 28 y_Fr_bytesOf b_Fr_bytesOf 1 (some .int) 1 := ⟨⟨cw_Fr_bytesOf, by decide +kernel, by decide +kernel, by decide +kernel, by decide +kernel, by decide +kernel⟩, by decide +kernel⟩
set_option maxRecDepth 20000 in
theorem Y_Co_31 : hq_YV TB R_Co 31 y_Co_append b_Co_append 5 none 2 := ⟨⟨cw_Co_append, by decide +kernel, by decide +kernel, by decide +kernel, by decide +kernel, by decide +kernel⟩, by decide +kernel, by decide +kernel⟩
set_option maxRecDepth 20000 in
theorem Y_Co_35 : hq_YS TB R_Co 35 y_Fr_idOf b_Fr_idOf 1 (some .int) 1 := ⟨⟨cw_Fr_idOf, by decide +kernel, by decide +kernel, by decide +kernel, by decide +kernel, by decide +kernel⟩, by decide +kernel⟩
set_option maxRecDepth 20000 in
theorem Y_Co_38 : hq_YS TB R_Co 38 y_Co_registerBehind b_Co_registerBehind 3 (some .int) 2 := ⟨⟨cw_Co_registerBehind, by decide +kernel, by decide +kernel, by decide +kernel, by decide +kernel, by decide +kernel⟩, by decide +kernel⟩
set_option maxRecDepth 20000 in
theorem f_Di_9 : hq_F TB vwCl R_Di 9 1 0 (.array .boolean) true := ⟨_, _, _, _, k_Di, by decide, by decide +kernel, rfl, by decide +kernel, rfl⟩
set_option maxRecDepth 20000 in
theorem f_Di_15 : hq_F TB vwCl R_Di 15 1 1 (.int) false := ⟨_, _, _, _, k_Di, by decide, by decide +kernel, rfl, by decide +kernel, rfl⟩
set_option maxRecDepth 20000 in
theorem Y_Di_19 : hq_YS TB R_Di 19 y_Ma_floorMod b_Ma_floorMod 3 (some .int) 2 := ⟨⟨cw_Ma_floorMod, by decide +kernel, by decide +kernel, by decide +kernel, by decide +kernel, by decide +kernel⟩, by decide +kernel⟩
set_option maxRecDepth 20000 in
theorem f_Fr_9 : hq_F TB vwCl R_Fr 9 2 0 (.array .int) true := ⟨_, _, _, _, k_Fr, by decide, by decide +kernel, rfl, by decide +kernel, rfl⟩
set_option maxRecDepth 20000 in
theorem f_Fr_15 : hq_F TB vwCl R_Fr 15 2 1 (.int) false := ⟨_, _, _, _, k_Fr, by decide, by decide +kernel, rfl, by decide +kernel, rfl⟩
set_option maxRecDepth 20000 in
theorem Y_Fr_19 : hq_YV TB R_Fr 19 y_Fr_isFull b_Fr_isFull 1 (some .boolean) 0 := ⟨⟨cw_Fr_isFull, by decide +kernel, by decide +kernel, by decide +kernel, by decide +kernel, by decide +kernel⟩, by decide +kernel, by decide +kernel⟩
set_option maxRecDepth 20000 in
theorem Y_Fr_23 : hq_YS TB R_Fr 23 y_Fr_idOf b_Fr_idOf 1 (some .int) 1 := ⟨⟨cw_Fr_idOf, by decide +kernel, by decide +kernel, by decide +kernel, by decide +kernel, by decide +kernel⟩, by decide +kernel⟩
set_option maxRecDepth 20000 in
theorem Y_Fr_27 : hq_YV TB R_Fr 27 y_Fr_at b_Fr_at 2 (some .int) 1 := ⟨⟨cw_Fr_at, by decide +kernel, by decide +kernel, by decide +kernel, by decide +kernel, by decide +kernel⟩, by decide +kernel, by decide +kernel⟩
set_option maxRecDepth 20000 in
theorem Y_No_11 : hq_YN TB R_No 11 R_X y_Fr_init b_Fr_init 1 0 := ⟨cw_Fr_init, by decide +kernel, by decide +kernel, by decide +kernel, by decide +kernel, by decide +kernel, by decide +kernel, by decide +kernel⟩
set_option maxRecDepth 20000 in
theorem f_No_12 : hq_F TB vwCl R_No 12 3 0 (.object "StrongBus$Frames") true := ⟨_, _, _, _, k_No, by decide, by decide +kernel, rfl, by decide +kernel, rfl⟩
set_option maxRecDepth 20000 in
theorem f_No_18 : hq_F TB vwCl R_No 18 3 1 (.object "StrongBus$Frames") true := ⟨_, _, _, _, k_No, by decide, by decide +kernel, rfl, by decide +kernel, rfl⟩
set_option maxRecDepth 20000 in
theorem Y_No_23 : hq_YN TB R_No 23 R_X y_Di_init b_Di_init 1 0 := ⟨cw_Di_init, by decide +kernel, by decide +kernel, by decide +kernel, by decide +kernel, by decide +kernel, by decide +kernel, by decide +kernel⟩
set_option maxRecDepth 20000 in
theorem f_No_24 : hq_F TB vwCl R_No 24 3 2 (.object "StrongBus$Disturbances") true := ⟨_, _, _, _, k_No, by decide, by decide +kernel, rfl, by decide +kernel, rfl⟩
set_option maxRecDepth 20000 in
theorem Y_No_30 : hq_YN TB R_No 30 R_X y_Co_init b_Co_init 1 0 := ⟨cw_Co_init, by decide +kernel, by decide +kernel, by decide +kernel, by decide +kernel, by decide +kernel, by decide +kernel, by decide +kernel⟩
set_option maxRecDepth 20000 in
theorem f_No_31 : hq_F TB vwCl R_No 31 3 3 (.object "StrongBus$Core") true := ⟨_, _, _, _, k_No, by decide, by decide +kernel, rfl, by decide +kernel, rfl⟩
set_option maxRecDepth 20000 in
theorem Y_No_37 : hq_YN TB R_No 37 R_X y_Re_init b_Re_init 1 0 := ⟨cw_Re_init, by decide +kernel, by decide +kernel, by decide +kernel, by decide +kernel, by decide +kernel, by decide +kernel, by decide +kernel⟩
set_option maxRecDepth 20000 in
theorem f_No_38 : hq_F TB vwCl R_No 38 3 4 (.object "StrongBus$Reader") true := ⟨_, _, _, _, k_No, by decide, by decide +kernel, rfl, by decide +kernel, rfl⟩
set_option maxRecDepth 20000 in
theorem f_No_42 : hq_F TB vwCl R_No 42 3 5 (.int) false := ⟨_, _, _, _, k_No, by decide, by decide +kernel, rfl, by decide +kernel, rfl⟩
set_option maxRecDepth 20000 in
theorem f_No_46 : hq_F TB vwCl R_No 46 3 6 (.int) false := ⟨_, _, _, _, k_No, by decide, by decide +kernel, rfl, by decide +kernel, rfl⟩
set_option maxRecDepth 20000 in
theorem f_No_49 : hq_F TB vwCl R_No 49 3 7 (.int) false := ⟨_, _, _, _, k_No, by decide, by decide +kernel, rfl, by decide +kernel, rfl⟩
set_option maxRecDepth 20000 in
theorem f_No_52 : hq_F TB vwCl R_No 52 3 8 (.int) false := ⟨_, _, _, _, k_No, by decide, by decide +kernel, rfl, by decide +kernel, rfl⟩
set_option maxRecDepth 20000 in
theorem f_No_55 : hq_F TB vwCl R_No 55 3 9 (.int) false := ⟨_, _, _, _, k_No, by decide, by decide +kernel, rfl, by decide +kernel, rfl⟩
set_option maxRecDepth 20000 in
theorem f_No_58 : hq_F TB vwCl R_No 58 3 10 (.int) false := ⟨_, _, _, _, k_No, by decide, by decide +kernel, rfl, by decide +kernel, rfl⟩
set_option maxRecDepth 20000 in
theorem f_No_61 : hq_F TB vwCl R_No 61 3 11 (.int) false := ⟨_, _, _, _, k_No, by decide, by decide +kernel, rfl, by decide +kernel, rfl⟩
set_option maxRecDepth 20000 in
theorem f_No_64 : hq_F TB vwCl R_No 64 3 12 (.int) false := ⟨_, _, _, _, k_No, by decide, by decide +kernel, rfl, by decide +kernel, rfl⟩
set_option maxRecDepth 20000 in
theorem f_No_67 : hq_F TB vwCl R_No 67 3 13 (.int) false := ⟨_, _, _, _, k_No, by decide, by decide +kernel, rfl, by decide +kernel, rfl⟩
set_option maxRecDepth 20000 in
theorem f_No_70 : hq_F TB vwCl R_No 70 3 14 (.boolean) false := ⟨_, _, _, _, k_No, by decide, by decide +kernel, rfl, by decide +kernel, rfl⟩
set_option maxRecDepth 20000 in
theorem f_No_74 : hq_F TB vwCl R_No 74 3 15 (.int) false := ⟨_, _, _, _, k_No, by decide, by decide +kernel, rfl, by decide +kernel, rfl⟩
set_option maxRecDepth 20000 in
theorem f_No_77 : hq_F TB vwCl R_No 77 3 16 (.int) false := ⟨_, _, _, _, k_No, by decide, by decide +kernel, rfl, by decide +kernel, rfl⟩
set_option maxRecDepth 20000 in
theorem f_No_80 : hq_F TB vwCl R_No 80 3 17 (.int) false := ⟨_, _, _, _, k_No, by decide, by decide +kernel, rfl, by decide +kernel, rfl⟩
set_option maxRecDepth 20000 in
theorem f_No_83 : hq_F TB vwCl R_No 83 2 1 (.int) false := ⟨_, _, _, _, k_Fr, by decide, by decide +kernel, rfl, by decide +kernel, rfl⟩
set_option maxRecDepth 20000 in
theorem Y_No_86 : hq_YV TB R_No 86 y_No_beginToSend b_No_beginToSend 1 none 0 := ⟨⟨cw_No_beginToSend, by decide +kernel, by decide +kernel, by decide +kernel, by decide +kernel, by decide +kernel⟩, by decide +kernel, by decide +kernel⟩
set_option maxRecDepth 20000 in
theorem Y_No_89 : hq_YV TB R_No 89 y_No_levelToDrive b_No_levelToDrive 1 (some .int) 0 := ⟨⟨cw_No_levelToDrive, by decide +kernel, by decide +kernel, by decide +kernel, by decide +kernel, by decide +kernel⟩, by decide +kernel, by decide +kernel⟩
set_option maxRecDepth 20000 in
theorem Y_No_93 : hq_YV TB R_No 93 y_No_nextBit b_No_nextBit 1 (some .int) 0 := ⟨⟨cw_No_nextBit, by decide +kernel, by decide +kernel, by decide +kernel, by decide +kernel, by decide +kernel⟩, by decide +kernel, by decide +kernel⟩
set_option maxRecDepth 20000 in
theorem Y_No_96 : hq_YV TB R_No 96 y_Re_isAtAnswer b_Re_isAtAnswer 1 (some .boolean) 0 := ⟨⟨cw_Re_isAtAnswer, by decide +kernel, by decide +kernel, by decide +kernel, by decide +kernel, by decide +kernel⟩, by decide +kernel, by decide +kernel⟩
set_option maxRecDepth 20000 in
theorem Y_No_100 : hq_YV TB R_No 100 y_Re_isRight b_Re_isRight 1 (some .boolean) 0 := ⟨⟨cw_Re_isRight, by decide +kernel, by decide +kernel, by decide +kernel, by decide +kernel, by decide +kernel⟩, by decide +kernel, by decide +kernel⟩
set_option maxRecDepth 20000 in
theorem Y_No_103 : hq_YV TB R_No 103 y_Re_padIsDue b_Re_padIsDue 1 (some .boolean) 0 := ⟨⟨cw_Re_padIsDue, by decide +kernel, by decide +kernel, by decide +kernel, by decide +kernel, by decide +kernel⟩, by decide +kernel, by decide +kernel⟩
set_option maxRecDepth 20000 in
theorem f_No_106 : hq_F TB vwCl R_No 106 4 2 (.int) false := ⟨_, _, _, _, k_Re, by decide, by decide +kernel, rfl, by decide +kernel, rfl⟩
set_option maxRecDepth 20000 in
theorem f_No_109 : hq_F TB vwCl R_No 109 4 0 (.int) false := ⟨_, _, _, _, k_Re, by decide, by decide +kernel, rfl, by decide +kernel, rfl⟩
set_option maxRecDepth 20000 in
theorem Y_No_112 : hq_YV TB R_No 112 y_Co_bitAt b_Co_bitAt 2 (some .int) 1 := ⟨⟨cw_Co_bitAt, by decide +kernel, by decide +kernel, by decide +kernel, by decide +kernel, by decide +kernel⟩, by decide +kernel, by decide +kernel⟩
set_option maxRecDepth 20000 in
theorem Y_No_116 : hq_YV TB R_No 116 y_Di_next b_Di_next 2 (some .boolean) 0 := ⟨⟨cw_Di_next, by decide +kernel, by decide +kernel, by decide +kernel, by decide +kernel, by decide +kernel⟩, by decide +kernel, by decide +kernel⟩
set_option maxRecDepth 20000 in
theorem Y_No_119 : hq_YV TB R_No 119 y_No_seeSending b_No_seeSending 2 (some .int) 1 := ⟨⟨cw_No_seeSending, by decide +kernel, by decide +kernel, by decide +kernel, by decide +kernel, by decide +kernel⟩, by decide +kernel, by decide +kernel⟩
set_option maxRecDepth 20000 in
theorem Y_No_122 : hq_YV TB R_No 122 y_No_seeHearing b_No_seeHearing 3 (some .int) 1 := ⟨⟨cw_No_seeHearing, by decide +kernel, by decide +kernel, by decide +kernel, by decide +kernel, by decide +kernel⟩, by decide +kernel, by decide +kernel⟩
set_option maxRecDepth 20000 in
theorem Y_No_125 : hq_YV TB R_No 125 y_No_seeInFlag b_No_seeInFlag 2 (some .int) 1 := ⟨⟨cw_No_seeInFlag, by decide +kernel, by decide +kernel, by decide +kernel, by decide +kernel, by decide +kernel⟩, by decide +kernel, by decide +kernel⟩
set_option maxRecDepth 20000 in
theorem Y_No_128 : hq_YV TB R_No 128 y_No_seeAfter b_No_seeAfter 2 (some .int) 1 := ⟨⟨cw_No_seeAfter, by decide +kernel, by decide +kernel, by decide +kernel, by decide +kernel, by decide +kernel⟩, by decide +kernel, by decide +kernel⟩
set_option maxRecDepth 20000 in
theorem Y_No_131 : hq_YV TB R_No 131 y_No_seeInPause b_No_seeInPause 2 (some .int) 1 := ⟨⟨cw_No_seeInPause, by decide +kernel, by decide +kernel, by decide +kernel, by decide +kernel, by decide +kernel⟩, by decide +kernel, by decide +kernel⟩
set_option maxRecDepth 20000 in
theorem Y_No_134 : hq_YV TB R_No 134 y_No_seeSuspended b_No_seeSuspended 2 (some .int) 1 := ⟨⟨cw_No_seeSuspended, by decide +kernel, by decide +kernel, by decide +kernel, by decide +kernel, by decide +kernel⟩, by decide +kernel, by decide +kernel⟩
set_option maxRecDepth 20000 in
theorem Y_No_137 : hq_YV TB R_No 137 y_No_seeOff b_No_seeOff 2 (some .int) 1 := ⟨⟨cw_No_seeOff, by decide +kernel, by decide +kernel, by decide +kernel, by decide +kernel, by decide +kernel⟩, by decide +kernel, by decide +kernel⟩
set_option maxRecDepth 20000 in
theorem Y_No_140 : hq_YV TB R_No 140 y_No_beginToHear b_No_beginToHear 1 (some .int) 0 := ⟨⟨cw_No_beginToHear, by decide +kernel, by decide +kernel, by decide +kernel, by decide +kernel, by decide +kernel⟩, by decide +kernel, by decide +kernel⟩
set_option maxRecDepth 20000 in
theorem Y_No_143 : hq_YV TB R_No 143 y_Fr_placeOfLeastId b_Fr_placeOfLeastId 3 (some .int) 0 := ⟨⟨cw_Fr_placeOfLeastId, by decide +kernel, by decide +kernel, by decide +kernel, by decide +kernel, by decide +kernel⟩, by decide +kernel, by decide +kernel⟩
set_option maxRecDepth 20000 in
theorem Y_No_146 : hq_YV TB R_No 146 y_Fr_at b_Fr_at 2 (some .int) 1 := ⟨⟨cw_Fr_at, by decide +kernel, by decide +kernel, by decide +kernel, by decide +kernel, by decide +kernel⟩, by decide +kernel, by decide +kernel⟩
set_option maxRecDepth 20000 in
theorem Y_No_149 : hq_YV TB R_No 149 y_Co_write b_Co_write 5 none 1 := ⟨⟨cw_Co_write, by decide +kernel, by decide +kernel, by decide +kernel, by decide +kernel, by decide +kernel⟩, by decide +kernel, by decide +kernel⟩
set_option maxRecDepth 20000 in
theorem Y_No_153 : hq_YV TB R_No 153 y_Re_begin b_Re_begin 1 none 0 := ⟨⟨cw_Re_begin, by decide +kernel, by decide +kernel, by decide +kernel, by decide +kernel, by decide +kernel⟩, by decide +kernel, by decide +kernel⟩
set_option maxRecDepth 20000 in
theorem Y_No_156 : hq_YV TB R_No 156 y_Re_read b_Re_read 2 none 1 := ⟨⟨cw_Re_read, by decide +kernel, by decide +kernel, by decide +kernel, by decide +kernel, by decide +kernel⟩, by decide +kernel, by decide +kernel⟩
set_option maxRecDepth 20000 in
theorem Y_No_159 : hq_YV TB R_No 159 y_No_err b_No_err 3 (some .int) 1 := ⟨⟨cw_No_err, by decide +kernel, by decide +kernel, by decide +kernel, by decide +kernel, by decide +kernel⟩, by decide +kernel, by decide +kernel⟩
set_option maxRecDepth 20000 in
theorem Y_No_162 : hq_YV TB R_No 162 y_Re_isInId b_Re_isInId 1 (some .boolean) 0 := ⟨⟨cw_Re_isInId, by decide +kernel, by decide +kernel, by decide +kernel, by decide +kernel, by decide +kernel⟩, by decide +kernel, by decide +kernel⟩
set_option maxRecDepth 20000 in
theorem Y_No_165 : hq_YV TB R_No 165 y_Re_isAtEnd b_Re_isAtEnd 1 (some .boolean) 0 := ⟨⟨cw_Re_isAtEnd, by decide +kernel, by decide +kernel, by decide +kernel, by decide +kernel, by decide +kernel⟩, by decide +kernel, by decide +kernel⟩
set_option maxRecDepth 20000 in
theorem Y_No_168 : hq_YV TB R_No 168 y_No_endSending b_No_endSending 1 (some .int) 0 := ⟨⟨cw_No_endSending, by decide +kernel, by decide +kernel, by decide +kernel, by decide +kernel, by decide +kernel⟩, by decide +kernel, by decide +kernel⟩
set_option maxRecDepth 20000 in
theorem Y_No_171 : hq_YV TB R_No 171 y_Fr_remove b_Fr_remove 4 (some .int) 1 := ⟨⟨cw_Fr_remove, by decide +kernel, by decide +kernel, by decide +kernel, by decide +kernel, by decide +kernel⟩, by decide +kernel, by decide +kernel⟩
set_option maxRecDepth 20000 in
theorem Y_No_174 : hq_YV TB R_No 174 y_No_beginPause b_No_beginPause 1 none 0 := ⟨⟨cw_No_beginPause, by decide +kernel, by decide +kernel, by decide +kernel, by decide +kernel, by decide +kernel⟩, by decide +kernel, by decide +kernel⟩
set_option maxRecDepth 20000 in
theorem Y_No_177 : hq_YV TB R_No 177 y_Re_errorOf b_Re_errorOf 4 (some .int) 1 := ⟨⟨cw_Re_errorOf, by decide +kernel, by decide +kernel, by decide +kernel, by decide +kernel, by decide +kernel⟩, by decide +kernel, by decide +kernel⟩
set_option maxRecDepth 20000 in
theorem Y_No_180 : hq_YV TB R_No 180 y_No_endHearing b_No_endHearing 2 (some .int) 1 := ⟨⟨cw_No_endHearing, by decide +kernel, by decide +kernel, by decide +kernel, by decide +kernel, by decide +kernel⟩, by decide +kernel, by decide +kernel⟩
set_option maxRecDepth 20000 in
theorem Y_No_183 : hq_YS TB R_No 183 y_Ma_min b_Ma_min 2 (some .int) 2 := ⟨⟨cw_Ma_min, by decide +kernel, by decide +kernel, by decide +kernel, by decide +kernel, by decide +kernel⟩, by decide +kernel⟩
set_option maxRecDepth 20000 in
theorem f_No_189 : hq_F TB vwCl R_No 189 4 5 (.int) false := ⟨_, _, _, _, k_Re, by decide, by decide +kernel, rfl, by decide +kernel, rfl⟩
set_option maxRecDepth 20000 in
theorem Y_No_192 : hq_YV TB R_No 192 y_Re_frame b_Re_frame 1 (some .int) 0 := ⟨⟨cw_Re_frame, by decide +kernel, by decide +kernel, by decide +kernel, by decide +kernel, by decide +kernel⟩, by decide +kernel, by decide +kernel⟩
set_option maxRecDepth 20000 in
theorem Y_No_195 : hq_YV TB R_No 195 y_No_keep b_No_keep 2 none 1 := ⟨⟨cw_No_keep, by decide +kernel, by decide +kernel, by decide +kernel, by decide +kernel, by decide +kernel⟩, by decide +kernel, by decide +kernel⟩
set_option maxRecDepth 20000 in
theorem Y_No_198 : hq_YV TB R_No 198 y_No_overload b_No_overload 1 (some .int) 0 := ⟨⟨cw_No_overload, by decide +kernel, by decide +kernel, by decide +kernel, by decide +kernel, by decide +kernel⟩, by decide +kernel, by decide +kernel⟩
set_option maxRecDepth 20000 in
theorem Y_No_201 : hq_YV TB R_No 201 y_Fr_isFull b_Fr_isFull 1 (some .boolean) 0 := ⟨⟨cw_Fr_isFull, by decide +kernel, by decide +kernel, by decide +kernel, by decide +kernel, by decide +kernel⟩, by decide +kernel, by decide +kernel⟩
set_option maxRecDepth 20000 in
theorem Y_No_204 : hq_YV TB R_No 204 y_Fr_add b_Fr_add 2 none 1 := ⟨⟨cw_Fr_add, by decide +kernel, by decide +kernel, by decide +kernel, by decide +kernel, by decide +kernel⟩, by decide +kernel, by decide +kernel⟩
set_option maxRecDepth 20000 in
theorem Y_No_207 : hq_YV TB R_No 207 y_No_isPassive b_No_isPassive 1 (some .boolean) 0 := ⟨⟨cw_No_isPassive, by decide +kernel, by decide +kernel, by decide +kernel, by decide +kernel, by decide +kernel⟩, by decide +kernel, by decide +kernel⟩
set_option maxRecDepth 20000 in
theorem Y_No_210 : hq_YV TB R_No 210 y_No_beginFlag b_No_beginFlag 2 none 1 := ⟨⟨cw_No_beginFlag, by decide +kernel, by decide +kernel, by decide +kernel, by decide +kernel, by decide +kernel⟩, by decide +kernel, by decide +kernel⟩
set_option maxRecDepth 20000 in
theorem Y_No_214 : hq_YV TB R_No 214 y_No_goOffIfTooMany b_No_goOffIfTooMany 1 none 0 := ⟨⟨cw_No_goOffIfTooMany, by decide +kernel, by decide +kernel, by decide +kernel, by decide +kernel, by decide +kernel⟩, by decide +kernel, by decide +kernel⟩
set_option maxRecDepth 20000 in
theorem Y_No_217 : hq_YV TB R_No 217 y_No_countHeavily b_No_countHeavily 1 none 0 := ⟨⟨cw_No_countHeavily, by decide +kernel, by decide +kernel, by decide +kernel, by decide +kernel, by decide +kernel⟩, by decide +kernel, by decide +kernel⟩
set_option maxRecDepth 20000 in
theorem f_Re_9 : hq_F TB vwCl R_Re 9 4 0 (.int) false := ⟨_, _, _, _, k_Re, by decide, by decide +kernel, rfl, by decide +kernel, rfl⟩
set_option maxRecDepth 20000 in
theorem f_Re_17 : hq_F TB vwCl R_Re 17 4 1 (.int) false := ⟨_, _, _, _, k_Re, by decide, by decide +kernel, rfl, by decide +kernel, rfl⟩
set_option maxRecDepth 20000 in
theorem f_Re_20 : hq_F TB vwCl R_Re 20 4 2 (.int) false := ⟨_, _, _, _, k_Re, by decide, by decide +kernel, rfl, by decide +kernel, rfl⟩
set_option maxRecDepth 20000 in
theorem f_Re_23 : hq_F TB vwCl R_Re 23 4 3 (.int) false := ⟨_, _, _, _, k_Re, by decide, by decide +kernel, rfl, by decide +kernel, rfl⟩
set_option maxRecDepth 20000 in
theorem f_Re_26 : hq_F TB vwCl R_Re 26 4 4 (.int) false := ⟨_, _, _, _, k_Re, by decide, by decide +kernel, rfl, by decide +kernel, rfl⟩
set_option maxRecDepth 20000 in
theorem f_Re_29 : hq_F TB vwCl R_Re 29 4 5 (.int) false := ⟨_, _, _, _, k_Re, by decide, by decide +kernel, rfl, by decide +kernel, rfl⟩
set_option maxRecDepth 20000 in
theorem f_Re_32 : hq_F TB vwCl R_Re 32 4 6 (.int) false := ⟨_, _, _, _, k_Re, by decide, by decide +kernel, rfl, by decide +kernel, rfl⟩
set_option maxRecDepth 20000 in
theorem f_Re_35 : hq_F TB vwCl R_Re 35 4 7 (.int) false := ⟨_, _, _, _, k_Re, by decide, by decide +kernel, rfl, by decide +kernel, rfl⟩
set_option maxRecDepth 20000 in
theorem Y_Re_38 : hq_YV TB R_Re 38 y_Re_padIsDue b_Re_padIsDue 1 (some .boolean) 0 := ⟨⟨cw_Re_padIsDue, by decide +kernel, by decide +kernel, by decide +kernel, by decide +kernel, by decide +kernel⟩, by decide +kernel, by decide +kernel⟩
set_option maxRecDepth 20000 in
theorem Y_Re_42 : hq_YV TB R_Re 42 y_Re_isBehindCore b_Re_isBehindCore 1 (some .boolean) 0 := ⟨⟨cw_Re_isBehindCore, by decide +kernel, by decide +kernel, by decide +kernel, by decide +kernel, by decide +kernel⟩, by decide +kernel, by decide +kernel⟩
set_option maxRecDepth 20000 in
theorem Y_Re_45 : hq_YS TB R_Re 45 y_Fr_packed b_Fr_packed 3 (some .int) 3 := ⟨⟨cw_Fr_packed, by decide +kernel, by decide +kernel, by decide +kernel, by decide +kernel, by decide +kernel⟩, by decide +kernel⟩
set_option maxRecDepth 20000 in
theorem Y_Re_51 : hq_YV TB R_Re 51 y_Re_readCore b_Re_readCore 2 none 1 := ⟨⟨cw_Re_readCore, by decide +kernel, by decide +kernel, by decide +kernel, by decide +kernel, by decide +kernel⟩, by decide +kernel, by decide +kernel⟩
set_option maxRecDepth 20000 in
theorem Y_Re_55 : hq_YS TB R_Re 55 y_Co_registerBehind b_Co_registerBehind 3 (some .int) 2 := ⟨⟨cw_Co_registerBehind, by decide +kernel, by decide +kernel, by decide +kernel, by decide +kernel, by decide +kernel⟩, by decide +kernel⟩
set_option maxRecDepth 20000 in
theorem Y_Re_59 : hq_YV TB R_Re 59 y_Re_readData b_Re_readData 4 none 1 := ⟨⟨cw_Re_readData, by decide +kernel, by decide +kernel, by decide +kernel, by decide +kernel, by decide +kernel⟩, by decide +kernel, by decide +kernel⟩
set_option maxRecDepth 20000 in
theorem Y_Re_62 : hq_YS TB R_Re 62 y_Co_lengthFor b_Co_lengthFor 1 (some .int) 1 := ⟨⟨cw_Co_lengthFor, by decide +kernel, by decide +kernel, by decide +kernel, by decide +kernel, by decide +kernel⟩, by decide +kernel⟩
set_option maxRecDepth 20000 in
theorem Y_Re_66 : hq_YV TB R_Re 66 y_Re_errorBehindCore b_Re_errorBehindCore 4 (some .int) 2 := ⟨⟨cw_Re_errorBehindCore, by decide +kernel, by decide +kernel, by decide +kernel, by decide +kernel, by decide +kernel⟩, by decide +kernel, by decide +kernel⟩
set_option maxRecDepth 20000 in
theorem Y_Re_69 : hq_YV TB R_Re 69 y_Re_isRight b_Re_isRight 1 (some .boolean) 0 := ⟨⟨cw_Re_isRight, by decide +kernel, by decide +kernel, by decide +kernel, by decide +kernel, by decide +kernel⟩, by decide +kernel, by decide +kernel⟩
set_option maxRecDepth 20000 in
theorem Y_L_7 : hq_YV TB R_L 7 y_X_request b_X_request 6 (some .int) 4 := ⟨⟨cw_X_request, by decide +kernel, by decide +kernel, by decide +kernel, by decide +kernel, by decide +kernel⟩, by decide +kernel, by decide +kernel⟩
set_option maxRecDepth 20000 in
theorem Y_L_17 : hq_YV TB R_L 17 y_X_filter b_X_filter 5 none 3 := ⟨⟨cw_X_filter, by decide +kernel, by decide +kernel, by decide +kernel, by decide +kernel, by decide +kernel⟩, by decide +kernel, by decide +kernel⟩
set_option maxRecDepth 20000 in
theorem Y_L_21 : hq_YV TB R_L 21 y_X_disturb b_X_disturb 4 none 2 := ⟨⟨cw_X_disturb, by decide +kernel, by decide +kernel, by decide +kernel, by decide +kernel, by decide +kernel⟩, by decide +kernel, by decide +kernel⟩
set_option maxRecDepth 20000 in
theorem Y_L_25 : hq_YV TB R_L 25 y_X_pass b_X_pass 4 (some .int) 1 := ⟨⟨cw_X_pass, by decide +kernel, by decide +kernel, by decide +kernel, by decide +kernel, by decide +kernel⟩, by decide +kernel, by decide +kernel⟩
set_option maxRecDepth 20000 in
theorem Y_L_29 : hq_YV TB R_L 29 y_X_state b_X_state 2 (some .int) 1 := ⟨⟨cw_X_state, by decide +kernel, by decide +kernel, by decide +kernel, by decide +kernel, by decide +kernel⟩, by decide +kernel, by decide +kernel⟩
set_option maxRecDepth 20000 in
theorem Y_L_32 : hq_YV TB R_L 32 y_X_count b_X_count 4 (some .int) 2 := ⟨⟨cw_X_count, by decide +kernel, by decide +kernel, by decide +kernel, by decide +kernel, by decide +kernel⟩, by decide +kernel, by decide +kernel⟩
set_option maxRecDepth 20000 in
theorem Y_L_36 : hq_YV TB R_L 36 y_X_take b_X_take 3 (some .int) 1 := ⟨⟨cw_X_take, by decide +kernel, by decide +kernel, by decide +kernel, by decide +kernel, by decide +kernel⟩, by decide +kernel, by decide +kernel⟩
set_option maxRecDepth 20000 in
theorem Y_L_39 : hq_YV TB R_L 39 y_X_total b_X_total 2 (some .int) 1 := ⟨⟨cw_X_total, by decide +kernel, by decide +kernel, by decide +kernel, by decide +kernel, by decide +kernel⟩, by decide +kernel, by decide +kernel⟩
set_option maxRecDepth 20000 in
theorem f_M_7 : hq_F TB vwCl R_M 7 6 2 (.array .int) false := ⟨_, _, _, _, k_M, by decide, by decide +kernel, rfl, by decide +kernel, rfl⟩
set_option maxRecDepth 20000 in
theorem f_M_13 : hq_F TB vwCl R_M 13 6 3 (.array .int) false := ⟨_, _, _, _, k_M, by decide, by decide +kernel, rfl, by decide +kernel, rfl⟩
set_option maxRecDepth 20000 in
theorem f_M_16 : hq_F TB vwCl R_M 16 6 4 (.array .boolean) false := ⟨_, _, _, _, k_M, by decide, by decide +kernel, rfl, by decide +kernel, rfl⟩
set_option maxRecDepth 20000 in
theorem f_M_20 : hq_F TB vwCl R_M 20 6 5 (.array .int) false := ⟨_, _, _, _, k_M, by decide, by decide +kernel, rfl, by decide +kernel, rfl⟩
set_option maxRecDepth 20000 in
theorem f_M_23 : hq_F TB vwCl R_M 23 6 6 (.array .int) false := ⟨_, _, _, _, k_M, by decide, by decide +kernel, rfl, by decide +kernel, rfl⟩
set_option maxRecDepth 20000 in
theorem f_M_26 : hq_F TB vwCl R_M 26 6 7 (.array .int) false := ⟨_, _, _, _, k_M, by decide, by decide +kernel, rfl, by decide +kernel, rfl⟩
set_option maxRecDepth 20000 in
theorem f_M_29 : hq_F TB vwCl R_M 29 6 8 (.array .int) false := ⟨_, _, _, _, k_M, by decide, by decide +kernel, rfl, by decide +kernel, rfl⟩
set_option maxRecDepth 20000 in
theorem f_M_32 : hq_F TB vwCl R_M 32 6 9 (.array .int) false := ⟨_, _, _, _, k_M, by decide, by decide +kernel, rfl, by decide +kernel, rfl⟩
set_option maxRecDepth 20000 in
theorem f_M_35 : hq_F TB vwCl R_M 35 6 10 (.array .int) false := ⟨_, _, _, _, k_M, by decide, by decide +kernel, rfl, by decide +kernel, rfl⟩
set_option maxRecDepth 20000 in
theorem f_M_38 : hq_F TB vwCl R_M 38 6 11 (.array .int) false := ⟨_, _, _, _, k_M, by decide, by decide +kernel, rfl, by decide +kernel, rfl⟩
set_option maxRecDepth 20000 in
theorem f_M_41 : hq_F TB vwCl R_M 41 6 12 (.array .int) false := ⟨_, _, _, _, k_M, by decide, by decide +kernel, rfl, by decide +kernel, rfl⟩
set_option maxRecDepth 20000 in
theorem f_M_44 : hq_F TB vwCl R_M 44 6 13 (.array .int) false := ⟨_, _, _, _, k_M, by decide, by decide +kernel, rfl, by decide +kernel, rfl⟩
set_option maxRecDepth 20000 in
theorem f_M_47 : hq_F TB vwCl R_M 47 6 14 (.array .int) false := ⟨_, _, _, _, k_M, by decide, by decide +kernel, rfl, by decide +kernel, rfl⟩
set_option maxRecDepth 20000 in
theorem f_M_50 : hq_F TB vwCl R_M 50 6 15 (.array .int) false := ⟨_, _, _, _, k_M, by decide, by decide +kernel, rfl, by decide +kernel, rfl⟩
set_option maxRecDepth 20000 in
theorem f_M_53 : hq_F TB vwCl R_M 53 6 16 (.array .int) false := ⟨_, _, _, _, k_M, by decide, by decide +kernel, rfl, by decide +kernel, rfl⟩
set_option maxRecDepth 20000 in
theorem f_M_56 : hq_F TB vwCl R_M 56 6 17 (.array .int) false := ⟨_, _, _, _, k_M, by decide, by decide +kernel, rfl, by decide +kernel, rfl⟩
set_option maxRecDepth 20000 in
theorem f_M_59 : hq_F TB vwCl R_M 59 6 18 (.array .int) false := ⟨_, _, _, _, k_M, by decide, by decide +kernel, rfl, by decide +kernel, rfl⟩
set_option maxRecDepth 20000 in
theorem f_M_62 : hq_F TB vwCl R_M 62 6 19 (.array .int) false := ⟨_, _, _, _, k_M, by decide, by decide +kernel, rfl, by decide +kernel, rfl⟩
set_option maxRecDepth 20000 in
theorem f_M_65 : hq_F TB vwCl R_M 65 6 20 (.array .int) false := ⟨_, _, _, _, k_M, by decide, by decide +kernel, rfl, by decide +kernel, rfl⟩
set_option maxRecDepth 20000 in
theorem f_M_68 : hq_F TB vwCl R_M 68 6 21 (.array .int) false := ⟨_, _, _, _, k_M, by decide, by decide +kernel, rfl, by decide +kernel, rfl⟩
set_option maxRecDepth 20000 in
theorem f_M_71 : hq_F TB vwCl R_M 71 6 22 (.array .int) false := ⟨_, _, _, _, k_M, by decide, by decide +kernel, rfl, by decide +kernel, rfl⟩
set_option maxRecDepth 20000 in
theorem f_M_74 : hq_F TB vwCl R_M 74 6 23 (.array .int) false := ⟨_, _, _, _, k_M, by decide, by decide +kernel, rfl, by decide +kernel, rfl⟩
set_option maxRecDepth 20000 in
theorem f_M_77 : hq_F TB vwCl R_M 77 6 24 (.array .int) false := ⟨_, _, _, _, k_M, by decide, by decide +kernel, rfl, by decide +kernel, rfl⟩
set_option maxRecDepth 20000 in
theorem f_M_80 : hq_F TB vwCl R_M 80 6 25 (.array .int) false := ⟨_, _, _, _, k_M, by decide, by decide +kernel, rfl, by decide +kernel, rfl⟩
set_option maxRecDepth 20000 in
theorem f_M_83 : hq_F TB vwCl R_M 83 6 26 (.array .int) false := ⟨_, _, _, _, k_M, by decide, by decide +kernel, rfl, by decide +kernel, rfl⟩
set_option maxRecDepth 20000 in
theorem f_M_86 : hq_F TB vwCl R_M 86 6 27 (.array .boolean) false := ⟨_, _, _, _, k_M, by decide, by decide +kernel, rfl, by decide +kernel, rfl⟩
set_option maxRecDepth 20000 in
theorem f_M_89 : hq_F TB vwCl R_M 89 6 28 (.array .int) false := ⟨_, _, _, _, k_M, by decide, by decide +kernel, rfl, by decide +kernel, rfl⟩
set_option maxRecDepth 20000 in
theorem f_M_92 : hq_F TB vwCl R_M 92 6 29 (.array .int) false := ⟨_, _, _, _, k_M, by decide, by decide +kernel, rfl, by decide +kernel, rfl⟩
set_option maxRecDepth 20000 in
theorem f_M_95 : hq_F TB vwCl R_M 95 6 30 (.array .int) false := ⟨_, _, _, _, k_M, by decide, by decide +kernel, rfl, by decide +kernel, rfl⟩
set_option maxRecDepth 20000 in
theorem f_M_98 : hq_F TB vwCl R_M 98 6 31 (.array .int) false := ⟨_, _, _, _, k_M, by decide, by decide +kernel, rfl, by decide +kernel, rfl⟩
set_option maxRecDepth 20000 in
theorem f_M_101 : hq_F TB vwCl R_M 101 6 1 (.int) false := ⟨_, _, _, _, k_M, by decide, by decide +kernel, rfl, by decide +kernel, rfl⟩
set_option maxRecDepth 20000 in
theorem f_M_105 : hq_F TB vwCl R_M 105 6 0 (.int) false := ⟨_, _, _, _, k_M, by decide, by decide +kernel, rfl, by decide +kernel, rfl⟩
set_option maxRecDepth 20000 in
theorem Y_M_108 : hq_YV TB R_M 108 y_M_noNode b_M_noNode 2 (some .boolean) 1 := ⟨⟨cw_M_noNode, by decide +kernel, by decide +kernel, by decide +kernel, by decide +kernel, by decide +kernel⟩, by decide +kernel, by decide +kernel⟩
set_option maxRecDepth 20000 in
theorem Y_M_112 : hq_YV TB R_M 112 y_M_open b_M_open 3 none 2 := ⟨⟨cw_M_open, by decide +kernel, by decide +kernel, by decide +kernel, by decide +kernel, by decide +kernel⟩, by decide +kernel, by decide +kernel⟩
set_option maxRecDepth 20000 in
theorem Y_M_116 : hq_YV TB R_M 116 y_M_coreBit b_M_coreBit 5 (some .int) 1 := ⟨⟨cw_M_coreBit, by decide +kernel, by decide +kernel, by decide +kernel, by decide +kernel, by decide +kernel⟩, by decide +kernel, by decide +kernel⟩
set_option maxRecDepth 20000 in
theorem Y_M_120 : hq_YV TB R_M 120 y_M_coreLength b_M_coreLength 2 (some .int) 1 := ⟨⟨cw_M_coreLength, by decide +kernel, by decide +kernel, by decide +kernel, by decide +kernel, by decide +kernel⟩, by decide +kernel, by decide +kernel⟩
set_option maxRecDepth 20000 in
theorem Y_M_123 : hq_YV TB R_M 123 y_M_isPassive b_M_isPassive 2 (some .boolean) 1 := ⟨⟨cw_M_isPassive, by decide +kernel, by decide +kernel, by decide +kernel, by decide +kernel, by decide +kernel⟩, by decide +kernel, by decide +kernel⟩
set_option maxRecDepth 20000 in
theorem Y_M_126 : hq_YV TB R_M 126 y_M_goesOff b_M_goesOff 2 (some .boolean) 1 := ⟨⟨cw_M_goesOff, by decide +kernel, by decide +kernel, by decide +kernel, by decide +kernel, by decide +kernel⟩, by decide +kernel, by decide +kernel⟩
set_option maxRecDepth 20000 in
theorem Y_M_129 : hq_YV TB R_M 129 y_M_flag b_M_flag 4 none 3 := ⟨⟨cw_M_flag, by decide +kernel, by decide +kernel, by decide +kernel, by decide +kernel, by decide +kernel⟩, by decide +kernel, by decide +kernel⟩
set_option maxRecDepth 20000 in
theorem Y_M_133 : hq_YV TB R_M 133 y_M_rest b_M_rest 2 none 1 := ⟨⟨cw_M_rest, by decide +kernel, by decide +kernel, by decide +kernel, by decide +kernel, by decide +kernel⟩, by decide +kernel, by decide +kernel⟩
set_option maxRecDepth 20000 in
theorem Y_M_137 : hq_YV TB R_M 137 y_M_overload b_M_overload 2 none 1 := ⟨⟨cw_M_overload, by decide +kernel, by decide +kernel, by decide +kernel, by decide +kernel, by decide +kernel⟩, by decide +kernel, by decide +kernel⟩
set_option maxRecDepth 20000 in
theorem Y_M_140 : hq_YV TB R_M 140 y_M_hear b_M_hear 7 none 2 := ⟨⟨cw_M_hear, by decide +kernel, by decide +kernel, by decide +kernel, by decide +kernel, by decide +kernel⟩, by decide +kernel, by decide +kernel⟩
set_option maxRecDepth 20000 in
theorem Y_M_143 : hq_YV TB R_M 143 y_M_err b_M_err 4 none 3 := ⟨⟨cw_M_err, by decide +kernel, by decide +kernel, by decide +kernel, by decide +kernel, by decide +kernel⟩, by decide +kernel, by decide +kernel⟩
set_option maxRecDepth 20000 in
theorem Y_M_147 : hq_YV TB R_M 147 y_M_readCore b_M_readCore 6 (some .int) 2 := ⟨⟨cw_M_readCore, by decide +kernel, by decide +kernel, by decide +kernel, by decide +kernel, by decide +kernel⟩, by decide +kernel, by decide +kernel⟩
set_option maxRecDepth 20000 in
theorem Y_M_151 : hq_YV TB R_M 151 y_M_sentFrame b_M_sentFrame 3 none 1 := ⟨⟨cw_M_sentFrame, by decide +kernel, by decide +kernel, by decide +kernel, by decide +kernel, by decide +kernel⟩, by decide +kernel, by decide +kernel⟩
set_option maxRecDepth 20000 in
theorem Y_M_154 : hq_YV TB R_M 154 y_M_heardFrame b_M_heardFrame 3 none 2 := ⟨⟨cw_M_heardFrame, by decide +kernel, by decide +kernel, by decide +kernel, by decide +kernel, by decide +kernel⟩, by decide +kernel, by decide +kernel⟩
set_option maxRecDepth 20000 in
theorem Y_M_157 : hq_YV TB R_M 157 y_M_eightMore b_M_eightMore 2 (some .boolean) 1 := ⟨⟨cw_M_eightMore, by decide +kernel, by decide +kernel, by decide +kernel, by decide +kernel, by decide +kernel⟩, by decide +kernel, by decide +kernel⟩
set_option maxRecDepth 20000 in
theorem Y_M_160 : hq_YV TB R_M 160 y_M_start b_M_start 2 none 1 := ⟨⟨cw_M_start, by decide +kernel, by decide +kernel, by decide +kernel, by decide +kernel, by decide +kernel⟩, by decide +kernel, by decide +kernel⟩
set_option maxRecDepth 20000 in
theorem Y_M_163 : hq_YV TB R_M 163 y_M_send b_M_send 5 none 2 := ⟨⟨cw_M_send, by decide +kernel, by decide +kernel, by decide +kernel, by decide +kernel, by decide +kernel⟩, by decide +kernel, by decide +kernel⟩
set_option maxRecDepth 20000 in
theorem Y_M_166 : hq_YV TB R_M 166 y_M_flagging b_M_flagging 3 none 2 := ⟨⟨cw_M_flagging, by decide +kernel, by decide +kernel, by decide +kernel, by decide +kernel, by decide +kernel⟩, by decide +kernel, by decide +kernel⟩
set_option maxRecDepth 20000 in
theorem Y_M_169 : hq_YV TB R_M 169 y_M_goAfter b_M_goAfter 4 none 2 := ⟨⟨cw_M_goAfter, by decide +kernel, by decide +kernel, by decide +kernel, by decide +kernel, by decide +kernel⟩, by decide +kernel, by decide +kernel⟩
set_option maxRecDepth 20000 in
theorem Y_M_172 : hq_YV TB R_M 172 y_M_pausing b_M_pausing 3 none 2 := ⟨⟨cw_M_pausing, by decide +kernel, by decide +kernel, by decide +kernel, by decide +kernel, by decide +kernel⟩, by decide +kernel, by decide +kernel⟩
set_option maxRecDepth 20000 in
theorem Y_M_175 : hq_YV TB R_M 175 y_M_offTime b_M_offTime 3 none 2 := ⟨⟨cw_M_offTime, by decide +kernel, by decide +kernel, by decide +kernel, by decide +kernel, by decide +kernel⟩, by decide +kernel, by decide +kernel⟩
set_option maxRecDepth 20000 in
theorem Y_M_178 : hq_YV TB R_M 178 y_M_begin b_M_begin 4 none 1 := ⟨⟨cw_M_begin, by decide +kernel, by decide +kernel, by decide +kernel, by decide +kernel, by decide +kernel⟩, by decide +kernel, by decide +kernel⟩
set_option maxRecDepth 20000 in
theorem Y_M_181 : hq_YV TB R_M 181 y_M_driven b_M_driven 2 (some .int) 1 := ⟨⟨cw_M_driven, by decide +kernel, by decide +kernel, by decide +kernel, by decide +kernel, by decide +kernel⟩, by decide +kernel, by decide +kernel⟩
set_option maxRecDepth 20000 in
theorem Y_M_184 : hq_YV TB R_M 184 y_M_see b_M_see 3 none 2 := ⟨⟨cw_M_see, by decide +kernel, by decide +kernel, by decide +kernel, by decide +kernel, by decide +kernel⟩, by decide +kernel, by decide +kernel⟩
set_option maxRecDepth 20000 in
theorem Y_M_187 : hq_YV TB R_M 187 y_M_bitTime b_M_bitTime 6 none 0 := ⟨⟨cw_M_bitTime, by decide +kernel, by decide +kernel, by decide +kernel, by decide +kernel, by decide +kernel⟩, by decide +kernel, by decide +kernel⟩
end
section
theorem d_X_init_0 : decode b_X_init 0 = .ok (.aload_n 0, 1) := by decide +kernel
theorem d_X_init_1 : decode b_X_init 1 = .ok (.invokespecial 1, 3) := by decide +kernel
theorem d_X_init_4 : decode b_X_init 4 = .ok (.aload_n 0, 1) := by decide +kernel
theorem d_X_init_5 : decode b_X_init 5 = .ok (.bipush 64, 2) := by decide +kernel
theorem d_X_init_7 : decode b_X_init 7 = .ok (.newarray .int, 2) := by decide +kernel
theorem d_X_init_9 : decode b_X_init 9 = .ok (.putfield 9, 3) := by decide +kernel
theorem d_X_init_12 : decode b_X_init 12 = .ok (.aload_n 0, 1) := by decide +kernel
theorem d_X_init_13 : decode b_X_init 13 = .ok (.bipush 8, 2) := by decide +kernel
theorem d_X_init_15 : decode b_X_init 15 = .ok (.newarray .int, 2) := by decide +kernel
theorem d_X_init_17 : decode b_X_init 17 = .ok (.putfield 13, 3) := by decide +kernel
theorem d_X_init_20 : decode b_X_init 20 = .ok (.aload_n 0, 1) := by decide +kernel
theorem d_X_init_21 : decode b_X_init 21 = .ok (.iconst 2, 1) := by decide +kernel
theorem d_X_init_22 : decode b_X_init 22 = .ok (.iconst 4, 1) := by decide +kernel
theorem d_X_init_23 : decode b_X_init 23 = .ok (.iload_n 1, 1) := by decide +kernel
theorem d_X_init_24 : decode b_X_init 24 = .ok (.invokestatic 16, 3) := by decide +kernel
theorem d_X_init_27 : decode b_X_init 27 = .ok (.invokestatic 22, 3) := by decide +kernel
theorem d_X_init_30 : decode b_X_init 30 = .ok (.anewarray 25, 3) := by decide +kernel
theorem d_X_init_33 : decode b_X_init 33 = .ok (.putfield 27, 3) := by decide +kernel
theorem d_X_init_36 : decode b_X_init 36 = .ok (.iconst 0, 1) := by decide +kernel
theorem d_X_init_37 : decode b_X_init 37 = .ok (.istore_n 2, 1) := by decide +kernel
theorem d_X_init_38 : decode b_X_init 38 = .ok (.iload_n 2, 1) := by decide +kernel
theorem d_X_init_39 : decode b_X_init 39 = .ok (.aload_n 0, 1) := by decide +kernel
theorem d_X_init_40 : decode b_X_init 40 = .ok (.getfield 27, 3) := by decide +kernel
theorem d_X_init_43 : decode b_X_init 43 = .ok (.arraylength, 1) := by decide +kernel
theorem d_X_init_44 : decode b_X_init 44 = .ok (.if_icmp .ge 22, 3) := by decide +kernel
theorem d_X_init_47 : decode b_X_init 47 = .ok (.aload_n 0, 1) := by decide +kernel
theorem d_X_init_48 : decode b_X_init 48 = .ok (.getfield 27, 3) := by decide +kernel
theorem d_X_init_51 : decode b_X_init 51 = .ok (.iload_n 2, 1) := by decide +kernel
theorem d_X_init_52 : decode b_X_init 52 = .ok (.new 25, 3) := by decide +kernel
theorem d_X_init_55 : decode b_X_init 55 = .ok (.dup, 1) := by decide +kernel
theorem d_X_init_56 : decode b_X_init 56 = .ok (.invokespecial 31, 3) := by decide +kernel
theorem d_X_init_59 : decode b_X_init 59 = .ok (.aastore, 1) := by decide +kernel
theorem d_X_init_60 : decode b_X_init 60 = .ok (.iinc 2 1, 3) := by decide +kernel
theorem d_X_init_63 : decode b_X_init 63 = .ok (.goto (-25), 3) := by decide +kernel
theorem d_X_init_66 : decode b_X_init 66 = .ok (.return_, 1) := by decide +kernel
theorem d_Ma_min_0 : decode b_Ma_min 0 = .ok (.iload_n 0, 1) := by decide +kernel
theorem d_Ma_min_1 : decode b_Ma_min 1 = .ok (.iload_n 1, 1) := by decide +kernel
theorem d_Ma_min_2 : decode b_Ma_min 2 = .ok (.if_icmp .gt 7, 3) := by decide +kernel
theorem d_Ma_min_5 : decode b_Ma_min 5 = .ok (.iload_n 0, 1) := by decide +kernel
theorem d_Ma_min_6 : decode b_Ma_min 6 = .ok (.goto 4, 3) := by decide +kernel
theorem d_Ma_min_9 : decode b_Ma_min 9 = .ok (.iload_n 1, 1) := by decide +kernel
theorem d_Ma_min_10 : decode b_Ma_min 10 = .ok (.ireturn, 1) := by decide +kernel
theorem d_Ma_max_0 : decode b_Ma_max 0 = .ok (.iload_n 0, 1) := by decide +kernel
theorem d_Ma_max_1 : decode b_Ma_max 1 = .ok (.iload_n 1, 1) := by decide +kernel
theorem d_Ma_max_2 : decode b_Ma_max 2 = .ok (.if_icmp .lt 7, 3) := by decide +kernel
theorem d_Ma_max_5 : decode b_Ma_max 5 = .ok (.iload_n 0, 1) := by decide +kernel
theorem d_Ma_max_6 : decode b_Ma_max 6 = .ok (.goto 4, 3) := by decide +kernel
theorem d_Ma_max_9 : decode b_Ma_max 9 = .ok (.iload_n 1, 1) := by decide +kernel
theorem d_Ma_max_10 : decode b_Ma_max 10 = .ok (.ireturn, 1) := by decide +kernel
theorem d_No_init_0 : decode b_No_init 0 = .ok (.aload_n 0, 1) := by decide +kernel
theorem d_No_init_1 : decode b_No_init 1 = .ok (.invokespecial 3, 3) := by decide +kernel
theorem d_No_init_4 : decode b_No_init 4 = .ok (.aload_n 0, 1) := by decide +kernel
theorem d_No_init_5 : decode b_No_init 5 = .ok (.new 9, 3) := by decide +kernel
theorem d_No_init_8 : decode b_No_init 8 = .ok (.dup, 1) := by decide +kernel
theorem d_No_init_9 : decode b_No_init 9 = .ok (.invokespecial 11, 3) := by decide +kernel
theorem d_No_init_12 : decode b_No_init 12 = .ok (.putfield 12, 3) := by decide +kernel
theorem d_No_init_15 : decode b_No_init 15 = .ok (.aload_n 0, 1) := by decide +kernel
theorem d_No_init_16 : decode b_No_init 16 = .ok (.new 9, 3) := by decide +kernel
theorem d_No_init_19 : decode b_No_init 19 = .ok (.dup, 1) := by decide +kernel
theorem d_No_init_20 : decode b_No_init 20 = .ok (.invokespecial 11, 3) := by decide +kernel
theorem d_No_init_23 : decode b_No_init 23 = .ok (.putfield 18, 3) := by decide +kernel
theorem d_No_init_26 : decode b_No_init 26 = .ok (.aload_n 0, 1) := by decide +kernel
theorem d_No_init_27 : decode b_No_init 27 = .ok (.new 21, 3) := by decide +kernel
theorem d_No_init_30 : decode b_No_init 30 = .ok (.dup, 1) := by decide +kernel
theorem d_No_init_31 : decode b_No_init 31 = .ok (.invokespecial 23, 3) := by decide +kernel
theorem d_No_init_34 : decode b_No_init 34 = .ok (.putfield 24, 3) := by decide +kernel
theorem d_No_init_37 : decode b_No_init 37 = .ok (.aload_n 0, 1) := by decide +kernel
theorem d_No_init_38 : decode b_No_init 38 = .ok (.new 28, 3) := by decide +kernel
theorem d_No_init_41 : decode b_No_init 41 = .ok (.dup, 1) := by decide +kernel
theorem d_No_init_42 : decode b_No_init 42 = .ok (.invokespecial 30, 3) := by decide +kernel
theorem d_No_init_45 : decode b_No_init 45 = .ok (.putfield 31, 3) := by decide +kernel
theorem d_No_init_48 : decode b_No_init 48 = .ok (.aload_n 0, 1) := by decide +kernel
theorem d_No_init_49 : decode b_No_init 49 = .ok (.new 35, 3) := by decide +kernel
theorem d_No_init_52 : decode b_No_init 52 = .ok (.dup, 1) := by decide +kernel
theorem d_No_init_53 : decode b_No_init 53 = .ok (.invokespecial 37, 3) := by decide +kernel
theorem d_No_init_56 : decode b_No_init 56 = .ok (.putfield 38, 3) := by decide +kernel
theorem d_No_init_59 : decode b_No_init 59 = .ok (.aload_n 0, 1) := by decide +kernel
theorem d_No_init_60 : decode b_No_init 60 = .ok (.iconst 0, 1) := by decide +kernel
theorem d_No_init_61 : decode b_No_init 61 = .ok (.putfield 42, 3) := by decide +kernel
theorem d_No_init_64 : decode b_No_init 64 = .ok (.aload_n 0, 1) := by decide +kernel
theorem d_No_init_65 : decode b_No_init 65 = .ok (.iconst 0, 1) := by decide +kernel
theorem d_No_init_66 : decode b_No_init 66 = .ok (.putfield 46, 3) := by decide +kernel
theorem d_No_init_69 : decode b_No_init 69 = .ok (.aload_n 0, 1) := by decide +kernel
theorem d_No_init_70 : decode b_No_init 70 = .ok (.iconst 0, 1) := by decide +kernel
theorem d_No_init_71 : decode b_No_init 71 = .ok (.putfield 49, 3) := by decide +kernel
theorem d_No_init_74 : decode b_No_init 74 = .ok (.aload_n 0, 1) := by decide +kernel
theorem d_No_init_75 : decode b_No_init 75 = .ok (.iconst 0, 1) := by decide +kernel
theorem d_No_init_76 : decode b_No_init 76 = .ok (.putfield 52, 3) := by decide +kernel
theorem d_No_init_79 : decode b_No_init 79 = .ok (.aload_n 0, 1) := by decide +kernel
theorem d_No_init_80 : decode b_No_init 80 = .ok (.iconst 0, 1) := by decide +kernel
theorem d_No_init_81 : decode b_No_init 81 = .ok (.putfield 55, 3) := by decide +kernel
theorem d_No_init_84 : decode b_No_init 84 = .ok (.aload_n 0, 1) := by decide +kernel
theorem d_No_init_85 : decode b_No_init 85 = .ok (.iconst 0, 1) := by decide +kernel
theorem d_No_init_86 : decode b_No_init 86 = .ok (.putfield 58, 3) := by decide +kernel
theorem d_No_init_89 : decode b_No_init 89 = .ok (.aload_n 0, 1) := by decide +kernel
theorem d_No_init_90 : decode b_No_init 90 = .ok (.iconst 0, 1) := by decide +kernel
theorem d_No_init_91 : decode b_No_init 91 = .ok (.putfield 61, 3) := by decide +kernel
theorem d_No_init_94 : decode b_No_init 94 = .ok (.aload_n 0, 1) := by decide +kernel
theorem d_No_init_95 : decode b_No_init 95 = .ok (.iconst 0, 1) := by decide +kernel
theorem d_No_init_96 : decode b_No_init 96 = .ok (.putfield 64, 3) := by decide +kernel
theorem d_No_init_99 : decode b_No_init 99 = .ok (.aload_n 0, 1) := by decide +kernel
theorem d_No_init_100 : decode b_No_init 100 = .ok (.iconst 1, 1) := by decide +kernel
theorem d_No_init_101 : decode b_No_init 101 = .ok (.putfield 67, 3) := by decide +kernel
theorem d_No_init_104 : decode b_No_init 104 = .ok (.aload_n 0, 1) := by decide +kernel
theorem d_No_init_105 : decode b_No_init 105 = .ok (.iconst 0, 1) := by decide +kernel
theorem d_No_init_106 : decode b_No_init 106 = .ok (.putfield 70, 3) := by decide +kernel
theorem d_No_init_109 : decode b_No_init 109 = .ok (.aload_n 0, 1) := by decide +kernel
theorem d_No_init_110 : decode b_No_init 110 = .ok (.iconst 0, 1) := by decide +kernel
theorem d_No_init_111 : decode b_No_init 111 = .ok (.putfield 74, 3) := by decide +kernel
theorem d_No_init_114 : decode b_No_init 114 = .ok (.aload_n 0, 1) := by decide +kernel
theorem d_No_init_115 : decode b_No_init 115 = .ok (.iconst 0, 1) := by decide +kernel
theorem d_No_init_116 : decode b_No_init 116 = .ok (.putfield 77, 3) := by decide +kernel
theorem d_No_init_119 : decode b_No_init 119 = .ok (.aload_n 0, 1) := by decide +kernel
theorem d_No_init_120 : decode b_No_init 120 = .ok (.iconst 0, 1) := by decide +kernel
theorem d_No_init_121 : decode b_No_init 121 = .ok (.putfield 80, 3) := by decide +kernel
theorem d_No_init_124 : decode b_No_init 124 = .ok (.return_, 1) := by decide +kernel
theorem d_Fr_init_0 : decode b_Fr_init 0 = .ok (.aload_n 0, 1) := by decide +kernel
theorem d_Fr_init_1 : decode b_Fr_init 1 = .ok (.invokespecial 3, 3) := by decide +kernel
theorem d_Fr_init_4 : decode b_Fr_init 4 = .ok (.aload_n 0, 1) := by decide +kernel
theorem d_Fr_init_5 : decode b_Fr_init 5 = .ok (.iconst 4, 1) := by decide +kernel
theorem d_Fr_init_6 : decode b_Fr_init 6 = .ok (.newarray .int, 2) := by decide +kernel
theorem d_Fr_init_8 : decode b_Fr_init 8 = .ok (.putfield 9, 3) := by decide +kernel
theorem d_Fr_init_11 : decode b_Fr_init 11 = .ok (.aload_n 0, 1) := by decide +kernel
theorem d_Fr_init_12 : decode b_Fr_init 12 = .ok (.iconst 0, 1) := by decide +kernel
theorem d_Fr_init_13 : decode b_Fr_init 13 = .ok (.putfield 15, 3) := by decide +kernel
theorem d_Fr_init_16 : decode b_Fr_init 16 = .ok (.return_, 1) := by decide +kernel
theorem d_Di_init_0 : decode b_Di_init 0 = .ok (.aload_n 0, 1) := by decide +kernel
theorem d_Di_init_1 : decode b_Di_init 1 = .ok (.invokespecial 3, 3) := by decide +kernel
theorem d_Di_init_4 : decode b_Di_init 4 = .ok (.aload_n 0, 1) := by decide +kernel
theorem d_Di_init_5 : decode b_Di_init 5 = .ok (.sipush 201, 3) := by decide +kernel
theorem d_Di_init_8 : decode b_Di_init 8 = .ok (.newarray .boolean, 2) := by decide +kernel
theorem d_Di_init_10 : decode b_Di_init 10 = .ok (.putfield 9, 3) := by decide +kernel
theorem d_Di_init_13 : decode b_Di_init 13 = .ok (.aload_n 0, 1) := by decide +kernel
theorem d_Di_init_14 : decode b_Di_init 14 = .ok (.iconst 0, 1) := by decide +kernel
theorem d_Di_init_15 : decode b_Di_init 15 = .ok (.putfield 15, 3) := by decide +kernel
theorem d_Di_init_18 : decode b_Di_init 18 = .ok (.return_, 1) := by decide +kernel
theorem d_Co_init_0 : decode b_Co_init 0 = .ok (.aload_n 0, 1) := by decide +kernel
theorem d_Co_init_1 : decode b_Co_init 1 = .ok (.invokespecial 5, 3) := by decide +kernel
theorem d_Co_init_4 : decode b_Co_init 4 = .ok (.aload_n 0, 1) := by decide +kernel
theorem d_Co_init_5 : decode b_Co_init 5 = .ok (.bipush 50, 2) := by decide +kernel
theorem d_Co_init_7 : decode b_Co_init 7 = .ok (.newarray .int, 2) := by decide +kernel
theorem d_Co_init_9 : decode b_Co_init 9 = .ok (.putfield 11, 3) := by decide +kernel
theorem d_Co_init_12 : decode b_Co_init 12 = .ok (.aload_n 0, 1) := by decide +kernel
theorem d_Co_init_13 : decode b_Co_init 13 = .ok (.iconst 0, 1) := by decide +kernel
theorem d_Co_init_14 : decode b_Co_init 14 = .ok (.putfield 15, 3) := by decide +kernel
theorem d_Co_init_17 : decode b_Co_init 17 = .ok (.aload_n 0, 1) := by decide +kernel
theorem d_Co_init_18 : decode b_Co_init 18 = .ok (.iconst 0, 1) := by decide +kernel
theorem d_Co_init_19 : decode b_Co_init 19 = .ok (.putfield 19, 3) := by decide +kernel
theorem d_Co_init_22 : decode b_Co_init 22 = .ok (.return_, 1) := by decide +kernel
theorem d_Re_init_0 : decode b_Re_init 0 = .ok (.aload_n 0, 1) := by decide +kernel
theorem d_Re_init_1 : decode b_Re_init 1 = .ok (.invokespecial 3, 3) := by decide +kernel
theorem d_Re_init_4 : decode b_Re_init 4 = .ok (.aload_n 0, 1) := by decide +kernel
theorem d_Re_init_5 : decode b_Re_init 5 = .ok (.iconst 0, 1) := by decide +kernel
theorem d_Re_init_6 : decode b_Re_init 6 = .ok (.putfield 9, 3) := by decide +kernel
theorem d_Re_init_9 : decode b_Re_init 9 = .ok (.aload_n 0, 1) := by decide +kernel
theorem d_Re_init_10 : decode b_Re_init 10 = .ok (.bipush 50, 2) := by decide +kernel
theorem d_Re_init_12 : decode b_Re_init 12 = .ok (.putfield 17, 3) := by decide +kernel
theorem d_Re_init_15 : decode b_Re_init 15 = .ok (.aload_n 0, 1) := by decide +kernel
theorem d_Re_init_16 : decode b_Re_init 16 = .ok (.iconst 1, 1) := by decide +kernel
theorem d_Re_init_17 : decode b_Re_init 17 = .ok (.putfield 20, 3) := by decide +kernel
theorem d_Re_init_20 : decode b_Re_init 20 = .ok (.aload_n 0, 1) := by decide +kernel
theorem d_Re_init_21 : decode b_Re_init 21 = .ok (.iconst 0, 1) := by decide +kernel
theorem d_Re_init_22 : decode b_Re_init 22 = .ok (.putfield 23, 3) := by decide +kernel
theorem d_Re_init_25 : decode b_Re_init 25 = .ok (.aload_n 0, 1) := by decide +kernel
theorem d_Re_init_26 : decode b_Re_init 26 = .ok (.iconst 0, 1) := by decide +kernel
theorem d_Re_init_27 : decode b_Re_init 27 = .ok (.putfield 26, 3) := by decide +kernel
theorem d_Re_init_30 : decode b_Re_init 30 = .ok (.aload_n 0, 1) := by decide +kernel
theorem d_Re_init_31 : decode b_Re_init 31 = .ok (.iconst 0, 1) := by decide +kernel
theorem d_Re_init_32 : decode b_Re_init 32 = .ok (.putfield 29, 3) := by decide +kernel
theorem d_Re_init_35 : decode b_Re_init 35 = .ok (.aload_n 0, 1) := by decide +kernel
theorem d_Re_init_36 : decode b_Re_init 36 = .ok (.iconst 0, 1) := by decide +kernel
theorem d_Re_init_37 : decode b_Re_init 37 = .ok (.putfield 32, 3) := by decide +kernel
theorem d_Re_init_40 : decode b_Re_init 40 = .ok (.aload_n 0, 1) := by decide +kernel
theorem d_Re_init_41 : decode b_Re_init 41 = .ok (.iconst 0, 1) := by decide +kernel
theorem d_Re_init_42 : decode b_Re_init 42 = .ok (.putfield 35, 3) := by decide +kernel
theorem d_Re_init_45 : decode b_Re_init 45 = .ok (.return_, 1) := by decide +kernel
theorem d_X_level_0 : decode b_X_level 0 = .ok (.iload_n 1, 1) := by decide +kernel
theorem d_X_level_1 : decode b_X_level 1 = .ok (.ifCond .lt 19, 3) := by decide +kernel
theorem d_X_level_4 : decode b_X_level 4 = .ok (.iload_n 1, 1) := by decide +kernel
theorem d_X_level_5 : decode b_X_level 5 = .ok (.bipush 64, 2) := by decide +kernel
theorem d_X_level_7 : decode b_X_level 7 = .ok (.if_icmp .ge 13, 3) := by decide +kernel
theorem d_X_level_10 : decode b_X_level 10 = .ok (.iload_n 1, 1) := by decide +kernel
theorem d_X_level_11 : decode b_X_level 11 = .ok (.aload_n 0, 1) := by decide +kernel
theorem d_X_level_12 : decode b_X_level 12 = .ok (.getfield 13, 3) := by decide +kernel
theorem d_X_level_15 : decode b_X_level 15 = .ok (.iconst 0, 1) := by decide +kernel
theorem d_X_level_16 : decode b_X_level 16 = .ok (.iaload, 1) := by decide +kernel
theorem d_X_level_17 : decode b_X_level 17 = .ok (.if_icmp .lt 5, 3) := by decide +kernel
theorem d_X_level_20 : decode b_X_level 20 = .ok (.iconst (-1), 1) := by decide +kernel
theorem d_X_level_21 : decode b_X_level 21 = .ok (.ireturn, 1) := by decide +kernel
theorem d_X_level_22 : decode b_X_level 22 = .ok (.aload_n 0, 1) := by decide +kernel
theorem d_X_level_23 : decode b_X_level 23 = .ok (.getfield 9, 3) := by decide +kernel
theorem d_X_level_26 : decode b_X_level 26 = .ok (.aload_n 0, 1) := by decide +kernel
theorem d_X_level_27 : decode b_X_level 27 = .ok (.getfield 13, 3) := by decide +kernel
theorem d_X_level_30 : decode b_X_level 30 = .ok (.iconst 0, 1) := by decide +kernel
theorem d_X_level_31 : decode b_X_level 31 = .ok (.iaload, 1) := by decide +kernel
theorem d_X_level_32 : decode b_X_level 32 = .ok (.iconst 1, 1) := by decide +kernel
theorem d_X_level_33 : decode b_X_level 33 = .ok (.isub, 1) := by decide +kernel
theorem d_X_level_34 : decode b_X_level 34 = .ok (.iload_n 1, 1) := by decide +kernel
theorem d_X_level_35 : decode b_X_level 35 = .ok (.isub, 1) := by decide +kernel
theorem d_X_level_36 : decode b_X_level 36 = .ok (.bipush 64, 2) := by decide +kernel
theorem d_X_level_38 : decode b_X_level 38 = .ok (.irem, 1) := by decide +kernel
theorem d_X_level_39 : decode b_X_level 39 = .ok (.iaload, 1) := by decide +kernel
theorem d_X_level_40 : decode b_X_level 40 = .ok (.ireturn, 1) := by decide +kernel
theorem d_L_cell_0 : decode b_L_cell 0 = .ok (.iload_n 1, 1) := by decide +kernel
theorem d_L_cell_1 : decode b_L_cell 1 = .ok (.aload_n 0, 1) := by decide +kernel
theorem d_L_cell_2 : decode b_L_cell 2 = .ok (.arraylength, 1) := by decide +kernel
theorem d_L_cell_3 : decode b_L_cell 3 = .ok (.if_icmp .ge 9, 3) := by decide +kernel
theorem d_L_cell_6 : decode b_L_cell 6 = .ok (.aload_n 0, 1) := by decide +kernel
theorem d_L_cell_7 : decode b_L_cell 7 = .ok (.iload_n 1, 1) := by decide +kernel
theorem d_L_cell_8 : decode b_L_cell 8 = .ok (.iaload, 1) := by decide +kernel
theorem d_L_cell_9 : decode b_L_cell 9 = .ok (.goto 4, 3) := by decide +kernel
theorem d_L_cell_12 : decode b_L_cell 12 = .ok (.iconst 0, 1) := by decide +kernel
theorem d_L_cell_13 : decode b_L_cell 13 = .ok (.ireturn, 1) := by decide +kernel
theorem d_L_request_0 : decode b_L_request 0 = .ok (.aload 5, 2) := by decide +kernel
theorem d_L_request_2 : decode b_L_request 2 = .ok (.iconst 0, 1) := by decide +kernel
theorem d_L_request_3 : decode b_L_request 3 = .ok (.aload_n 0, 1) := by decide +kernel
theorem d_L_request_4 : decode b_L_request 4 = .ok (.iload_n 1, 1) := by decide +kernel
theorem d_L_request_5 : decode b_L_request 5 = .ok (.iload_n 2, 1) := by decide +kernel
theorem d_L_request_6 : decode b_L_request 6 = .ok (.iload_n 3, 1) := by decide +kernel
theorem d_L_request_7 : decode b_L_request 7 = .ok (.iload 4, 2) := by decide +kernel
theorem d_L_request_9 : decode b_L_request 9 = .ok (.invokevirtual 7, 3) := by decide +kernel
theorem d_L_request_12 : decode b_L_request 12 = .ok (.i2l, 1) := by decide +kernel
theorem d_L_request_13 : decode b_L_request 13 = .ok (.lastore, 1) := by decide +kernel
theorem d_L_request_14 : decode b_L_request 14 = .ok (.goto 11, 3) := by decide +kernel
theorem d_L_request_17 : decode b_L_request 17 = .ok (.astore 6, 2) := by decide +kernel
theorem d_L_request_19 : decode b_L_request 19 = .ok (.iconst 1, 1) := by decide +kernel
theorem d_L_request_20 : decode b_L_request 20 = .ok (.ireturn, 1) := by decide +kernel
theorem d_L_request_21 : decode b_L_request 21 = .ok (.astore 6, 2) := by decide +kernel
theorem d_L_request_23 : decode b_L_request 23 = .ok (.iconst 2, 1) := by decide +kernel
theorem d_L_request_24 : decode b_L_request 24 = .ok (.ireturn, 1) := by decide +kernel
theorem d_L_request_25 : decode b_L_request 25 = .ok (.iconst 0, 1) := by decide +kernel
theorem d_L_request_26 : decode b_L_request 26 = .ok (.ireturn, 1) := by decide +kernel
theorem d_X_request_0 : decode b_X_request 0 = .ok (.aload_n 0, 1) := by decide +kernel
theorem d_X_request_1 : decode b_X_request 1 = .ok (.iload_n 1, 1) := by decide +kernel
theorem d_X_request_2 : decode b_X_request 2 = .ok (.invokevirtual 32, 3) := by decide +kernel
theorem d_X_request_5 : decode b_X_request 5 = .ok (.astore 5, 2) := by decide +kernel
theorem d_X_request_7 : decode b_X_request 7 = .ok (.iload_n 2, 1) := by decide +kernel
theorem d_X_request_8 : decode b_X_request 8 = .ok (.invokestatic 36, 3) := by decide +kernel
theorem d_X_request_11 : decode b_X_request 11 = .ok (.ifCond .eq 28, 3) := by decide +kernel
theorem d_X_request_14 : decode b_X_request 14 = .ok (.iload_n 3, 1) := by decide +kernel
theorem d_X_request_15 : decode b_X_request 15 = .ok (.ifCond .lt 24, 3) := by decide +kernel
theorem d_X_request_18 : decode b_X_request 18 = .ok (.iload_n 3, 1) := by decide +kernel
theorem d_X_request_19 : decode b_X_request 19 = .ok (.iconst 2, 1) := by decide +kernel
theorem d_X_request_20 : decode b_X_request 20 = .ok (.if_icmp .gt 19, 3) := by decide +kernel
theorem d_X_request_23 : decode b_X_request 23 = .ok (.iload 4, 2) := by decide +kernel
theorem d_X_request_25 : decode b_X_request 25 = .ok (.ifCond .lt 14, 3) := by decide +kernel
theorem d_X_request_28 : decode b_X_request 28 = .ok (.iload 4, 2) := by decide +kernel
theorem d_X_request_30 : decode b_X_request 30 = .ok (.iconst 1, 1) := by decide +kernel
theorem d_X_request_31 : decode b_X_request 31 = .ok (.bipush 8, 2) := by decide +kernel
theorem d_X_request_33 : decode b_X_request 33 = .ok (.iload_n 3, 1) := by decide +kernel
theorem d_X_request_34 : decode b_X_request 34 = .ok (.imul, 1) := by decide +kernel
theorem d_X_request_35 : decode b_X_request 35 = .ok (.ishl, 1) := by decide +kernel
theorem d_X_request_36 : decode b_X_request 36 = .ok (.if_icmp .lt 13, 3) := by decide +kernel
theorem d_X_request_39 : decode b_X_request 39 = .ok (.new 40, 3) := by decide +kernel
theorem d_X_request_42 : decode b_X_request 42 = .ok (.dup, 1) := by decide +kernel
theorem d_X_request_43 : decode b_X_request 43 = .ok (.ldc 42, 2) := by decide +kernel
theorem d_X_request_45 : decode b_X_request 45 = .ok (.invokespecial 44, 3) := by decide +kernel
theorem d_X_request_48 : decode b_X_request 48 = .ok (.athrow, 1) := by decide +kernel
theorem d_X_request_49 : decode b_X_request 49 = .ok (.aload 5, 2) := by decide +kernel
theorem d_X_request_51 : decode b_X_request 51 = .ok (.getfield 47, 3) := by decide +kernel
theorem d_X_request_54 : decode b_X_request 54 = .ok (.bipush 7, 2) := by decide +kernel
theorem d_X_request_56 : decode b_X_request 56 = .ok (.if_icmp .eq 14, 3) := by decide +kernel
theorem d_X_request_59 : decode b_X_request 59 = .ok (.aload 5, 2) := by decide +kernel
theorem d_X_request_61 : decode b_X_request 61 = .ok (.getfield 51, 3) := by decide +kernel
theorem d_X_request_64 : decode b_X_request 64 = .ok (.invokevirtual 55, 3) := by decide +kernel
theorem d_X_request_67 : decode b_X_request 67 = .ok (.ifCond .eq 13, 3) := by decide +kernel
theorem d_X_request_70 : decode b_X_request 70 = .ok (.new 61, 3) := by decide +kernel
theorem d_X_request_73 : decode b_X_request 73 = .ok (.dup, 1) := by decide +kernel
theorem d_X_request_74 : decode b_X_request 74 = .ok (.ldc 63, 2) := by decide +kernel
theorem d_X_request_76 : decode b_X_request 76 = .ok (.invokespecial 65, 3) := by decide +kernel
theorem d_X_request_79 : decode b_X_request 79 = .ok (.athrow, 1) := by decide +kernel
theorem d_X_request_80 : decode b_X_request 80 = .ok (.aload 5, 2) := by decide +kernel
theorem d_X_request_82 : decode b_X_request 82 = .ok (.getfield 51, 3) := by decide +kernel
theorem d_X_request_85 : decode b_X_request 85 = .ok (.iload_n 2, 1) := by decide +kernel
theorem d_X_request_86 : decode b_X_request 86 = .ok (.iload_n 3, 1) := by decide +kernel
theorem d_X_request_87 : decode b_X_request 87 = .ok (.iload 4, 2) := by decide +kernel
theorem d_X_request_89 : decode b_X_request 89 = .ok (.invokestatic 66, 3) := by decide +kernel
theorem d_X_request_92 : decode b_X_request 92 = .ok (.invokevirtual 70, 3) := by decide +kernel
theorem d_X_request_95 : decode b_X_request 95 = .ok (.aload 5, 2) := by decide +kernel
theorem d_X_request_97 : decode b_X_request 97 = .ok (.getfield 51, 3) := by decide +kernel
theorem d_X_request_100 : decode b_X_request 100 = .ok (.getfield 74, 3) := by decide +kernel
theorem d_X_request_103 : decode b_X_request 103 = .ok (.ireturn, 1) := by decide +kernel
theorem d_X_nodeOf_0 : decode b_X_nodeOf 0 = .ok (.iload_n 1, 1) := by decide +kernel
theorem d_X_nodeOf_1 : decode b_X_nodeOf 1 = .ok (.ifCond .lt 12, 3) := by decide +kernel
theorem d_X_nodeOf_4 : decode b_X_nodeOf 4 = .ok (.iload_n 1, 1) := by decide +kernel
theorem d_X_nodeOf_5 : decode b_X_nodeOf 5 = .ok (.aload_n 0, 1) := by decide +kernel
theorem d_X_nodeOf_6 : decode b_X_nodeOf 6 = .ok (.getfield 27, 3) := by decide +kernel
theorem d_X_nodeOf_9 : decode b_X_nodeOf 9 = .ok (.arraylength, 1) := by decide +kernel
theorem d_X_nodeOf_10 : decode b_X_nodeOf 10 = .ok (.if_icmp .lt 13, 3) := by decide +kernel
theorem d_X_nodeOf_13 : decode b_X_nodeOf 13 = .ok (.new 40, 3) := by decide +kernel
theorem d_X_nodeOf_16 : decode b_X_nodeOf 16 = .ok (.dup, 1) := by decide +kernel
theorem d_X_nodeOf_17 : decode b_X_nodeOf 17 = .ok (.ldc 122, 2) := by decide +kernel
theorem d_X_nodeOf_19 : decode b_X_nodeOf 19 = .ok (.invokespecial 44, 3) := by decide +kernel
theorem d_X_nodeOf_22 : decode b_X_nodeOf 22 = .ok (.athrow, 1) := by decide +kernel
theorem d_X_nodeOf_23 : decode b_X_nodeOf 23 = .ok (.aload_n 0, 1) := by decide +kernel
theorem d_X_nodeOf_24 : decode b_X_nodeOf 24 = .ok (.getfield 27, 3) := by decide +kernel
theorem d_X_nodeOf_27 : decode b_X_nodeOf 27 = .ok (.iload_n 1, 1) := by decide +kernel
theorem d_X_nodeOf_28 : decode b_X_nodeOf 28 = .ok (.aaload, 1) := by decide +kernel
theorem d_X_nodeOf_29 : decode b_X_nodeOf 29 = .ok (.areturn, 1) := by decide +kernel
theorem d_X_isEleven_0 : decode b_X_isEleven 0 = .ok (.iload_n 0, 1) := by decide +kernel
theorem d_X_isEleven_1 : decode b_X_isEleven 1 = .ok (.ifCond .lt 14, 3) := by decide +kernel
theorem d_X_isEleven_4 : decode b_X_isEleven 4 = .ok (.iload_n 0, 1) := by decide +kernel
theorem d_X_isEleven_5 : decode b_X_isEleven 5 = .ok (.sipush 2047, 3) := by decide +kernel
theorem d_X_isEleven_8 : decode b_X_isEleven 8 = .ok (.if_icmp .gt 7, 3) := by decide +kernel
theorem d_X_isEleven_11 : decode b_X_isEleven 11 = .ok (.iconst 1, 1) := by decide +kernel
theorem d_X_isEleven_12 : decode b_X_isEleven 12 = .ok (.goto 4, 3) := by decide +kernel
theorem d_X_isEleven_15 : decode b_X_isEleven 15 = .ok (.iconst 0, 1) := by decide +kernel
theorem d_X_isEleven_16 : decode b_X_isEleven 16 = .ok (.ireturn, 1) := by decide +kernel
theorem d_Fr_isFull_0 : decode b_Fr_isFull 0 = .ok (.aload_n 0, 1) := by decide +kernel
theorem d_Fr_isFull_1 : decode b_Fr_isFull 1 = .ok (.getfield 15, 3) := by decide +kernel
theorem d_Fr_isFull_4 : decode b_Fr_isFull 4 = .ok (.iconst 4, 1) := by decide +kernel
theorem d_Fr_isFull_5 : decode b_Fr_isFull 5 = .ok (.if_icmp .lt 7, 3) := by decide +kernel
theorem d_Fr_isFull_8 : decode b_Fr_isFull 8 = .ok (.iconst 1, 1) := by decide +kernel
theorem d_Fr_isFull_9 : decode b_Fr_isFull 9 = .ok (.goto 4, 3) := by decide +kernel
theorem d_Fr_isFull_12 : decode b_Fr_isFull 12 = .ok (.iconst 0, 1) := by decide +kernel
theorem d_Fr_isFull_13 : decode b_Fr_isFull 13 = .ok (.ireturn, 1) := by decide +kernel
theorem d_Fr_packed_0 : decode b_Fr_packed 0 = .ok (.iload_n 0, 1) := by decide +kernel
theorem d_Fr_packed_1 : decode b_Fr_packed 1 = .ok (.sipush 2048, 3) := by decide +kernel
theorem d_Fr_packed_4 : decode b_Fr_packed 4 = .ok (.iload_n 1, 1) := by decide +kernel
theorem d_Fr_packed_5 : decode b_Fr_packed 5 = .ok (.imul, 1) := by decide +kernel
theorem d_Fr_packed_6 : decode b_Fr_packed 6 = .ok (.iadd, 1) := by decide +kernel
theorem d_Fr_packed_7 : decode b_Fr_packed 7 = .ok (.sipush 8192, 3) := by decide +kernel
theorem d_Fr_packed_10 : decode b_Fr_packed 10 = .ok (.iload_n 2, 1) := by decide +kernel
theorem d_Fr_packed_11 : decode b_Fr_packed 11 = .ok (.imul, 1) := by decide +kernel
theorem d_Fr_packed_12 : decode b_Fr_packed 12 = .ok (.iadd, 1) := by decide +kernel
theorem d_Fr_packed_13 : decode b_Fr_packed 13 = .ok (.ireturn, 1) := by decide +kernel
theorem d_Fr_add_0 : decode b_Fr_add 0 = .ok (.aload_n 0, 1) := by decide +kernel
theorem d_Fr_add_1 : decode b_Fr_add 1 = .ok (.invokevirtual 19, 3) := by decide +kernel
theorem d_Fr_add_4 : decode b_Fr_add 4 = .ok (.ifCond .ne 23, 3) := by decide +kernel
theorem d_Fr_add_7 : decode b_Fr_add 7 = .ok (.aload_n 0, 1) := by decide +kernel
theorem d_Fr_add_8 : decode b_Fr_add 8 = .ok (.getfield 9, 3) := by decide +kernel
theorem d_Fr_add_11 : decode b_Fr_add 11 = .ok (.aload_n 0, 1) := by decide +kernel
theorem d_Fr_add_12 : decode b_Fr_add 12 = .ok (.getfield 15, 3) := by decide +kernel
theorem d_Fr_add_15 : decode b_Fr_add 15 = .ok (.iload_n 1, 1) := by decide +kernel
theorem d_Fr_add_16 : decode b_Fr_add 16 = .ok (.iastore, 1) := by decide +kernel
theorem d_Fr_add_17 : decode b_Fr_add 17 = .ok (.aload_n 0, 1) := by decide +kernel
theorem d_Fr_add_18 : decode b_Fr_add 18 = .ok (.dup, 1) := by decide +kernel
theorem d_Fr_add_19 : decode b_Fr_add 19 = .ok (.getfield 15, 3) := by decide +kernel
theorem d_Fr_add_22 : decode b_Fr_add 22 = .ok (.iconst 1, 1) := by decide +kernel
theorem d_Fr_add_23 : decode b_Fr_add 23 = .ok (.iadd, 1) := by decide +kernel
theorem d_Fr_add_24 : decode b_Fr_add 24 = .ok (.putfield 15, 3) := by decide +kernel
theorem d_Fr_add_27 : decode b_Fr_add 27 = .ok (.return_, 1) := by decide +kernel
theorem d_L_filter_0 : decode b_L_filter 0 = .ok (.aload_n 0, 1) := by decide +kernel
theorem d_L_filter_1 : decode b_L_filter 1 = .ok (.iload_n 1, 1) := by decide +kernel
theorem d_L_filter_2 : decode b_L_filter 2 = .ok (.iload_n 2, 1) := by decide +kernel
theorem d_L_filter_3 : decode b_L_filter 3 = .ok (.iload_n 3, 1) := by decide +kernel
theorem d_L_filter_4 : decode b_L_filter 4 = .ok (.invokevirtual 17, 3) := by decide +kernel
theorem d_L_filter_7 : decode b_L_filter 7 = .ok (.goto 7, 3) := by decide +kernel
theorem d_L_filter_10 : decode b_L_filter 10 = .ok (.astore 4, 2) := by decide +kernel
theorem d_L_filter_12 : decode b_L_filter 12 = .ok (.iconst 1, 1) := by decide +kernel
theorem d_L_filter_13 : decode b_L_filter 13 = .ok (.ireturn, 1) := by decide +kernel
theorem d_L_filter_14 : decode b_L_filter 14 = .ok (.iconst 0, 1) := by decide +kernel
theorem d_L_filter_15 : decode b_L_filter 15 = .ok (.ireturn, 1) := by decide +kernel
theorem d_X_filter_0 : decode b_X_filter 0 = .ok (.aload_n 0, 1) := by decide +kernel
theorem d_X_filter_1 : decode b_X_filter 1 = .ok (.iload_n 1, 1) := by decide +kernel
theorem d_X_filter_2 : decode b_X_filter 2 = .ok (.invokevirtual 32, 3) := by decide +kernel
theorem d_X_filter_5 : decode b_X_filter 5 = .ok (.astore 4, 2) := by decide +kernel
theorem d_X_filter_7 : decode b_X_filter 7 = .ok (.iload_n 2, 1) := by decide +kernel
theorem d_X_filter_8 : decode b_X_filter 8 = .ok (.invokestatic 36, 3) := by decide +kernel
theorem d_X_filter_11 : decode b_X_filter 11 = .ok (.ifCond .eq 10, 3) := by decide +kernel
theorem d_X_filter_14 : decode b_X_filter 14 = .ok (.iload_n 3, 1) := by decide +kernel
theorem d_X_filter_15 : decode b_X_filter 15 = .ok (.invokestatic 36, 3) := by decide +kernel
theorem d_X_filter_18 : decode b_X_filter 18 = .ok (.ifCond .ne 13, 3) := by decide +kernel
theorem d_X_filter_21 : decode b_X_filter 21 = .ok (.new 40, 3) := by decide +kernel
theorem d_X_filter_24 : decode b_X_filter 24 = .ok (.dup, 1) := by decide +kernel
theorem d_X_filter_25 : decode b_X_filter 25 = .ok (.ldc 77, 2) := by decide +kernel
theorem d_X_filter_27 : decode b_X_filter 27 = .ok (.invokespecial 44, 3) := by decide +kernel
theorem d_X_filter_30 : decode b_X_filter 30 = .ok (.athrow, 1) := by decide +kernel
theorem d_X_filter_31 : decode b_X_filter 31 = .ok (.aload 4, 2) := by decide +kernel
theorem d_X_filter_33 : decode b_X_filter 33 = .ok (.iload_n 2, 1) := by decide +kernel
theorem d_X_filter_34 : decode b_X_filter 34 = .ok (.putfield 79, 3) := by decide +kernel
theorem d_X_filter_37 : decode b_X_filter 37 = .ok (.aload 4, 2) := by decide +kernel
theorem d_X_filter_39 : decode b_X_filter 39 = .ok (.iload_n 3, 1) := by decide +kernel
theorem d_X_filter_40 : decode b_X_filter 40 = .ok (.putfield 82, 3) := by decide +kernel
theorem d_X_filter_43 : decode b_X_filter 43 = .ok (.return_, 1) := by decide +kernel
theorem d_L_disturb_0 : decode b_L_disturb 0 = .ok (.aload_n 0, 1) := by decide +kernel
theorem d_L_disturb_1 : decode b_L_disturb 1 = .ok (.iload_n 1, 1) := by decide +kernel
theorem d_L_disturb_2 : decode b_L_disturb 2 = .ok (.iload_n 2, 1) := by decide +kernel
theorem d_L_disturb_3 : decode b_L_disturb 3 = .ok (.invokevirtual 21, 3) := by decide +kernel
theorem d_L_disturb_6 : decode b_L_disturb 6 = .ok (.goto 6, 3) := by decide +kernel
theorem d_L_disturb_9 : decode b_L_disturb 9 = .ok (.astore_n 3, 1) := by decide +kernel
theorem d_L_disturb_10 : decode b_L_disturb 10 = .ok (.iconst 1, 1) := by decide +kernel
theorem d_L_disturb_11 : decode b_L_disturb 11 = .ok (.ireturn, 1) := by decide +kernel
theorem d_L_disturb_12 : decode b_L_disturb 12 = .ok (.iconst 0, 1) := by decide +kernel
theorem d_L_disturb_13 : decode b_L_disturb 13 = .ok (.ireturn, 1) := by decide +kernel
theorem d_X_disturb_0 : decode b_X_disturb 0 = .ok (.aload_n 0, 1) := by decide +kernel
theorem d_X_disturb_1 : decode b_X_disturb 1 = .ok (.iload_n 1, 1) := by decide +kernel
theorem d_X_disturb_2 : decode b_X_disturb 2 = .ok (.invokevirtual 32, 3) := by decide +kernel
theorem d_X_disturb_5 : decode b_X_disturb 5 = .ok (.astore_n 3, 1) := by decide +kernel
theorem d_X_disturb_6 : decode b_X_disturb 6 = .ok (.iload_n 2, 1) := by decide +kernel
theorem d_X_disturb_7 : decode b_X_disturb 7 = .ok (.invokestatic 85, 3) := by decide +kernel
theorem d_X_disturb_10 : decode b_X_disturb 10 = .ok (.aload_n 3, 1) := by decide +kernel
theorem d_X_disturb_11 : decode b_X_disturb 11 = .ok (.getfield 88, 3) := by decide +kernel
theorem d_X_disturb_14 : decode b_X_disturb 14 = .ok (.iload_n 2, 1) := by decide +kernel
theorem d_X_disturb_15 : decode b_X_disturb 15 = .ok (.invokevirtual 92, 3) := by decide +kernel
theorem d_X_disturb_18 : decode b_X_disturb 18 = .ok (.return_, 1) := by decide +kernel
theorem d_X_checkBitTimes_0 : decode b_X_checkBitTimes 0 = .ok (.iload_n 0, 1) := by decide +kernel
theorem d_X_checkBitTimes_1 : decode b_X_checkBitTimes 1 = .ok (.iconst 1, 1) := by decide +kernel
theorem d_X_checkBitTimes_2 : decode b_X_checkBitTimes 2 = .ok (.if_icmp .lt 10, 3) := by decide +kernel
theorem d_X_checkBitTimes_5 : decode b_X_checkBitTimes 5 = .ok (.iload_n 0, 1) := by decide +kernel
theorem d_X_checkBitTimes_6 : decode b_X_checkBitTimes 6 = .ok (.sipush 200, 3) := by decide +kernel
theorem d_X_checkBitTimes_9 : decode b_X_checkBitTimes 9 = .ok (.if_icmp .le 13, 3) := by decide +kernel
theorem d_X_checkBitTimes_12 : decode b_X_checkBitTimes 12 = .ok (.new 40, 3) := by decide +kernel
theorem d_X_checkBitTimes_15 : decode b_X_checkBitTimes 15 = .ok (.dup, 1) := by decide +kernel
theorem d_X_checkBitTimes_16 : decode b_X_checkBitTimes 16 = .ok (.ldc 124, 2) := by decide +kernel
theorem d_X_checkBitTimes_18 : decode b_X_checkBitTimes 18 = .ok (.invokespecial 44, 3) := by decide +kernel
theorem d_X_checkBitTimes_21 : decode b_X_checkBitTimes 21 = .ok (.athrow, 1) := by decide +kernel
theorem d_X_checkBitTimes_22 : decode b_X_checkBitTimes 22 = .ok (.return_, 1) := by decide +kernel
theorem d_Di_mark_0 : decode b_Di_mark 0 = .ok (.aload_n 0, 1) := by decide +kernel
theorem d_Di_mark_1 : decode b_Di_mark 1 = .ok (.getfield 9, 3) := by decide +kernel
theorem d_Di_mark_4 : decode b_Di_mark 4 = .ok (.aload_n 0, 1) := by decide +kernel
theorem d_Di_mark_5 : decode b_Di_mark 5 = .ok (.getfield 15, 3) := by decide +kernel
theorem d_Di_mark_8 : decode b_Di_mark 8 = .ok (.iload_n 1, 1) := by decide +kernel
theorem d_Di_mark_9 : decode b_Di_mark 9 = .ok (.iadd, 1) := by decide +kernel
theorem d_Di_mark_10 : decode b_Di_mark 10 = .ok (.aload_n 0, 1) := by decide +kernel
theorem d_Di_mark_11 : decode b_Di_mark 11 = .ok (.getfield 9, 3) := by decide +kernel
theorem d_Di_mark_14 : decode b_Di_mark 14 = .ok (.arraylength, 1) := by decide +kernel
theorem d_Di_mark_15 : decode b_Di_mark 15 = .ok (.invokestatic 19, 3) := by decide +kernel
theorem d_Di_mark_18 : decode b_Di_mark 18 = .ok (.iconst 1, 1) := by decide +kernel
theorem d_Di_mark_19 : decode b_Di_mark 19 = .ok (.bastore, 1) := by decide +kernel
theorem d_Di_mark_20 : decode b_Di_mark 20 = .ok (.return_, 1) := by decide +kernel
theorem d_Ma_floorMod_0 : decode b_Ma_floorMod 0 = .ok (.iload_n 0, 1) := by decide +kernel
theorem d_Ma_floorMod_1 : decode b_Ma_floorMod 1 = .ok (.iload_n 1, 1) := by decide +kernel
theorem d_Ma_floorMod_2 : decode b_Ma_floorMod 2 = .ok (.irem, 1) := by decide +kernel
theorem d_Ma_floorMod_3 : decode b_Ma_floorMod 3 = .ok (.istore_n 2, 1) := by decide +kernel
theorem d_Ma_floorMod_4 : decode b_Ma_floorMod 4 = .ok (.iload_n 0, 1) := by decide +kernel
theorem d_Ma_floorMod_5 : decode b_Ma_floorMod 5 = .ok (.iload_n 1, 1) := by decide +kernel
theorem d_Ma_floorMod_6 : decode b_Ma_floorMod 6 = .ok (.ixor, 1) := by decide +kernel
theorem d_Ma_floorMod_7 : decode b_Ma_floorMod 7 = .ok (.ifCond .ge 11, 3) := by decide +kernel
theorem d_Ma_floorMod_10 : decode b_Ma_floorMod 10 = .ok (.iload_n 2, 1) := by decide +kernel
theorem d_Ma_floorMod_11 : decode b_Ma_floorMod 11 = .ok (.ifCond .eq 7, 3) := by decide +kernel
theorem d_Ma_floorMod_14 : decode b_Ma_floorMod 14 = .ok (.iload_n 2, 1) := by decide +kernel
theorem d_Ma_floorMod_15 : decode b_Ma_floorMod 15 = .ok (.iload_n 1, 1) := by decide +kernel
theorem d_Ma_floorMod_16 : decode b_Ma_floorMod 16 = .ok (.iadd, 1) := by decide +kernel
theorem d_Ma_floorMod_17 : decode b_Ma_floorMod 17 = .ok (.ireturn, 1) := by decide +kernel
theorem d_Ma_floorMod_18 : decode b_Ma_floorMod 18 = .ok (.iload_n 2, 1) := by decide +kernel
theorem d_Ma_floorMod_19 : decode b_Ma_floorMod 19 = .ok (.ireturn, 1) := by decide +kernel
theorem d_L_pass_0 : decode b_L_pass 0 = .ok (.aload_n 2, 1) := by decide +kernel
theorem d_L_pass_1 : decode b_L_pass 1 = .ok (.iconst 0, 1) := by decide +kernel
theorem d_L_pass_2 : decode b_L_pass 2 = .ok (.aload_n 0, 1) := by decide +kernel
theorem d_L_pass_3 : decode b_L_pass 3 = .ok (.iload_n 1, 1) := by decide +kernel
theorem d_L_pass_4 : decode b_L_pass 4 = .ok (.invokevirtual 25, 3) := by decide +kernel
theorem d_L_pass_7 : decode b_L_pass 7 = .ok (.i2l, 1) := by decide +kernel
theorem d_L_pass_8 : decode b_L_pass 8 = .ok (.lastore, 1) := by decide +kernel
theorem d_L_pass_9 : decode b_L_pass 9 = .ok (.goto 6, 3) := by decide +kernel
theorem d_L_pass_12 : decode b_L_pass 12 = .ok (.astore_n 3, 1) := by decide +kernel
theorem d_L_pass_13 : decode b_L_pass 13 = .ok (.iconst 1, 1) := by decide +kernel
theorem d_L_pass_14 : decode b_L_pass 14 = .ok (.ireturn, 1) := by decide +kernel
theorem d_L_pass_15 : decode b_L_pass 15 = .ok (.iconst 0, 1) := by decide +kernel
theorem d_L_pass_16 : decode b_L_pass 16 = .ok (.ireturn, 1) := by decide +kernel
theorem d_X_pass_0 : decode b_X_pass 0 = .ok (.iload_n 1, 1) := by decide +kernel
theorem d_X_pass_1 : decode b_X_pass 1 = .ok (.invokestatic 85, 3) := by decide +kernel
theorem d_X_pass_4 : decode b_X_pass 4 = .ok (.aload_n 0, 1) := by decide +kernel
theorem d_X_pass_5 : decode b_X_pass 5 = .ok (.getfield 13, 3) := by decide +kernel
theorem d_X_pass_8 : decode b_X_pass 8 = .ok (.iconst 1, 1) := by decide +kernel
theorem d_X_pass_9 : decode b_X_pass 9 = .ok (.iaload, 1) := by decide +kernel
theorem d_X_pass_10 : decode b_X_pass 10 = .ok (.istore_n 2, 1) := by decide +kernel
theorem d_X_pass_11 : decode b_X_pass 11 = .ok (.iconst 0, 1) := by decide +kernel
theorem d_X_pass_12 : decode b_X_pass 12 = .ok (.istore_n 3, 1) := by decide +kernel
theorem d_X_pass_13 : decode b_X_pass 13 = .ok (.iload_n 3, 1) := by decide +kernel
theorem d_X_pass_14 : decode b_X_pass 14 = .ok (.iload_n 1, 1) := by decide +kernel
theorem d_X_pass_15 : decode b_X_pass 15 = .ok (.if_icmp .ge 13, 3) := by decide +kernel
theorem d_X_pass_18 : decode b_X_pass 18 = .ok (.aload_n 0, 1) := by decide +kernel
theorem d_X_pass_19 : decode b_X_pass 19 = .ok (.invokevirtual 97, 3) := by decide +kernel
theorem d_X_pass_22 : decode b_X_pass 22 = .ok (.iinc 3 1, 3) := by decide +kernel
theorem d_X_pass_25 : decode b_X_pass 25 = .ok (.goto (-12), 3) := by decide +kernel
theorem d_X_pass_28 : decode b_X_pass 28 = .ok (.aload_n 0, 1) := by decide +kernel
theorem d_X_pass_29 : decode b_X_pass 29 = .ok (.getfield 13, 3) := by decide +kernel
theorem d_X_pass_32 : decode b_X_pass 32 = .ok (.iconst 1, 1) := by decide +kernel
theorem d_X_pass_33 : decode b_X_pass 33 = .ok (.iaload, 1) := by decide +kernel
theorem d_X_pass_34 : decode b_X_pass 34 = .ok (.iload_n 2, 1) := by decide +kernel
theorem d_X_pass_35 : decode b_X_pass 35 = .ok (.isub, 1) := by decide +kernel
theorem d_X_pass_36 : decode b_X_pass 36 = .ok (.ireturn, 1) := by decide +kernel
theorem d_X_passOne_0 : decode b_X_passOne 0 = .ok (.iconst 1, 1) := by decide +kernel
theorem d_X_passOne_1 : decode b_X_passOne 1 = .ok (.istore_n 1, 1) := by decide +kernel
theorem d_X_passOne_2 : decode b_X_passOne 2 = .ok (.iconst 0, 1) := by decide +kernel
theorem d_X_passOne_3 : decode b_X_passOne 3 = .ok (.istore_n 2, 1) := by decide +kernel
theorem d_X_passOne_4 : decode b_X_passOne 4 = .ok (.iload_n 2, 1) := by decide +kernel
theorem d_X_passOne_5 : decode b_X_passOne 5 = .ok (.aload_n 0, 1) := by decide +kernel
theorem d_X_passOne_6 : decode b_X_passOne 6 = .ok (.getfield 27, 3) := by decide +kernel
theorem d_X_passOne_9 : decode b_X_passOne 9 = .ok (.arraylength, 1) := by decide +kernel
theorem d_X_passOne_10 : decode b_X_passOne 10 = .ok (.if_icmp .ge 21, 3) := by decide +kernel
theorem d_X_passOne_13 : decode b_X_passOne 13 = .ok (.iload_n 1, 1) := by decide +kernel
theorem d_X_passOne_14 : decode b_X_passOne 14 = .ok (.aload_n 0, 1) := by decide +kernel
theorem d_X_passOne_15 : decode b_X_passOne 15 = .ok (.getfield 27, 3) := by decide +kernel
theorem d_X_passOne_18 : decode b_X_passOne 18 = .ok (.iload_n 2, 1) := by decide +kernel
theorem d_X_passOne_19 : decode b_X_passOne 19 = .ok (.aaload, 1) := by decide +kernel
theorem d_X_passOne_20 : decode b_X_passOne 20 = .ok (.invokevirtual 126, 3) := by decide +kernel
theorem d_X_passOne_23 : decode b_X_passOne 23 = .ok (.iand, 1) := by decide +kernel
theorem d_X_passOne_24 : decode b_X_passOne 24 = .ok (.istore_n 1, 1) := by decide +kernel
theorem d_X_passOne_25 : decode b_X_passOne 25 = .ok (.iinc 2 1, 3) := by decide +kernel
theorem d_X_passOne_28 : decode b_X_passOne 28 = .ok (.goto (-24), 3) := by decide +kernel
theorem d_X_passOne_31 : decode b_X_passOne 31 = .ok (.iconst 0, 1) := by decide +kernel
theorem d_X_passOne_32 : decode b_X_passOne 32 = .ok (.istore_n 2, 1) := by decide +kernel
theorem d_X_passOne_33 : decode b_X_passOne 33 = .ok (.iload_n 2, 1) := by decide +kernel
theorem d_X_passOne_34 : decode b_X_passOne 34 = .ok (.aload_n 0, 1) := by decide +kernel
theorem d_X_passOne_35 : decode b_X_passOne 35 = .ok (.getfield 27, 3) := by decide +kernel
theorem d_X_passOne_38 : decode b_X_passOne 38 = .ok (.arraylength, 1) := by decide +kernel
theorem d_X_passOne_39 : decode b_X_passOne 39 = .ok (.if_icmp .ge 34, 3) := by decide +kernel
theorem d_X_passOne_42 : decode b_X_passOne 42 = .ok (.aload_n 0, 1) := by decide +kernel
theorem d_X_passOne_43 : decode b_X_passOne 43 = .ok (.getfield 27, 3) := by decide +kernel
theorem d_X_passOne_46 : decode b_X_passOne 46 = .ok (.iload_n 2, 1) := by decide +kernel
theorem d_X_passOne_47 : decode b_X_passOne 47 = .ok (.aaload, 1) := by decide +kernel
theorem d_X_passOne_48 : decode b_X_passOne 48 = .ok (.iload_n 1, 1) := by decide +kernel
theorem d_X_passOne_49 : decode b_X_passOne 49 = .ok (.invokevirtual 130, 3) := by decide +kernel
theorem d_X_passOne_52 : decode b_X_passOne 52 = .ok (.istore_n 3, 1) := by decide +kernel
theorem d_X_passOne_53 : decode b_X_passOne 53 = .ok (.iload_n 3, 1) := by decide +kernel
theorem d_X_passOne_54 : decode b_X_passOne 54 = .ok (.ifCond .eq 13, 3) := by decide +kernel
theorem d_X_passOne_57 : decode b_X_passOne 57 = .ok (.aload_n 0, 1) := by decide +kernel
theorem d_X_passOne_58 : decode b_X_passOne 58 = .ok (.getfield 13, 3) := by decide +kernel
theorem d_X_passOne_61 : decode b_X_passOne 61 = .ok (.iload_n 3, 1) := by decide +kernel
theorem d_X_passOne_62 : decode b_X_passOne 62 = .ok (.dup2, 1) := by decide +kernel
theorem d_X_passOne_63 : decode b_X_passOne 63 = .ok (.iaload, 1) := by decide +kernel
theorem d_X_passOne_64 : decode b_X_passOne 64 = .ok (.iconst 1, 1) := by decide +kernel
theorem d_X_passOne_65 : decode b_X_passOne 65 = .ok (.iadd, 1) := by decide +kernel
theorem d_X_passOne_66 : decode b_X_passOne 66 = .ok (.iastore, 1) := by decide +kernel
theorem d_X_passOne_67 : decode b_X_passOne 67 = .ok (.iinc 2 1, 3) := by decide +kernel
theorem d_X_passOne_70 : decode b_X_passOne 70 = .ok (.goto (-37), 3) := by decide +kernel
theorem d_X_passOne_73 : decode b_X_passOne 73 = .ok (.aload_n 0, 1) := by decide +kernel
theorem d_X_passOne_74 : decode b_X_passOne 74 = .ok (.getfield 9, 3) := by decide +kernel
theorem d_X_passOne_77 : decode b_X_passOne 77 = .ok (.aload_n 0, 1) := by decide +kernel
theorem d_X_passOne_78 : decode b_X_passOne 78 = .ok (.getfield 13, 3) := by decide +kernel
theorem d_X_passOne_81 : decode b_X_passOne 81 = .ok (.iconst 0, 1) := by decide +kernel
theorem d_X_passOne_82 : decode b_X_passOne 82 = .ok (.iaload, 1) := by decide +kernel
theorem d_X_passOne_83 : decode b_X_passOne 83 = .ok (.bipush 64, 2) := by decide +kernel
theorem d_X_passOne_85 : decode b_X_passOne 85 = .ok (.invokestatic 133, 3) := by decide +kernel
theorem d_X_passOne_88 : decode b_X_passOne 88 = .ok (.iload_n 1, 1) := by decide +kernel
theorem d_X_passOne_89 : decode b_X_passOne 89 = .ok (.iastore, 1) := by decide +kernel
theorem d_X_passOne_90 : decode b_X_passOne 90 = .ok (.aload_n 0, 1) := by decide +kernel
theorem d_X_passOne_91 : decode b_X_passOne 91 = .ok (.getfield 13, 3) := by decide +kernel
theorem d_X_passOne_94 : decode b_X_passOne 94 = .ok (.iconst 0, 1) := by decide +kernel
theorem d_X_passOne_95 : decode b_X_passOne 95 = .ok (.dup2, 1) := by decide +kernel
theorem d_X_passOne_96 : decode b_X_passOne 96 = .ok (.iaload, 1) := by decide +kernel
theorem d_X_passOne_97 : decode b_X_passOne 97 = .ok (.iconst 1, 1) := by decide +kernel
theorem d_X_passOne_98 : decode b_X_passOne 98 = .ok (.iadd, 1) := by decide +kernel
theorem d_X_passOne_99 : decode b_X_passOne 99 = .ok (.iastore, 1) := by decide +kernel
theorem d_X_passOne_100 : decode b_X_passOne 100 = .ok (.return_, 1) := by decide +kernel
theorem d_No_drive_0 : decode b_No_drive 0 = .ok (.aload_n 0, 1) := by decide +kernel
theorem d_No_drive_1 : decode b_No_drive 1 = .ok (.getfield 42, 3) := by decide +kernel
theorem d_No_drive_4 : decode b_No_drive 4 = .ok (.ifCond .ne 17, 3) := by decide +kernel
theorem d_No_drive_7 : decode b_No_drive 7 = .ok (.aload_n 0, 1) := by decide +kernel
theorem d_No_drive_8 : decode b_No_drive 8 = .ok (.getfield 12, 3) := by decide +kernel
theorem d_No_drive_11 : decode b_No_drive 11 = .ok (.getfield 83, 3) := by decide +kernel
theorem d_No_drive_14 : decode b_No_drive 14 = .ok (.ifCond .le 7, 3) := by decide +kernel
theorem d_No_drive_17 : decode b_No_drive 17 = .ok (.aload_n 0, 1) := by decide +kernel
theorem d_No_drive_18 : decode b_No_drive 18 = .ok (.invokevirtual 86, 3) := by decide +kernel
theorem d_No_drive_21 : decode b_No_drive 21 = .ok (.aload_n 0, 1) := by decide +kernel
theorem d_No_drive_22 : decode b_No_drive 22 = .ok (.aload_n 0, 1) := by decide +kernel
theorem d_No_drive_23 : decode b_No_drive 23 = .ok (.invokevirtual 89, 3) := by decide +kernel
theorem d_No_drive_26 : decode b_No_drive 26 = .ok (.putfield 67, 3) := by decide +kernel
theorem d_No_drive_29 : decode b_No_drive 29 = .ok (.aload_n 0, 1) := by decide +kernel
theorem d_No_drive_30 : decode b_No_drive 30 = .ok (.getfield 67, 3) := by decide +kernel
theorem d_No_drive_33 : decode b_No_drive 33 = .ok (.ireturn, 1) := by decide +kernel
theorem d_No_beginToSend_0 : decode b_No_beginToSend 0 = .ok (.aload_n 0, 1) := by decide +kernel
theorem d_No_beginToSend_1 : decode b_No_beginToSend 1 = .ok (.aload_n 0, 1) := by decide +kernel
theorem d_No_beginToSend_2 : decode b_No_beginToSend 2 = .ok (.getfield 12, 3) := by decide +kernel
theorem d_No_beginToSend_5 : decode b_No_beginToSend 5 = .ok (.invokevirtual 143, 3) := by decide +kernel
theorem d_No_beginToSend_8 : decode b_No_beginToSend 8 = .ok (.putfield 64, 3) := by decide +kernel
theorem d_No_beginToSend_11 : decode b_No_beginToSend 11 = .ok (.aload_n 0, 1) := by decide +kernel
theorem d_No_beginToSend_12 : decode b_No_beginToSend 12 = .ok (.getfield 31, 3) := by decide +kernel
theorem d_No_beginToSend_15 : decode b_No_beginToSend 15 = .ok (.aload_n 0, 1) := by decide +kernel
theorem d_No_beginToSend_16 : decode b_No_beginToSend 16 = .ok (.getfield 12, 3) := by decide +kernel
theorem d_No_beginToSend_19 : decode b_No_beginToSend 19 = .ok (.aload_n 0, 1) := by decide +kernel
theorem d_No_beginToSend_20 : decode b_No_beginToSend 20 = .ok (.getfield 64, 3) := by decide +kernel
theorem d_No_beginToSend_23 : decode b_No_beginToSend 23 = .ok (.invokevirtual 146, 3) := by decide +kernel
theorem d_No_beginToSend_26 : decode b_No_beginToSend 26 = .ok (.invokevirtual 149, 3) := by decide +kernel
theorem d_No_beginToSend_29 : decode b_No_beginToSend 29 = .ok (.aload_n 0, 1) := by decide +kernel
theorem d_No_beginToSend_30 : decode b_No_beginToSend 30 = .ok (.getfield 38, 3) := by decide +kernel
theorem d_No_beginToSend_33 : decode b_No_beginToSend 33 = .ok (.invokevirtual 153, 3) := by decide +kernel
theorem d_No_beginToSend_36 : decode b_No_beginToSend 36 = .ok (.aload_n 0, 1) := by decide +kernel
theorem d_No_beginToSend_37 : decode b_No_beginToSend 37 = .ok (.iconst 1, 1) := by decide +kernel
theorem d_No_beginToSend_38 : decode b_No_beginToSend 38 = .ok (.putfield 42, 3) := by decide +kernel
theorem d_No_beginToSend_41 : decode b_No_beginToSend 41 = .ok (.aload_n 0, 1) := by decide +kernel
theorem d_No_beginToSend_42 : decode b_No_beginToSend 42 = .ok (.iconst 1, 1) := by decide +kernel
theorem d_No_beginToSend_43 : decode b_No_beginToSend 43 = .ok (.putfield 46, 3) := by decide +kernel
theorem d_No_beginToSend_46 : decode b_No_beginToSend 46 = .ok (.return_, 1) := by decide +kernel
theorem d_Fr_placeOfLeastId_0 : decode b_Fr_placeOfLeastId 0 = .ok (.iconst 0, 1) := by decide +kernel
theorem d_Fr_placeOfLeastId_1 : decode b_Fr_placeOfLeastId 1 = .ok (.istore_n 1, 1) := by decide +kernel
theorem d_Fr_placeOfLeastId_2 : decode b_Fr_placeOfLeastId 2 = .ok (.iconst 1, 1) := by decide +kernel
theorem d_Fr_placeOfLeastId_3 : decode b_Fr_placeOfLeastId 3 = .ok (.istore_n 2, 1) := by decide +kernel
theorem d_Fr_placeOfLeastId_4 : decode b_Fr_placeOfLeastId 4 = .ok (.iload_n 2, 1) := by decide +kernel
theorem d_Fr_placeOfLeastId_5 : decode b_Fr_placeOfLeastId 5 = .ok (.aload_n 0, 1) := by decide +kernel
theorem d_Fr_placeOfLeastId_6 : decode b_Fr_placeOfLeastId 6 = .ok (.getfield 15, 3) := by decide +kernel
theorem d_Fr_placeOfLeastId_9 : decode b_Fr_placeOfLeastId 9 = .ok (.if_icmp .ge 32, 3) := by decide +kernel
theorem d_Fr_placeOfLeastId_12 : decode b_Fr_placeOfLeastId 12 = .ok (.aload_n 0, 1) := by decide +kernel
theorem d_Fr_placeOfLeastId_13 : decode b_Fr_placeOfLeastId 13 = .ok (.getfield 9, 3) := by decide +kernel
theorem d_Fr_placeOfLeastId_16 : decode b_Fr_placeOfLeastId 16 = .ok (.iload_n 2, 1) := by decide +kernel
theorem d_Fr_placeOfLeastId_17 : decode b_Fr_placeOfLeastId 17 = .ok (.iaload, 1) := by decide +kernel
theorem d_Fr_placeOfLeastId_18 : decode b_Fr_placeOfLeastId 18 = .ok (.invokestatic 23, 3) := by decide +kernel
theorem d_Fr_placeOfLeastId_21 : decode b_Fr_placeOfLeastId 21 = .ok (.aload_n 0, 1) := by decide +kernel
theorem d_Fr_placeOfLeastId_22 : decode b_Fr_placeOfLeastId 22 = .ok (.getfield 9, 3) := by decide +kernel
theorem d_Fr_placeOfLeastId_25 : decode b_Fr_placeOfLeastId 25 = .ok (.iload_n 1, 1) := by decide +kernel
theorem d_Fr_placeOfLeastId_26 : decode b_Fr_placeOfLeastId 26 = .ok (.iaload, 1) := by decide +kernel
theorem d_Fr_placeOfLeastId_27 : decode b_Fr_placeOfLeastId 27 = .ok (.invokestatic 23, 3) := by decide +kernel
theorem d_Fr_placeOfLeastId_30 : decode b_Fr_placeOfLeastId 30 = .ok (.if_icmp .ge 5, 3) := by decide +kernel
theorem d_Fr_placeOfLeastId_33 : decode b_Fr_placeOfLeastId 33 = .ok (.iload_n 2, 1) := by decide +kernel
theorem d_Fr_placeOfLeastId_34 : decode b_Fr_placeOfLeastId 34 = .ok (.istore_n 1, 1) := by decide +kernel
theorem d_Fr_placeOfLeastId_35 : decode b_Fr_placeOfLeastId 35 = .ok (.iinc 2 1, 3) := by decide +kernel
theorem d_Fr_placeOfLeastId_38 : decode b_Fr_placeOfLeastId 38 = .ok (.goto (-34), 3) := by decide +kernel
theorem d_Fr_placeOfLeastId_41 : decode b_Fr_placeOfLeastId 41 = .ok (.iload_n 1, 1) := by decide +kernel
theorem d_Fr_placeOfLeastId_42 : decode b_Fr_placeOfLeastId 42 = .ok (.ireturn, 1) := by decide +kernel
theorem d_Fr_idOf_0 : decode b_Fr_idOf 0 = .ok (.iload_n 0, 1) := by decide +kernel
theorem d_Fr_idOf_1 : decode b_Fr_idOf 1 = .ok (.sipush 2047, 3) := by decide +kernel
theorem d_Fr_idOf_4 : decode b_Fr_idOf 4 = .ok (.iand, 1) := by decide +kernel
theorem d_Fr_idOf_5 : decode b_Fr_idOf 5 = .ok (.ireturn, 1) := by decide +kernel
theorem d_Fr_at_0 : decode b_Fr_at 0 = .ok (.iload_n 1, 1) := by decide +kernel
theorem d_Fr_at_1 : decode b_Fr_at 1 = .ok (.ifCond .lt 20, 3) := by decide +kernel
theorem d_Fr_at_4 : decode b_Fr_at 4 = .ok (.iload_n 1, 1) := by decide +kernel
theorem d_Fr_at_5 : decode b_Fr_at 5 = .ok (.aload_n 0, 1) := by decide +kernel
theorem d_Fr_at_6 : decode b_Fr_at 6 = .ok (.getfield 15, 3) := by decide +kernel
theorem d_Fr_at_9 : decode b_Fr_at 9 = .ok (.if_icmp .ge 12, 3) := by decide +kernel
theorem d_Fr_at_12 : decode b_Fr_at 12 = .ok (.aload_n 0, 1) := by decide +kernel
theorem d_Fr_at_13 : decode b_Fr_at 13 = .ok (.getfield 9, 3) := by decide +kernel
theorem d_Fr_at_16 : decode b_Fr_at 16 = .ok (.iload_n 1, 1) := by decide +kernel
theorem d_Fr_at_17 : decode b_Fr_at 17 = .ok (.iaload, 1) := by decide +kernel
theorem d_Fr_at_18 : decode b_Fr_at 18 = .ok (.goto 4, 3) := by decide +kernel
theorem d_Fr_at_21 : decode b_Fr_at 21 = .ok (.iconst 0, 1) := by decide +kernel
theorem d_Fr_at_22 : decode b_Fr_at 22 = .ok (.ireturn, 1) := by decide +kernel
theorem d_Co_write_0 : decode b_Co_write 0 = .ok (.iload_n 1, 1) := by decide +kernel
theorem d_Co_write_1 : decode b_Co_write 1 = .ok (.invokestatic 22, 3) := by decide +kernel
theorem d_Co_write_4 : decode b_Co_write 4 = .ok (.istore_n 2, 1) := by decide +kernel
theorem d_Co_write_5 : decode b_Co_write 5 = .ok (.iload_n 1, 1) := by decide +kernel
theorem d_Co_write_6 : decode b_Co_write 6 = .ok (.invokestatic 28, 3) := by decide +kernel
theorem d_Co_write_9 : decode b_Co_write 9 = .ok (.istore_n 3, 1) := by decide +kernel
theorem d_Co_write_10 : decode b_Co_write 10 = .ok (.aload_n 0, 1) := by decide +kernel
theorem d_Co_write_11 : decode b_Co_write 11 = .ok (.iconst 0, 1) := by decide +kernel
theorem d_Co_write_12 : decode b_Co_write 12 = .ok (.putfield 15, 3) := by decide +kernel
theorem d_Co_write_15 : decode b_Co_write 15 = .ok (.aload_n 0, 1) := by decide +kernel
theorem d_Co_write_16 : decode b_Co_write 16 = .ok (.iconst 0, 1) := by decide +kernel
theorem d_Co_write_17 : decode b_Co_write 17 = .ok (.putfield 19, 3) := by decide +kernel
theorem d_Co_write_20 : decode b_Co_write 20 = .ok (.aload_n 0, 1) := by decide +kernel
theorem d_Co_write_21 : decode b_Co_write 21 = .ok (.iconst 0, 1) := by decide +kernel
theorem d_Co_write_22 : decode b_Co_write 22 = .ok (.iconst 1, 1) := by decide +kernel
theorem d_Co_write_23 : decode b_Co_write 23 = .ok (.invokevirtual 31, 3) := by decide +kernel
theorem d_Co_write_26 : decode b_Co_write 26 = .ok (.aload_n 0, 1) := by decide +kernel
theorem d_Co_write_27 : decode b_Co_write 27 = .ok (.iload_n 1, 1) := by decide +kernel
theorem d_Co_write_28 : decode b_Co_write 28 = .ok (.invokestatic 35, 3) := by decide +kernel
theorem d_Co_write_31 : decode b_Co_write 31 = .ok (.bipush 11, 2) := by decide +kernel
theorem d_Co_write_33 : decode b_Co_write 33 = .ok (.invokevirtual 31, 3) := by decide +kernel
theorem d_Co_write_36 : decode b_Co_write 36 = .ok (.aload_n 0, 1) := by decide +kernel
theorem d_Co_write_37 : decode b_Co_write 37 = .ok (.iconst 0, 1) := by decide +kernel
theorem d_Co_write_38 : decode b_Co_write 38 = .ok (.iconst 3, 1) := by decide +kernel
theorem d_Co_write_39 : decode b_Co_write 39 = .ok (.invokevirtual 31, 3) := by decide +kernel
theorem d_Co_write_42 : decode b_Co_write 42 = .ok (.aload_n 0, 1) := by decide +kernel
theorem d_Co_write_43 : decode b_Co_write 43 = .ok (.iload_n 3, 1) := by decide +kernel
theorem d_Co_write_44 : decode b_Co_write 44 = .ok (.iconst 4, 1) := by decide +kernel
theorem d_Co_write_45 : decode b_Co_write 45 = .ok (.invokevirtual 31, 3) := by decide +kernel
theorem d_Co_write_48 : decode b_Co_write 48 = .ok (.iconst 0, 1) := by decide +kernel
theorem d_Co_write_49 : decode b_Co_write 49 = .ok (.istore 4, 2) := by decide +kernel
theorem d_Co_write_51 : decode b_Co_write 51 = .ok (.iload 4, 2) := by decide +kernel
theorem d_Co_write_53 : decode b_Co_write 53 = .ok (.iload_n 3, 1) := by decide +kernel
theorem d_Co_write_54 : decode b_Co_write 54 = .ok (.if_icmp .ge 28, 3) := by decide +kernel
theorem d_Co_write_57 : decode b_Co_write 57 = .ok (.iload 4, 2) := by decide +kernel
theorem d_Co_write_59 : decode b_Co_write 59 = .ok (.iconst 2, 1) := by decide +kernel
theorem d_Co_write_60 : decode b_Co_write 60 = .ok (.if_icmp .ge 22, 3) := by decide +kernel
theorem d_Co_write_63 : decode b_Co_write 63 = .ok (.aload_n 0, 1) := by decide +kernel
theorem d_Co_write_64 : decode b_Co_write 64 = .ok (.iload_n 2, 1) := by decide +kernel
theorem d_Co_write_65 : decode b_Co_write 65 = .ok (.bipush 8, 2) := by decide +kernel
theorem d_Co_write_67 : decode b_Co_write 67 = .ok (.iload 4, 2) := by decide +kernel
theorem d_Co_write_69 : decode b_Co_write 69 = .ok (.imul, 1) := by decide +kernel
theorem d_Co_write_70 : decode b_Co_write 70 = .ok (.ishr, 1) := by decide +kernel
theorem d_Co_write_71 : decode b_Co_write 71 = .ok (.bipush 8, 2) := by decide +kernel
theorem d_Co_write_73 : decode b_Co_write 73 = .ok (.invokevirtual 31, 3) := by decide +kernel
theorem d_Co_write_76 : decode b_Co_write 76 = .ok (.iinc 4 1, 3) := by decide +kernel
theorem d_Co_write_79 : decode b_Co_write 79 = .ok (.goto (-28), 3) := by decide +kernel
theorem d_Co_write_82 : decode b_Co_write 82 = .ok (.aload_n 0, 1) := by decide +kernel
theorem d_Co_write_83 : decode b_Co_write 83 = .ok (.aload_n 0, 1) := by decide +kernel
theorem d_Co_write_84 : decode b_Co_write 84 = .ok (.getfield 19, 3) := by decide +kernel
theorem d_Co_write_87 : decode b_Co_write 87 = .ok (.bipush 15, 2) := by decide +kernel
theorem d_Co_write_89 : decode b_Co_write 89 = .ok (.invokevirtual 31, 3) := by decide +kernel
theorem d_Co_write_92 : decode b_Co_write 92 = .ok (.return_, 1) := by decide +kernel
theorem d_Fr_dataOf_0 : decode b_Fr_dataOf 0 = .ok (.iload_n 0, 1) := by decide +kernel
theorem d_Fr_dataOf_1 : decode b_Fr_dataOf 1 = .ok (.bipush 13, 2) := by decide +kernel
theorem d_Fr_dataOf_3 : decode b_Fr_dataOf 3 = .ok (.ishr, 1) := by decide +kernel
theorem d_Fr_dataOf_4 : decode b_Fr_dataOf 4 = .ok (.ireturn, 1) := by decide +kernel
theorem d_Fr_bytesOf_0 : decode b_Fr_bytesOf 0 = .ok (.iload_n 0, 1) := by decide +kernel
theorem d_Fr_bytesOf_1 : decode b_Fr_bytesOf 1 = .ok (.bipush 11, 2) := by decide +kernel
theorem d_Fr_bytesOf_3 : decode b_Fr_bytesOf 3 = .ok (.ishr, 1) := by decide +kernel
theorem d_Fr_bytesOf_4 : decode b_Fr_bytesOf 4 = .ok (.iconst 3, 1) := by decide +kernel
theorem d_Fr_bytesOf_5 : decode b_Fr_bytesOf 5 = .ok (.iand, 1) := by decide +kernel
theorem d_Fr_bytesOf_6 : decode b_Fr_bytesOf 6 = .ok (.ireturn, 1) := by decide +kernel
theorem d_Co_append_0 : decode b_Co_append 0 = .ok (.iload_n 2, 1) := by decide +kernel
theorem d_Co_append_1 : decode b_Co_append 1 = .ok (.iconst 1, 1) := by decide +kernel
theorem d_Co_append_2 : decode b_Co_append 2 = .ok (.isub, 1) := by decide +kernel
theorem d_Co_append_3 : decode b_Co_append 3 = .ok (.istore_n 3, 1) := by decide +kernel
theorem d_Co_append_4 : decode b_Co_append 4 = .ok (.iload_n 3, 1) := by decide +kernel
theorem d_Co_append_5 : decode b_Co_append 5 = .ok (.ifCond .lt 59, 3) := by decide +kernel
theorem d_Co_append_8 : decode b_Co_append 8 = .ok (.iload_n 1, 1) := by decide +kernel
theorem d_Co_append_9 : decode b_Co_append 9 = .ok (.iload_n 3, 1) := by decide +kernel
theorem d_Co_append_10 : decode b_Co_append 10 = .ok (.ishr, 1) := by decide +kernel
theorem d_Co_append_11 : decode b_Co_append 11 = .ok (.iconst 1, 1) := by decide +kernel
theorem d_Co_append_12 : decode b_Co_append 12 = .ok (.iand, 1) := by decide +kernel
theorem d_Co_append_13 : decode b_Co_append 13 = .ok (.istore 4, 2) := by decide +kernel
theorem d_Co_append_15 : decode b_Co_append 15 = .ok (.aload_n 0, 1) := by decide +kernel
theorem d_Co_append_16 : decode b_Co_append 16 = .ok (.getfield 15, 3) := by decide +kernel
theorem d_Co_append_19 : decode b_Co_append 19 = .ok (.bipush 50, 2) := by decide +kernel
theorem d_Co_append_21 : decode b_Co_append 21 = .ok (.if_icmp .ge 24, 3) := by decide +kernel
theorem d_Co_append_24 : decode b_Co_append 24 = .ok (.aload_n 0, 1) := by decide +kernel
theorem d_Co_append_25 : decode b_Co_append 25 = .ok (.getfield 11, 3) := by decide +kernel
theorem d_Co_append_28 : decode b_Co_append 28 = .ok (.aload_n 0, 1) := by decide +kernel
theorem d_Co_append_29 : decode b_Co_append 29 = .ok (.getfield 15, 3) := by decide +kernel
theorem d_Co_append_32 : decode b_Co_append 32 = .ok (.iload 4, 2) := by decide +kernel
theorem d_Co_append_34 : decode b_Co_append 34 = .ok (.iastore, 1) := by decide +kernel
theorem d_Co_append_35 : decode b_Co_append 35 = .ok (.aload_n 0, 1) := by decide +kernel
theorem d_Co_append_36 : decode b_Co_append 36 = .ok (.dup, 1) := by decide +kernel
theorem d_Co_append_37 : decode b_Co_append 37 = .ok (.getfield 15, 3) := by decide +kernel
theorem d_Co_append_40 : decode b_Co_append 40 = .ok (.iconst 1, 1) := by decide +kernel
theorem d_Co_append_41 : decode b_Co_append 41 = .ok (.iadd, 1) := by decide +kernel
theorem d_Co_append_42 : decode b_Co_append 42 = .ok (.putfield 15, 3) := by decide +kernel
theorem d_Co_append_45 : decode b_Co_append 45 = .ok (.aload_n 0, 1) := by decide +kernel
theorem d_Co_append_46 : decode b_Co_append 46 = .ok (.aload_n 0, 1) := by decide +kernel
theorem d_Co_append_47 : decode b_Co_append 47 = .ok (.getfield 19, 3) := by decide +kernel
theorem d_Co_append_50 : decode b_Co_append 50 = .ok (.iload 4, 2) := by decide +kernel
theorem d_Co_append_52 : decode b_Co_append 52 = .ok (.invokestatic 38, 3) := by decide +kernel
theorem d_Co_append_55 : decode b_Co_append 55 = .ok (.putfield 19, 3) := by decide +kernel
theorem d_Co_append_58 : decode b_Co_append 58 = .ok (.iinc 3 (-1), 3) := by decide +kernel
theorem d_Co_append_61 : decode b_Co_append 61 = .ok (.goto (-57), 3) := by decide +kernel
theorem d_Co_append_64 : decode b_Co_append 64 = .ok (.return_, 1) := by decide +kernel
theorem d_Co_registerBehind_0 : decode b_Co_registerBehind 0 = .ok (.iload_n 0, 1) := by decide +kernel
theorem d_Co_registerBehind_1 : decode b_Co_registerBehind 1 = .ok (.iconst 1, 1) := by decide +kernel
theorem d_Co_registerBehind_2 : decode b_Co_registerBehind 2 = .ok (.ishl, 1) := by decide +kernel
theorem d_Co_registerBehind_3 : decode b_Co_registerBehind 3 = .ok (.sipush 32767, 3) := by decide +kernel
theorem d_Co_registerBehind_6 : decode b_Co_registerBehind 6 = .ok (.iand, 1) := by decide +kernel
theorem d_Co_registerBehind_7 : decode b_Co_registerBehind 7 = .ok (.istore_n 2, 1) := by decide +kernel
theorem d_Co_registerBehind_8 : decode b_Co_registerBehind 8 = .ok (.iload_n 1, 1) := by decide +kernel
theorem d_Co_registerBehind_9 : decode b_Co_registerBehind 9 = .ok (.iload_n 0, 1) := by decide +kernel
theorem d_Co_registerBehind_10 : decode b_Co_registerBehind 10 = .ok (.bipush 14, 2) := by decide +kernel
theorem d_Co_registerBehind_12 : decode b_Co_registerBehind 12 = .ok (.ishr, 1) := by decide +kernel
theorem d_Co_registerBehind_13 : decode b_Co_registerBehind 13 = .ok (.iconst 1, 1) := by decide +kernel
theorem d_Co_registerBehind_14 : decode b_Co_registerBehind 14 = .ok (.iand, 1) := by decide +kernel
theorem d_Co_registerBehind_15 : decode b_Co_registerBehind 15 = .ok (.if_icmp .eq 11, 3) := by decide +kernel
theorem d_Co_registerBehind_18 : decode b_Co_registerBehind 18 = .ok (.iload_n 2, 1) := by decide +kernel
theorem d_Co_registerBehind_19 : decode b_Co_registerBehind 19 = .ok (.sipush 17817, 3) := by decide +kernel
theorem d_Co_registerBehind_22 : decode b_Co_registerBehind 22 = .ok (.ixor, 1) := by decide +kernel
theorem d_Co_registerBehind_23 : decode b_Co_registerBehind 23 = .ok (.goto 4, 3) := by decide +kernel
theorem d_Co_registerBehind_26 : decode b_Co_registerBehind 26 = .ok (.iload_n 2, 1) := by decide +kernel
theorem d_Co_registerBehind_27 : decode b_Co_registerBehind 27 = .ok (.ireturn, 1) := by decide +kernel
theorem d_Re_begin_0 : decode b_Re_begin 0 = .ok (.aload_n 0, 1) := by decide +kernel
theorem d_Re_begin_1 : decode b_Re_begin 1 = .ok (.iconst 0, 1) := by decide +kernel
theorem d_Re_begin_2 : decode b_Re_begin 2 = .ok (.putfield 9, 3) := by decide +kernel
theorem d_Re_begin_5 : decode b_Re_begin 5 = .ok (.aload_n 0, 1) := by decide +kernel
theorem d_Re_begin_6 : decode b_Re_begin 6 = .ok (.bipush 50, 2) := by decide +kernel
theorem d_Re_begin_8 : decode b_Re_begin 8 = .ok (.putfield 17, 3) := by decide +kernel
theorem d_Re_begin_11 : decode b_Re_begin 11 = .ok (.aload_n 0, 1) := by decide +kernel
theorem d_Re_begin_12 : decode b_Re_begin 12 = .ok (.iconst 1, 1) := by decide +kernel
theorem d_Re_begin_13 : decode b_Re_begin 13 = .ok (.putfield 20, 3) := by decide +kernel
theorem d_Re_begin_16 : decode b_Re_begin 16 = .ok (.aload_n 0, 1) := by decide +kernel
theorem d_Re_begin_17 : decode b_Re_begin 17 = .ok (.iconst 0, 1) := by decide +kernel
theorem d_Re_begin_18 : decode b_Re_begin 18 = .ok (.putfield 23, 3) := by decide +kernel
theorem d_Re_begin_21 : decode b_Re_begin 21 = .ok (.aload_n 0, 1) := by decide +kernel
theorem d_Re_begin_22 : decode b_Re_begin 22 = .ok (.iconst 0, 1) := by decide +kernel
theorem d_Re_begin_23 : decode b_Re_begin 23 = .ok (.putfield 26, 3) := by decide +kernel
theorem d_Re_begin_26 : decode b_Re_begin 26 = .ok (.aload_n 0, 1) := by decide +kernel
theorem d_Re_begin_27 : decode b_Re_begin 27 = .ok (.iconst 0, 1) := by decide +kernel
theorem d_Re_begin_28 : decode b_Re_begin 28 = .ok (.putfield 29, 3) := by decide +kernel
theorem d_Re_begin_31 : decode b_Re_begin 31 = .ok (.aload_n 0, 1) := by decide +kernel
theorem d_Re_begin_32 : decode b_Re_begin 32 = .ok (.iconst 0, 1) := by decide +kernel
theorem d_Re_begin_33 : decode b_Re_begin 33 = .ok (.putfield 32, 3) := by decide +kernel
theorem d_Re_begin_36 : decode b_Re_begin 36 = .ok (.aload_n 0, 1) := by decide +kernel
theorem d_Re_begin_37 : decode b_Re_begin 37 = .ok (.iconst 0, 1) := by decide +kernel
theorem d_Re_begin_38 : decode b_Re_begin 38 = .ok (.putfield 35, 3) := by decide +kernel
theorem d_Re_begin_41 : decode b_Re_begin 41 = .ok (.return_, 1) := by decide +kernel
theorem d_No_levelToDrive_0 : decode b_No_levelToDrive 0 = .ok (.aload_n 0, 1) := by decide +kernel
theorem d_No_levelToDrive_1 : decode b_No_levelToDrive 1 = .ok (.getfield 42, 3) := by decide +kernel
theorem d_No_levelToDrive_4 : decode b_No_levelToDrive 4 = .ok (.tableswitch 72 1 3 #[28, 33, 59], 28) := by decide +kernel
theorem d_No_levelToDrive_32 : decode b_No_levelToDrive 32 = .ok (.aload_n 0, 1) := by decide +kernel
theorem d_No_levelToDrive_33 : decode b_No_levelToDrive 33 = .ok (.invokevirtual 93, 3) := by decide +kernel
theorem d_No_levelToDrive_36 : decode b_No_levelToDrive 36 = .ok (.ireturn, 1) := by decide +kernel
theorem d_No_levelToDrive_37 : decode b_No_levelToDrive 37 = .ok (.aload_n 0, 1) := by decide +kernel
theorem d_No_levelToDrive_38 : decode b_No_levelToDrive 38 = .ok (.getfield 38, 3) := by decide +kernel
theorem d_No_levelToDrive_41 : decode b_No_levelToDrive 41 = .ok (.invokevirtual 96, 3) := by decide +kernel
theorem d_No_levelToDrive_44 : decode b_No_levelToDrive 44 = .ok (.ifCond .eq 17, 3) := by decide +kernel
theorem d_No_levelToDrive_47 : decode b_No_levelToDrive 47 = .ok (.aload_n 0, 1) := by decide +kernel
theorem d_No_levelToDrive_48 : decode b_No_levelToDrive 48 = .ok (.getfield 38, 3) := by decide +kernel
theorem d_No_levelToDrive_51 : decode b_No_levelToDrive 51 = .ok (.invokevirtual 100, 3) := by decide +kernel
theorem d_No_levelToDrive_54 : decode b_No_levelToDrive 54 = .ok (.ifCond .eq 7, 3) := by decide +kernel
theorem d_No_levelToDrive_57 : decode b_No_levelToDrive 57 = .ok (.iconst 0, 1) := by decide +kernel
theorem d_No_levelToDrive_58 : decode b_No_levelToDrive 58 = .ok (.goto 4, 3) := by decide +kernel
theorem d_No_levelToDrive_61 : decode b_No_levelToDrive 61 = .ok (.iconst 1, 1) := by decide +kernel
theorem d_No_levelToDrive_62 : decode b_No_levelToDrive 62 = .ok (.ireturn, 1) := by decide +kernel
theorem d_No_levelToDrive_63 : decode b_No_levelToDrive 63 = .ok (.aload_n 0, 1) := by decide +kernel
theorem d_No_levelToDrive_64 : decode b_No_levelToDrive 64 = .ok (.getfield 70, 3) := by decide +kernel
theorem d_No_levelToDrive_67 : decode b_No_levelToDrive 67 = .ok (.ifCond .eq 7, 3) := by decide +kernel
theorem d_No_levelToDrive_70 : decode b_No_levelToDrive 70 = .ok (.iconst 1, 1) := by decide +kernel
theorem d_No_levelToDrive_71 : decode b_No_levelToDrive 71 = .ok (.goto 4, 3) := by decide +kernel
theorem d_No_levelToDrive_74 : decode b_No_levelToDrive 74 = .ok (.iconst 0, 1) := by decide +kernel
theorem d_No_levelToDrive_75 : decode b_No_levelToDrive 75 = .ok (.ireturn, 1) := by decide +kernel
theorem d_No_levelToDrive_76 : decode b_No_levelToDrive 76 = .ok (.iconst 1, 1) := by decide +kernel
theorem d_No_levelToDrive_77 : decode b_No_levelToDrive 77 = .ok (.ireturn, 1) := by decide +kernel
theorem d_No_nextBit_0 : decode b_No_nextBit 0 = .ok (.aload_n 0, 1) := by decide +kernel
theorem d_No_nextBit_1 : decode b_No_nextBit 1 = .ok (.getfield 38, 3) := by decide +kernel
theorem d_No_nextBit_4 : decode b_No_nextBit 4 = .ok (.invokevirtual 103, 3) := by decide +kernel
theorem d_No_nextBit_7 : decode b_No_nextBit 7 = .ok (.ifCond .eq 15, 3) := by decide +kernel
theorem d_No_nextBit_10 : decode b_No_nextBit 10 = .ok (.iconst 1, 1) := by decide +kernel
theorem d_No_nextBit_11 : decode b_No_nextBit 11 = .ok (.aload_n 0, 1) := by decide +kernel
theorem d_No_nextBit_12 : decode b_No_nextBit 12 = .ok (.getfield 38, 3) := by decide +kernel
theorem d_No_nextBit_15 : decode b_No_nextBit 15 = .ok (.getfield 106, 3) := by decide +kernel
theorem d_No_nextBit_18 : decode b_No_nextBit 18 = .ok (.isub, 1) := by decide +kernel
theorem d_No_nextBit_19 : decode b_No_nextBit 19 = .ok (.goto 17, 3) := by decide +kernel
theorem d_No_nextBit_22 : decode b_No_nextBit 22 = .ok (.aload_n 0, 1) := by decide +kernel
theorem d_No_nextBit_23 : decode b_No_nextBit 23 = .ok (.getfield 31, 3) := by decide +kernel
theorem d_No_nextBit_26 : decode b_No_nextBit 26 = .ok (.aload_n 0, 1) := by decide +kernel
theorem d_No_nextBit_27 : decode b_No_nextBit 27 = .ok (.getfield 38, 3) := by decide +kernel
theorem d_No_nextBit_30 : decode b_No_nextBit 30 = .ok (.getfield 109, 3) := by decide +kernel
theorem d_No_nextBit_33 : decode b_No_nextBit 33 = .ok (.invokevirtual 112, 3) := by decide +kernel
theorem d_No_nextBit_36 : decode b_No_nextBit 36 = .ok (.ireturn, 1) := by decide +kernel
theorem d_Re_padIsDue_0 : decode b_Re_padIsDue 0 = .ok (.aload_n 0, 1) := by decide +kernel
theorem d_Re_padIsDue_1 : decode b_Re_padIsDue 1 = .ok (.getfield 23, 3) := by decide +kernel
theorem d_Re_padIsDue_4 : decode b_Re_padIsDue 4 = .ok (.iconst 5, 1) := by decide +kernel
theorem d_Re_padIsDue_5 : decode b_Re_padIsDue 5 = .ok (.if_icmp .ne 7, 3) := by decide +kernel
theorem d_Re_padIsDue_8 : decode b_Re_padIsDue 8 = .ok (.iconst 1, 1) := by decide +kernel
theorem d_Re_padIsDue_9 : decode b_Re_padIsDue 9 = .ok (.goto 4, 3) := by decide +kernel
theorem d_Re_padIsDue_12 : decode b_Re_padIsDue 12 = .ok (.iconst 0, 1) := by decide +kernel
theorem d_Re_padIsDue_13 : decode b_Re_padIsDue 13 = .ok (.ireturn, 1) := by decide +kernel
theorem d_Co_bitAt_0 : decode b_Co_bitAt 0 = .ok (.iload_n 1, 1) := by decide +kernel
theorem d_Co_bitAt_1 : decode b_Co_bitAt 1 = .ok (.ifCond .lt 20, 3) := by decide +kernel
theorem d_Co_bitAt_4 : decode b_Co_bitAt 4 = .ok (.iload_n 1, 1) := by decide +kernel
theorem d_Co_bitAt_5 : decode b_Co_bitAt 5 = .ok (.aload_n 0, 1) := by decide +kernel
theorem d_Co_bitAt_6 : decode b_Co_bitAt 6 = .ok (.getfield 15, 3) := by decide +kernel
theorem d_Co_bitAt_9 : decode b_Co_bitAt 9 = .ok (.if_icmp .ge 12, 3) := by decide +kernel
theorem d_Co_bitAt_12 : decode b_Co_bitAt 12 = .ok (.aload_n 0, 1) := by decide +kernel
theorem d_Co_bitAt_13 : decode b_Co_bitAt 13 = .ok (.getfield 11, 3) := by decide +kernel
theorem d_Co_bitAt_16 : decode b_Co_bitAt 16 = .ok (.iload_n 1, 1) := by decide +kernel
theorem d_Co_bitAt_17 : decode b_Co_bitAt 17 = .ok (.iaload, 1) := by decide +kernel
theorem d_Co_bitAt_18 : decode b_Co_bitAt 18 = .ok (.goto 4, 3) := by decide +kernel
theorem d_Co_bitAt_21 : decode b_Co_bitAt 21 = .ok (.iconst 1, 1) := by decide +kernel
theorem d_Co_bitAt_22 : decode b_Co_bitAt 22 = .ok (.ireturn, 1) := by decide +kernel
theorem d_Re_isAtAnswer_0 : decode b_Re_isAtAnswer 0 = .ok (.aload_n 0, 1) := by decide +kernel
theorem d_Re_isAtAnswer_1 : decode b_Re_isAtAnswer 1 = .ok (.invokevirtual 42, 3) := by decide +kernel
theorem d_Re_isAtAnswer_4 : decode b_Re_isAtAnswer 4 = .ok (.ifCond .eq 20, 3) := by decide +kernel
theorem d_Re_isAtAnswer_7 : decode b_Re_isAtAnswer 7 = .ok (.aload_n 0, 1) := by decide +kernel
theorem d_Re_isAtAnswer_8 : decode b_Re_isAtAnswer 8 = .ok (.getfield 9, 3) := by decide +kernel
theorem d_Re_isAtAnswer_11 : decode b_Re_isAtAnswer 11 = .ok (.aload_n 0, 1) := by decide +kernel
theorem d_Re_isAtAnswer_12 : decode b_Re_isAtAnswer 12 = .ok (.getfield 17, 3) := by decide +kernel
theorem d_Re_isAtAnswer_15 : decode b_Re_isAtAnswer 15 = .ok (.isub, 1) := by decide +kernel
theorem d_Re_isAtAnswer_16 : decode b_Re_isAtAnswer 16 = .ok (.iconst 1, 1) := by decide +kernel
theorem d_Re_isAtAnswer_17 : decode b_Re_isAtAnswer 17 = .ok (.if_icmp .ne 7, 3) := by decide +kernel
theorem d_Re_isAtAnswer_20 : decode b_Re_isAtAnswer 20 = .ok (.iconst 1, 1) := by decide +kernel
theorem d_Re_isAtAnswer_21 : decode b_Re_isAtAnswer 21 = .ok (.goto 4, 3) := by decide +kernel
theorem d_Re_isAtAnswer_24 : decode b_Re_isAtAnswer 24 = .ok (.iconst 0, 1) := by decide +kernel
theorem d_Re_isAtAnswer_25 : decode b_Re_isAtAnswer 25 = .ok (.ireturn, 1) := by decide +kernel
theorem d_Re_isBehindCore_0 : decode b_Re_isBehindCore 0 = .ok (.aload_n 0, 1) := by decide +kernel
theorem d_Re_isBehindCore_1 : decode b_Re_isBehindCore 1 = .ok (.getfield 9, 3) := by decide +kernel
theorem d_Re_isBehindCore_4 : decode b_Re_isBehindCore 4 = .ok (.aload_n 0, 1) := by decide +kernel
theorem d_Re_isBehindCore_5 : decode b_Re_isBehindCore 5 = .ok (.getfield 17, 3) := by decide +kernel
theorem d_Re_isBehindCore_8 : decode b_Re_isBehindCore 8 = .ok (.if_icmp .lt 14, 3) := by decide +kernel
theorem d_Re_isBehindCore_11 : decode b_Re_isBehindCore 11 = .ok (.aload_n 0, 1) := by decide +kernel
theorem d_Re_isBehindCore_12 : decode b_Re_isBehindCore 12 = .ok (.invokevirtual 38, 3) := by decide +kernel
theorem d_Re_isBehindCore_15 : decode b_Re_isBehindCore 15 = .ok (.ifCond .ne 7, 3) := by decide +kernel
theorem d_Re_isBehindCore_18 : decode b_Re_isBehindCore 18 = .ok (.iconst 1, 1) := by decide +kernel
theorem d_Re_isBehindCore_19 : decode b_Re_isBehindCore 19 = .ok (.goto 4, 3) := by decide +kernel
theorem d_Re_isBehindCore_22 : decode b_Re_isBehindCore 22 = .ok (.iconst 0, 1) := by decide +kernel
theorem d_Re_isBehindCore_23 : decode b_Re_isBehindCore 23 = .ok (.ireturn, 1) := by decide +kernel
theorem d_Re_isRight_0 : decode b_Re_isRight 0 = .ok (.aload_n 0, 1) := by decide +kernel
theorem d_Re_isRight_1 : decode b_Re_isRight 1 = .ok (.getfield 26, 3) := by decide +kernel
theorem d_Re_isRight_4 : decode b_Re_isRight 4 = .ok (.ifCond .ne 7, 3) := by decide +kernel
theorem d_Re_isRight_7 : decode b_Re_isRight 7 = .ok (.iconst 1, 1) := by decide +kernel
theorem d_Re_isRight_8 : decode b_Re_isRight 8 = .ok (.goto 4, 3) := by decide +kernel
theorem d_Re_isRight_11 : decode b_Re_isRight 11 = .ok (.iconst 0, 1) := by decide +kernel
theorem d_Re_isRight_12 : decode b_Re_isRight 12 = .ok (.ireturn, 1) := by decide +kernel
theorem d_No_see_0 : decode b_No_see 0 = .ok (.aload_n 0, 1) := by decide +kernel
theorem d_No_see_1 : decode b_No_see 1 = .ok (.getfield 24, 3) := by decide +kernel
theorem d_No_see_4 : decode b_No_see 4 = .ok (.invokevirtual 116, 3) := by decide +kernel
theorem d_No_see_7 : decode b_No_see 7 = .ok (.ifCond .eq 9, 3) := by decide +kernel
theorem d_No_see_10 : decode b_No_see 10 = .ok (.iconst 1, 1) := by decide +kernel
theorem d_No_see_11 : decode b_No_see 11 = .ok (.iload_n 1, 1) := by decide +kernel
theorem d_No_see_12 : decode b_No_see 12 = .ok (.isub, 1) := by decide +kernel
theorem d_No_see_13 : decode b_No_see 13 = .ok (.goto 4, 3) := by decide +kernel
theorem d_No_see_16 : decode b_No_see 16 = .ok (.iload_n 1, 1) := by decide +kernel
theorem d_No_see_17 : decode b_No_see 17 = .ok (.istore_n 2, 1) := by decide +kernel
theorem d_No_see_18 : decode b_No_see 18 = .ok (.aload_n 0, 1) := by decide +kernel
theorem d_No_see_19 : decode b_No_see 19 = .ok (.getfield 42, 3) := by decide +kernel
theorem d_No_see_22 : decode b_No_see 22 = .ok (.tableswitch 84 1 7 #[42, 48, 54, 60, 66, 72, 78], 42) := by decide +kernel
theorem d_No_see_64 : decode b_No_see 64 = .ok (.aload_n 0, 1) := by decide +kernel
theorem d_No_see_65 : decode b_No_see 65 = .ok (.iload_n 2, 1) := by decide +kernel
theorem d_No_see_66 : decode b_No_see 66 = .ok (.invokevirtual 119, 3) := by decide +kernel
theorem d_No_see_69 : decode b_No_see 69 = .ok (.ireturn, 1) := by decide +kernel
theorem d_No_see_70 : decode b_No_see 70 = .ok (.aload_n 0, 1) := by decide +kernel
theorem d_No_see_71 : decode b_No_see 71 = .ok (.iload_n 2, 1) := by decide +kernel
theorem d_No_see_72 : decode b_No_see 72 = .ok (.invokevirtual 122, 3) := by decide +kernel
theorem d_No_see_75 : decode b_No_see 75 = .ok (.ireturn, 1) := by decide +kernel
theorem d_No_see_76 : decode b_No_see 76 = .ok (.aload_n 0, 1) := by decide +kernel
theorem d_No_see_77 : decode b_No_see 77 = .ok (.iload_n 2, 1) := by decide +kernel
theorem d_No_see_78 : decode b_No_see 78 = .ok (.invokevirtual 125, 3) := by decide +kernel
theorem d_No_see_81 : decode b_No_see 81 = .ok (.ireturn, 1) := by decide +kernel
theorem d_No_see_82 : decode b_No_see 82 = .ok (.aload_n 0, 1) := by decide +kernel
theorem d_No_see_83 : decode b_No_see 83 = .ok (.iload_n 2, 1) := by decide +kernel
theorem d_No_see_84 : decode b_No_see 84 = .ok (.invokevirtual 128, 3) := by decide +kernel
theorem d_No_see_87 : decode b_No_see 87 = .ok (.ireturn, 1) := by decide +kernel
theorem d_No_see_88 : decode b_No_see 88 = .ok (.aload_n 0, 1) := by decide +kernel
theorem d_No_see_89 : decode b_No_see 89 = .ok (.iload_n 2, 1) := by decide +kernel
theorem d_No_see_90 : decode b_No_see 90 = .ok (.invokevirtual 131, 3) := by decide +kernel
theorem d_No_see_93 : decode b_No_see 93 = .ok (.ireturn, 1) := by decide +kernel
theorem d_No_see_94 : decode b_No_see 94 = .ok (.aload_n 0, 1) := by decide +kernel
theorem d_No_see_95 : decode b_No_see 95 = .ok (.iload_n 2, 1) := by decide +kernel
theorem d_No_see_96 : decode b_No_see 96 = .ok (.invokevirtual 134, 3) := by decide +kernel
theorem d_No_see_99 : decode b_No_see 99 = .ok (.ireturn, 1) := by decide +kernel
theorem d_No_see_100 : decode b_No_see 100 = .ok (.aload_n 0, 1) := by decide +kernel
theorem d_No_see_101 : decode b_No_see 101 = .ok (.iload_n 2, 1) := by decide +kernel
theorem d_No_see_102 : decode b_No_see 102 = .ok (.invokevirtual 137, 3) := by decide +kernel
theorem d_No_see_105 : decode b_No_see 105 = .ok (.ireturn, 1) := by decide +kernel
theorem d_No_see_106 : decode b_No_see 106 = .ok (.iload_n 2, 1) := by decide +kernel
theorem d_No_see_107 : decode b_No_see 107 = .ok (.ifCond .ne 10, 3) := by decide +kernel
theorem d_No_see_110 : decode b_No_see 110 = .ok (.aload_n 0, 1) := by decide +kernel
theorem d_No_see_111 : decode b_No_see 111 = .ok (.invokevirtual 140, 3) := by decide +kernel
theorem d_No_see_114 : decode b_No_see 114 = .ok (.goto 4, 3) := by decide +kernel
theorem d_No_see_117 : decode b_No_see 117 = .ok (.iconst 0, 1) := by decide +kernel
theorem d_No_see_118 : decode b_No_see 118 = .ok (.ireturn, 1) := by decide +kernel
theorem d_Di_next_0 : decode b_Di_next 0 = .ok (.aload_n 0, 1) := by decide +kernel
theorem d_Di_next_1 : decode b_Di_next 1 = .ok (.aload_n 0, 1) := by decide +kernel
theorem d_Di_next_2 : decode b_Di_next 2 = .ok (.getfield 15, 3) := by decide +kernel
theorem d_Di_next_5 : decode b_Di_next 5 = .ok (.iconst 1, 1) := by decide +kernel
theorem d_Di_next_6 : decode b_Di_next 6 = .ok (.iadd, 1) := by decide +kernel
theorem d_Di_next_7 : decode b_Di_next 7 = .ok (.aload_n 0, 1) := by decide +kernel
theorem d_Di_next_8 : decode b_Di_next 8 = .ok (.getfield 9, 3) := by decide +kernel
theorem d_Di_next_11 : decode b_Di_next 11 = .ok (.arraylength, 1) := by decide +kernel
theorem d_Di_next_12 : decode b_Di_next 12 = .ok (.irem, 1) := by decide +kernel
theorem d_Di_next_13 : decode b_Di_next 13 = .ok (.putfield 15, 3) := by decide +kernel
theorem d_Di_next_16 : decode b_Di_next 16 = .ok (.aload_n 0, 1) := by decide +kernel
theorem d_Di_next_17 : decode b_Di_next 17 = .ok (.getfield 9, 3) := by decide +kernel
theorem d_Di_next_20 : decode b_Di_next 20 = .ok (.aload_n 0, 1) := by decide +kernel
theorem d_Di_next_21 : decode b_Di_next 21 = .ok (.getfield 15, 3) := by decide +kernel
theorem d_Di_next_24 : decode b_Di_next 24 = .ok (.baload, 1) := by decide +kernel
theorem d_Di_next_25 : decode b_Di_next 25 = .ok (.istore_n 1, 1) := by decide +kernel
theorem d_Di_next_26 : decode b_Di_next 26 = .ok (.aload_n 0, 1) := by decide +kernel
theorem d_Di_next_27 : decode b_Di_next 27 = .ok (.getfield 9, 3) := by decide +kernel
theorem d_Di_next_30 : decode b_Di_next 30 = .ok (.aload_n 0, 1) := by decide +kernel
theorem d_Di_next_31 : decode b_Di_next 31 = .ok (.getfield 15, 3) := by decide +kernel
theorem d_Di_next_34 : decode b_Di_next 34 = .ok (.iconst 0, 1) := by decide +kernel
theorem d_Di_next_35 : decode b_Di_next 35 = .ok (.bastore, 1) := by decide +kernel
theorem d_Di_next_36 : decode b_Di_next 36 = .ok (.iload_n 1, 1) := by decide +kernel
theorem d_Di_next_37 : decode b_Di_next 37 = .ok (.ireturn, 1) := by decide +kernel
theorem d_No_seeSending_0 : decode b_No_seeSending 0 = .ok (.aload_n 0, 1) := by decide +kernel
theorem d_No_seeSending_1 : decode b_No_seeSending 1 = .ok (.getfield 38, 3) := by decide +kernel
theorem d_No_seeSending_4 : decode b_No_seeSending 4 = .ok (.invokevirtual 96, 3) := by decide +kernel
theorem d_No_seeSending_7 : decode b_No_seeSending 7 = .ok (.ifCond .eq 15, 3) := by decide +kernel
theorem d_No_seeSending_10 : decode b_No_seeSending 10 = .ok (.iload_n 1, 1) := by decide +kernel
theorem d_No_seeSending_11 : decode b_No_seeSending 11 = .ok (.iconst 1, 1) := by decide +kernel
theorem d_No_seeSending_12 : decode b_No_seeSending 12 = .ok (.if_icmp .ne 51, 3) := by decide +kernel
theorem d_No_seeSending_15 : decode b_No_seeSending 15 = .ok (.aload_n 0, 1) := by decide +kernel
theorem d_No_seeSending_16 : decode b_No_seeSending 16 = .ok (.bipush 6, 2) := by decide +kernel
theorem d_No_seeSending_18 : decode b_No_seeSending 18 = .ok (.invokevirtual 159, 3) := by decide +kernel
theorem d_No_seeSending_21 : decode b_No_seeSending 21 = .ok (.ireturn, 1) := by decide +kernel
theorem d_No_seeSending_22 : decode b_No_seeSending 22 = .ok (.iload_n 1, 1) := by decide +kernel
theorem d_No_seeSending_23 : decode b_No_seeSending 23 = .ok (.aload_n 0, 1) := by decide +kernel
theorem d_No_seeSending_24 : decode b_No_seeSending 24 = .ok (.getfield 67, 3) := by decide +kernel
theorem d_No_seeSending_27 : decode b_No_seeSending 27 = .ok (.if_icmp .eq 36, 3) := by decide +kernel
theorem d_No_seeSending_30 : decode b_No_seeSending 30 = .ok (.aload_n 0, 1) := by decide +kernel
theorem d_No_seeSending_31 : decode b_No_seeSending 31 = .ok (.getfield 67, 3) := by decide +kernel
theorem d_No_seeSending_34 : decode b_No_seeSending 34 = .ok (.ifCond .eq 13, 3) := by decide +kernel
theorem d_No_seeSending_37 : decode b_No_seeSending 37 = .ok (.aload_n 0, 1) := by decide +kernel
theorem d_No_seeSending_38 : decode b_No_seeSending 38 = .ok (.getfield 38, 3) := by decide +kernel
theorem d_No_seeSending_41 : decode b_No_seeSending 41 = .ok (.invokevirtual 162, 3) := by decide +kernel
theorem d_No_seeSending_44 : decode b_No_seeSending 44 = .ok (.ifCond .ne 9, 3) := by decide +kernel
theorem d_No_seeSending_47 : decode b_No_seeSending 47 = .ok (.aload_n 0, 1) := by decide +kernel
theorem d_No_seeSending_48 : decode b_No_seeSending 48 = .ok (.iconst 2, 1) := by decide +kernel
theorem d_No_seeSending_49 : decode b_No_seeSending 49 = .ok (.invokevirtual 159, 3) := by decide +kernel
theorem d_No_seeSending_52 : decode b_No_seeSending 52 = .ok (.ireturn, 1) := by decide +kernel
theorem d_No_seeSending_53 : decode b_No_seeSending 53 = .ok (.aload_n 0, 1) := by decide +kernel
theorem d_No_seeSending_54 : decode b_No_seeSending 54 = .ok (.iconst 2, 1) := by decide +kernel
theorem d_No_seeSending_55 : decode b_No_seeSending 55 = .ok (.putfield 42, 3) := by decide +kernel
theorem d_No_seeSending_58 : decode b_No_seeSending 58 = .ok (.aload_n 0, 1) := by decide +kernel
theorem d_No_seeSending_59 : decode b_No_seeSending 59 = .ok (.iconst 2, 1) := by decide +kernel
theorem d_No_seeSending_60 : decode b_No_seeSending 60 = .ok (.putfield 46, 3) := by decide +kernel
theorem d_No_seeSending_63 : decode b_No_seeSending 63 = .ok (.aload_n 0, 1) := by decide +kernel
theorem d_No_seeSending_64 : decode b_No_seeSending 64 = .ok (.getfield 38, 3) := by decide +kernel
theorem d_No_seeSending_67 : decode b_No_seeSending 67 = .ok (.iload_n 1, 1) := by decide +kernel
theorem d_No_seeSending_68 : decode b_No_seeSending 68 = .ok (.invokevirtual 156, 3) := by decide +kernel
theorem d_No_seeSending_71 : decode b_No_seeSending 71 = .ok (.aload_n 0, 1) := by decide +kernel
theorem d_No_seeSending_72 : decode b_No_seeSending 72 = .ok (.getfield 38, 3) := by decide +kernel
theorem d_No_seeSending_75 : decode b_No_seeSending 75 = .ok (.invokevirtual 165, 3) := by decide +kernel
theorem d_No_seeSending_78 : decode b_No_seeSending 78 = .ok (.ifCond .eq 10, 3) := by decide +kernel
theorem d_No_seeSending_81 : decode b_No_seeSending 81 = .ok (.aload_n 0, 1) := by decide +kernel
theorem d_No_seeSending_82 : decode b_No_seeSending 82 = .ok (.invokevirtual 168, 3) := by decide +kernel
theorem d_No_seeSending_85 : decode b_No_seeSending 85 = .ok (.goto 4, 3) := by decide +kernel
theorem d_No_seeSending_88 : decode b_No_seeSending 88 = .ok (.iconst 0, 1) := by decide +kernel
theorem d_No_seeSending_89 : decode b_No_seeSending 89 = .ok (.ireturn, 1) := by decide +kernel
theorem d_No_err_0 : decode b_No_err 0 = .ok (.iload_n 1, 1) := by decide +kernel
theorem d_No_err_1 : decode b_No_err 1 = .ok (.bipush 6, 2) := by decide +kernel
theorem d_No_err_3 : decode b_No_err 3 = .ok (.if_icmp .ne 10, 3) := by decide +kernel
theorem d_No_err_6 : decode b_No_err 6 = .ok (.aload_n 0, 1) := by decide +kernel
theorem d_No_err_7 : decode b_No_err 7 = .ok (.invokevirtual 207, 3) := by decide +kernel
theorem d_No_err_10 : decode b_No_err 10 = .ok (.ifCond .ne 7, 3) := by decide +kernel
theorem d_No_err_13 : decode b_No_err 13 = .ok (.iconst 1, 1) := by decide +kernel
theorem d_No_err_14 : decode b_No_err 14 = .ok (.goto 4, 3) := by decide +kernel
theorem d_No_err_17 : decode b_No_err 17 = .ok (.iconst 0, 1) := by decide +kernel
theorem d_No_err_18 : decode b_No_err 18 = .ok (.istore_n 2, 1) := by decide +kernel
theorem d_No_err_19 : decode b_No_err 19 = .ok (.aload_n 0, 1) := by decide +kernel
theorem d_No_err_20 : decode b_No_err 20 = .ok (.getfield 46, 3) := by decide +kernel
theorem d_No_err_23 : decode b_No_err 23 = .ok (.iconst 2, 1) := by decide +kernel
theorem d_No_err_24 : decode b_No_err 24 = .ok (.if_icmp .ne 16, 3) := by decide +kernel
theorem d_No_err_27 : decode b_No_err 27 = .ok (.aload_n 0, 1) := by decide +kernel
theorem d_No_err_28 : decode b_No_err 28 = .ok (.dup, 1) := by decide +kernel
theorem d_No_err_29 : decode b_No_err 29 = .ok (.getfield 52, 3) := by decide +kernel
theorem d_No_err_32 : decode b_No_err 32 = .ok (.iconst 1, 1) := by decide +kernel
theorem d_No_err_33 : decode b_No_err 33 = .ok (.iadd, 1) := by decide +kernel
theorem d_No_err_34 : decode b_No_err 34 = .ok (.putfield 52, 3) := by decide +kernel
theorem d_No_err_37 : decode b_No_err 37 = .ok (.goto 18, 3) := by decide +kernel
theorem d_No_err_40 : decode b_No_err 40 = .ok (.iload_n 2, 1) := by decide +kernel
theorem d_No_err_41 : decode b_No_err 41 = .ok (.ifCond .eq 14, 3) := by decide +kernel
theorem d_No_err_44 : decode b_No_err 44 = .ok (.aload_n 0, 1) := by decide +kernel
theorem d_No_err_45 : decode b_No_err 45 = .ok (.dup, 1) := by decide +kernel
theorem d_No_err_46 : decode b_No_err 46 = .ok (.getfield 49, 3) := by decide +kernel
theorem d_No_err_49 : decode b_No_err 49 = .ok (.bipush 8, 2) := by decide +kernel
theorem d_No_err_51 : decode b_No_err 51 = .ok (.iadd, 1) := by decide +kernel
theorem d_No_err_52 : decode b_No_err 52 = .ok (.putfield 49, 3) := by decide +kernel
theorem d_No_err_55 : decode b_No_err 55 = .ok (.aload_n 0, 1) := by decide +kernel
theorem d_No_err_56 : decode b_No_err 56 = .ok (.aload_n 0, 1) := by decide +kernel
theorem d_No_err_57 : decode b_No_err 57 = .ok (.invokevirtual 207, 3) := by decide +kernel
theorem d_No_err_60 : decode b_No_err 60 = .ok (.invokevirtual 210, 3) := by decide +kernel
theorem d_No_err_63 : decode b_No_err 63 = .ok (.aload_n 0, 1) := by decide +kernel
theorem d_No_err_64 : decode b_No_err 64 = .ok (.invokevirtual 214, 3) := by decide +kernel
theorem d_No_err_67 : decode b_No_err 67 = .ok (.iload_n 2, 1) := by decide +kernel
theorem d_No_err_68 : decode b_No_err 68 = .ok (.ifCond .eq 7, 3) := by decide +kernel
theorem d_No_err_71 : decode b_No_err 71 = .ok (.iload_n 1, 1) := by decide +kernel
theorem d_No_err_72 : decode b_No_err 72 = .ok (.goto 4, 3) := by decide +kernel
theorem d_No_err_75 : decode b_No_err 75 = .ok (.iconst 0, 1) := by decide +kernel
theorem d_No_err_76 : decode b_No_err 76 = .ok (.ireturn, 1) := by decide +kernel
theorem d_No_isPassive_0 : decode b_No_isPassive 0 = .ok (.aload_n 0, 1) := by decide +kernel
theorem d_No_isPassive_1 : decode b_No_isPassive 1 = .ok (.getfield 49, 3) := by decide +kernel
theorem d_No_isPassive_4 : decode b_No_isPassive 4 = .ok (.bipush 127, 2) := by decide +kernel
theorem d_No_isPassive_6 : decode b_No_isPassive 6 = .ok (.if_icmp .gt 12, 3) := by decide +kernel
theorem d_No_isPassive_9 : decode b_No_isPassive 9 = .ok (.aload_n 0, 1) := by decide +kernel
theorem d_No_isPassive_10 : decode b_No_isPassive 10 = .ok (.getfield 52, 3) := by decide +kernel
theorem d_No_isPassive_13 : decode b_No_isPassive 13 = .ok (.bipush 127, 2) := by decide +kernel
theorem d_No_isPassive_15 : decode b_No_isPassive 15 = .ok (.if_icmp .le 7, 3) := by decide +kernel
theorem d_No_isPassive_18 : decode b_No_isPassive 18 = .ok (.iconst 1, 1) := by decide +kernel
theorem d_No_isPassive_19 : decode b_No_isPassive 19 = .ok (.goto 4, 3) := by decide +kernel
theorem d_No_isPassive_22 : decode b_No_isPassive 22 = .ok (.iconst 0, 1) := by decide +kernel
theorem d_No_isPassive_23 : decode b_No_isPassive 23 = .ok (.ireturn, 1) := by decide +kernel
theorem d_No_beginFlag_0 : decode b_No_beginFlag 0 = .ok (.aload_n 0, 1) := by decide +kernel
theorem d_No_beginFlag_1 : decode b_No_beginFlag 1 = .ok (.iload_n 1, 1) := by decide +kernel
theorem d_No_beginFlag_2 : decode b_No_beginFlag 2 = .ok (.putfield 70, 3) := by decide +kernel
theorem d_No_beginFlag_5 : decode b_No_beginFlag 5 = .ok (.aload_n 0, 1) := by decide +kernel
theorem d_No_beginFlag_6 : decode b_No_beginFlag 6 = .ok (.iconst 3, 1) := by decide +kernel
theorem d_No_beginFlag_7 : decode b_No_beginFlag 7 = .ok (.putfield 42, 3) := by decide +kernel
theorem d_No_beginFlag_10 : decode b_No_beginFlag 10 = .ok (.aload_n 0, 1) := by decide +kernel
theorem d_No_beginFlag_11 : decode b_No_beginFlag 11 = .ok (.iconst 0, 1) := by decide +kernel
theorem d_No_beginFlag_12 : decode b_No_beginFlag 12 = .ok (.putfield 74, 3) := by decide +kernel
theorem d_No_beginFlag_15 : decode b_No_beginFlag 15 = .ok (.return_, 1) := by decide +kernel
theorem d_No_goOffIfTooMany_0 : decode b_No_goOffIfTooMany 0 = .ok (.aload_n 0, 1) := by decide +kernel
theorem d_No_goOffIfTooMany_1 : decode b_No_goOffIfTooMany 1 = .ok (.getfield 49, 3) := by decide +kernel
theorem d_No_goOffIfTooMany_4 : decode b_No_goOffIfTooMany 4 = .ok (.sipush 255, 3) := by decide +kernel
theorem d_No_goOffIfTooMany_7 : decode b_No_goOffIfTooMany 7 = .ok (.if_icmp .le 27, 3) := by decide +kernel
theorem d_No_goOffIfTooMany_10 : decode b_No_goOffIfTooMany 10 = .ok (.aload_n 0, 1) := by decide +kernel
theorem d_No_goOffIfTooMany_11 : decode b_No_goOffIfTooMany 11 = .ok (.bipush 7, 2) := by decide +kernel
theorem d_No_goOffIfTooMany_13 : decode b_No_goOffIfTooMany 13 = .ok (.putfield 42, 3) := by decide +kernel
theorem d_No_goOffIfTooMany_16 : decode b_No_goOffIfTooMany 16 = .ok (.aload_n 0, 1) := by decide +kernel
theorem d_No_goOffIfTooMany_17 : decode b_No_goOffIfTooMany 17 = .ok (.getfield 12, 3) := by decide +kernel
theorem d_No_goOffIfTooMany_20 : decode b_No_goOffIfTooMany 20 = .ok (.iconst 0, 1) := by decide +kernel
theorem d_No_goOffIfTooMany_21 : decode b_No_goOffIfTooMany 21 = .ok (.putfield 83, 3) := by decide +kernel
theorem d_No_goOffIfTooMany_24 : decode b_No_goOffIfTooMany 24 = .ok (.aload_n 0, 1) := by decide +kernel
theorem d_No_goOffIfTooMany_25 : decode b_No_goOffIfTooMany 25 = .ok (.iconst 0, 1) := by decide +kernel
theorem d_No_goOffIfTooMany_26 : decode b_No_goOffIfTooMany 26 = .ok (.putfield 77, 3) := by decide +kernel
theorem d_No_goOffIfTooMany_29 : decode b_No_goOffIfTooMany 29 = .ok (.aload_n 0, 1) := by decide +kernel
theorem d_No_goOffIfTooMany_30 : decode b_No_goOffIfTooMany 30 = .ok (.iconst 0, 1) := by decide +kernel
theorem d_No_goOffIfTooMany_31 : decode b_No_goOffIfTooMany 31 = .ok (.putfield 80, 3) := by decide +kernel
theorem d_No_goOffIfTooMany_34 : decode b_No_goOffIfTooMany 34 = .ok (.return_, 1) := by decide +kernel
theorem d_Re_isInId_0 : decode b_Re_isInId 0 = .ok (.aload_n 0, 1) := by decide +kernel
theorem d_Re_isInId_1 : decode b_Re_isInId 1 = .ok (.getfield 9, 3) := by decide +kernel
theorem d_Re_isInId_4 : decode b_Re_isInId 4 = .ok (.iconst 1, 1) := by decide +kernel
theorem d_Re_isInId_5 : decode b_Re_isInId 5 = .ok (.if_icmp .lt 23, 3) := by decide +kernel
theorem d_Re_isInId_8 : decode b_Re_isInId 8 = .ok (.aload_n 0, 1) := by decide +kernel
theorem d_Re_isInId_9 : decode b_Re_isInId 9 = .ok (.getfield 9, 3) := by decide +kernel
theorem d_Re_isInId_12 : decode b_Re_isInId 12 = .ok (.bipush 12, 2) := by decide +kernel
theorem d_Re_isInId_14 : decode b_Re_isInId 14 = .ok (.if_icmp .ge 14, 3) := by decide +kernel
theorem d_Re_isInId_17 : decode b_Re_isInId 17 = .ok (.aload_n 0, 1) := by decide +kernel
theorem d_Re_isInId_18 : decode b_Re_isInId 18 = .ok (.invokevirtual 38, 3) := by decide +kernel
theorem d_Re_isInId_21 : decode b_Re_isInId 21 = .ok (.ifCond .ne 7, 3) := by decide +kernel
theorem d_Re_isInId_24 : decode b_Re_isInId 24 = .ok (.iconst 1, 1) := by decide +kernel
theorem d_Re_isInId_25 : decode b_Re_isInId 25 = .ok (.goto 4, 3) := by decide +kernel
theorem d_Re_isInId_28 : decode b_Re_isInId 28 = .ok (.iconst 0, 1) := by decide +kernel
theorem d_Re_isInId_29 : decode b_Re_isInId 29 = .ok (.ireturn, 1) := by decide +kernel
theorem d_Re_read_0 : decode b_Re_read 0 = .ok (.aload_n 0, 1) := by decide +kernel
theorem d_Re_read_1 : decode b_Re_read 1 = .ok (.invokevirtual 38, 3) := by decide +kernel
theorem d_Re_read_4 : decode b_Re_read 4 = .ok (.ifCond .eq 16, 3) := by decide +kernel
theorem d_Re_read_7 : decode b_Re_read 7 = .ok (.aload_n 0, 1) := by decide +kernel
theorem d_Re_read_8 : decode b_Re_read 8 = .ok (.iload_n 1, 1) := by decide +kernel
theorem d_Re_read_9 : decode b_Re_read 9 = .ok (.putfield 20, 3) := by decide +kernel
theorem d_Re_read_12 : decode b_Re_read 12 = .ok (.aload_n 0, 1) := by decide +kernel
theorem d_Re_read_13 : decode b_Re_read 13 = .ok (.iconst 1, 1) := by decide +kernel
theorem d_Re_read_14 : decode b_Re_read 14 = .ok (.putfield 23, 3) := by decide +kernel
theorem d_Re_read_17 : decode b_Re_read 17 = .ok (.goto 28, 3) := by decide +kernel
theorem d_Re_read_20 : decode b_Re_read 20 = .ok (.aload_n 0, 1) := by decide +kernel
theorem d_Re_read_21 : decode b_Re_read 21 = .ok (.invokevirtual 42, 3) := by decide +kernel
theorem d_Re_read_24 : decode b_Re_read 24 = .ok (.ifCond .eq 16, 3) := by decide +kernel
theorem d_Re_read_27 : decode b_Re_read 27 = .ok (.aload_n 0, 1) := by decide +kernel
theorem d_Re_read_28 : decode b_Re_read 28 = .ok (.dup, 1) := by decide +kernel
theorem d_Re_read_29 : decode b_Re_read 29 = .ok (.getfield 9, 3) := by decide +kernel
theorem d_Re_read_32 : decode b_Re_read 32 = .ok (.iconst 1, 1) := by decide +kernel
theorem d_Re_read_33 : decode b_Re_read 33 = .ok (.iadd, 1) := by decide +kernel
theorem d_Re_read_34 : decode b_Re_read 34 = .ok (.putfield 9, 3) := by decide +kernel
theorem d_Re_read_37 : decode b_Re_read 37 = .ok (.goto 8, 3) := by decide +kernel
theorem d_Re_read_40 : decode b_Re_read 40 = .ok (.aload_n 0, 1) := by decide +kernel
theorem d_Re_read_41 : decode b_Re_read 41 = .ok (.iload_n 1, 1) := by decide +kernel
theorem d_Re_read_42 : decode b_Re_read 42 = .ok (.invokevirtual 51, 3) := by decide +kernel
theorem d_Re_read_45 : decode b_Re_read 45 = .ok (.return_, 1) := by decide +kernel
theorem d_Re_readCore_0 : decode b_Re_readCore 0 = .ok (.aload_n 0, 1) := by decide +kernel
theorem d_Re_readCore_1 : decode b_Re_readCore 1 = .ok (.iload_n 1, 1) := by decide +kernel
theorem d_Re_readCore_2 : decode b_Re_readCore 2 = .ok (.aload_n 0, 1) := by decide +kernel
theorem d_Re_readCore_3 : decode b_Re_readCore 3 = .ok (.getfield 20, 3) := by decide +kernel
theorem d_Re_readCore_6 : decode b_Re_readCore 6 = .ok (.if_icmp .ne 19, 3) := by decide +kernel
theorem d_Re_readCore_9 : decode b_Re_readCore 9 = .ok (.aload_n 0, 1) := by decide +kernel
theorem d_Re_readCore_10 : decode b_Re_readCore 10 = .ok (.getfield 9, 3) := by decide +kernel
theorem d_Re_readCore_13 : decode b_Re_readCore 13 = .ok (.ifCond .le 12, 3) := by decide +kernel
theorem d_Re_readCore_16 : decode b_Re_readCore 16 = .ok (.aload_n 0, 1) := by decide +kernel
theorem d_Re_readCore_17 : decode b_Re_readCore 17 = .ok (.getfield 23, 3) := by decide +kernel
theorem d_Re_readCore_20 : decode b_Re_readCore 20 = .ok (.iconst 1, 1) := by decide +kernel
theorem d_Re_readCore_21 : decode b_Re_readCore 21 = .ok (.iadd, 1) := by decide +kernel
theorem d_Re_readCore_22 : decode b_Re_readCore 22 = .ok (.goto 4, 3) := by decide +kernel
theorem d_Re_readCore_25 : decode b_Re_readCore 25 = .ok (.iconst 1, 1) := by decide +kernel
theorem d_Re_readCore_26 : decode b_Re_readCore 26 = .ok (.putfield 23, 3) := by decide +kernel
theorem d_Re_readCore_29 : decode b_Re_readCore 29 = .ok (.aload_n 0, 1) := by decide +kernel
theorem d_Re_readCore_30 : decode b_Re_readCore 30 = .ok (.iload_n 1, 1) := by decide +kernel
theorem d_Re_readCore_31 : decode b_Re_readCore 31 = .ok (.putfield 20, 3) := by decide +kernel
theorem d_Re_readCore_34 : decode b_Re_readCore 34 = .ok (.aload_n 0, 1) := by decide +kernel
theorem d_Re_readCore_35 : decode b_Re_readCore 35 = .ok (.aload_n 0, 1) := by decide +kernel
theorem d_Re_readCore_36 : decode b_Re_readCore 36 = .ok (.getfield 26, 3) := by decide +kernel
theorem d_Re_readCore_39 : decode b_Re_readCore 39 = .ok (.iload_n 1, 1) := by decide +kernel
theorem d_Re_readCore_40 : decode b_Re_readCore 40 = .ok (.invokestatic 55, 3) := by decide +kernel
theorem d_Re_readCore_43 : decode b_Re_readCore 43 = .ok (.putfield 26, 3) := by decide +kernel
theorem d_Re_readCore_46 : decode b_Re_readCore 46 = .ok (.aload_n 0, 1) := by decide +kernel
theorem d_Re_readCore_47 : decode b_Re_readCore 47 = .ok (.getfield 9, 3) := by decide +kernel
theorem d_Re_readCore_50 : decode b_Re_readCore 50 = .ok (.iconst 1, 1) := by decide +kernel
theorem d_Re_readCore_51 : decode b_Re_readCore 51 = .ok (.if_icmp .lt 27, 3) := by decide +kernel
theorem d_Re_readCore_54 : decode b_Re_readCore 54 = .ok (.aload_n 0, 1) := by decide +kernel
theorem d_Re_readCore_55 : decode b_Re_readCore 55 = .ok (.getfield 9, 3) := by decide +kernel
theorem d_Re_readCore_58 : decode b_Re_readCore 58 = .ok (.bipush 12, 2) := by decide +kernel
theorem d_Re_readCore_60 : decode b_Re_readCore 60 = .ok (.if_icmp .ge 18, 3) := by decide +kernel
theorem d_Re_readCore_63 : decode b_Re_readCore 63 = .ok (.aload_n 0, 1) := by decide +kernel
theorem d_Re_readCore_64 : decode b_Re_readCore 64 = .ok (.aload_n 0, 1) := by decide +kernel
theorem d_Re_readCore_65 : decode b_Re_readCore 65 = .ok (.getfield 29, 3) := by decide +kernel
theorem d_Re_readCore_68 : decode b_Re_readCore 68 = .ok (.iconst 1, 1) := by decide +kernel
theorem d_Re_readCore_69 : decode b_Re_readCore 69 = .ok (.ishl, 1) := by decide +kernel
theorem d_Re_readCore_70 : decode b_Re_readCore 70 = .ok (.iload_n 1, 1) := by decide +kernel
theorem d_Re_readCore_71 : decode b_Re_readCore 71 = .ok (.ior, 1) := by decide +kernel
theorem d_Re_readCore_72 : decode b_Re_readCore 72 = .ok (.putfield 29, 3) := by decide +kernel
theorem d_Re_readCore_75 : decode b_Re_readCore 75 = .ok (.goto 67, 3) := by decide +kernel
theorem d_Re_readCore_78 : decode b_Re_readCore 78 = .ok (.aload_n 0, 1) := by decide +kernel
theorem d_Re_readCore_79 : decode b_Re_readCore 79 = .ok (.getfield 9, 3) := by decide +kernel
theorem d_Re_readCore_82 : decode b_Re_readCore 82 = .ok (.bipush 15, 2) := by decide +kernel
theorem d_Re_readCore_84 : decode b_Re_readCore 84 = .ok (.if_icmp .lt 27, 3) := by decide +kernel
theorem d_Re_readCore_87 : decode b_Re_readCore 87 = .ok (.aload_n 0, 1) := by decide +kernel
theorem d_Re_readCore_88 : decode b_Re_readCore 88 = .ok (.getfield 9, 3) := by decide +kernel
theorem d_Re_readCore_91 : decode b_Re_readCore 91 = .ok (.bipush 19, 2) := by decide +kernel
theorem d_Re_readCore_93 : decode b_Re_readCore 93 = .ok (.if_icmp .ge 18, 3) := by decide +kernel
theorem d_Re_readCore_96 : decode b_Re_readCore 96 = .ok (.aload_n 0, 1) := by decide +kernel
theorem d_Re_readCore_97 : decode b_Re_readCore 97 = .ok (.aload_n 0, 1) := by decide +kernel
theorem d_Re_readCore_98 : decode b_Re_readCore 98 = .ok (.getfield 32, 3) := by decide +kernel
theorem d_Re_readCore_101 : decode b_Re_readCore 101 = .ok (.iconst 1, 1) := by decide +kernel
theorem d_Re_readCore_102 : decode b_Re_readCore 102 = .ok (.ishl, 1) := by decide +kernel
theorem d_Re_readCore_103 : decode b_Re_readCore 103 = .ok (.iload_n 1, 1) := by decide +kernel
theorem d_Re_readCore_104 : decode b_Re_readCore 104 = .ok (.ior, 1) := by decide +kernel
theorem d_Re_readCore_105 : decode b_Re_readCore 105 = .ok (.putfield 32, 3) := by decide +kernel
theorem d_Re_readCore_108 : decode b_Re_readCore 108 = .ok (.goto 34, 3) := by decide +kernel
theorem d_Re_readCore_111 : decode b_Re_readCore 111 = .ok (.aload_n 0, 1) := by decide +kernel
theorem d_Re_readCore_112 : decode b_Re_readCore 112 = .ok (.getfield 9, 3) := by decide +kernel
theorem d_Re_readCore_115 : decode b_Re_readCore 115 = .ok (.bipush 19, 2) := by decide +kernel
theorem d_Re_readCore_117 : decode b_Re_readCore 117 = .ok (.if_icmp .lt 25, 3) := by decide +kernel
theorem d_Re_readCore_120 : decode b_Re_readCore 120 = .ok (.aload_n 0, 1) := by decide +kernel
theorem d_Re_readCore_121 : decode b_Re_readCore 121 = .ok (.getfield 9, 3) := by decide +kernel
theorem d_Re_readCore_124 : decode b_Re_readCore 124 = .ok (.bipush 19, 2) := by decide +kernel
theorem d_Re_readCore_126 : decode b_Re_readCore 126 = .ok (.bipush 8, 2) := by decide +kernel
theorem d_Re_readCore_128 : decode b_Re_readCore 128 = .ok (.aload_n 0, 1) := by decide +kernel
theorem d_Re_readCore_129 : decode b_Re_readCore 129 = .ok (.getfield 32, 3) := by decide +kernel
theorem d_Re_readCore_132 : decode b_Re_readCore 132 = .ok (.imul, 1) := by decide +kernel
theorem d_Re_readCore_133 : decode b_Re_readCore 133 = .ok (.iadd, 1) := by decide +kernel
theorem d_Re_readCore_134 : decode b_Re_readCore 134 = .ok (.if_icmp .ge 8, 3) := by decide +kernel
theorem d_Re_readCore_137 : decode b_Re_readCore 137 = .ok (.aload_n 0, 1) := by decide +kernel
theorem d_Re_readCore_138 : decode b_Re_readCore 138 = .ok (.iload_n 1, 1) := by decide +kernel
theorem d_Re_readCore_139 : decode b_Re_readCore 139 = .ok (.invokevirtual 59, 3) := by decide +kernel
theorem d_Re_readCore_142 : decode b_Re_readCore 142 = .ok (.aload_n 0, 1) := by decide +kernel
theorem d_Re_readCore_143 : decode b_Re_readCore 143 = .ok (.dup, 1) := by decide +kernel
theorem d_Re_readCore_144 : decode b_Re_readCore 144 = .ok (.getfield 9, 3) := by decide +kernel
theorem d_Re_readCore_147 : decode b_Re_readCore 147 = .ok (.iconst 1, 1) := by decide +kernel
theorem d_Re_readCore_148 : decode b_Re_readCore 148 = .ok (.iadd, 1) := by decide +kernel
theorem d_Re_readCore_149 : decode b_Re_readCore 149 = .ok (.putfield 9, 3) := by decide +kernel
theorem d_Re_readCore_152 : decode b_Re_readCore 152 = .ok (.aload_n 0, 1) := by decide +kernel
theorem d_Re_readCore_153 : decode b_Re_readCore 153 = .ok (.getfield 9, 3) := by decide +kernel
theorem d_Re_readCore_156 : decode b_Re_readCore 156 = .ok (.bipush 19, 2) := by decide +kernel
theorem d_Re_readCore_158 : decode b_Re_readCore 158 = .ok (.if_icmp .ne 14, 3) := by decide +kernel
theorem d_Re_readCore_161 : decode b_Re_readCore 161 = .ok (.aload_n 0, 1) := by decide +kernel
theorem d_Re_readCore_162 : decode b_Re_readCore 162 = .ok (.aload_n 0, 1) := by decide +kernel
theorem d_Re_readCore_163 : decode b_Re_readCore 163 = .ok (.getfield 32, 3) := by decide +kernel
theorem d_Re_readCore_166 : decode b_Re_readCore 166 = .ok (.invokestatic 62, 3) := by decide +kernel
theorem d_Re_readCore_169 : decode b_Re_readCore 169 = .ok (.putfield 17, 3) := by decide +kernel
theorem d_Re_readCore_172 : decode b_Re_readCore 172 = .ok (.return_, 1) := by decide +kernel
theorem d_Re_readData_0 : decode b_Re_readData 0 = .ok (.aload_n 0, 1) := by decide +kernel
theorem d_Re_readData_1 : decode b_Re_readData 1 = .ok (.getfield 9, 3) := by decide +kernel
theorem d_Re_readData_4 : decode b_Re_readData 4 = .ok (.bipush 19, 2) := by decide +kernel
theorem d_Re_readData_6 : decode b_Re_readData 6 = .ok (.isub, 1) := by decide +kernel
theorem d_Re_readData_7 : decode b_Re_readData 7 = .ok (.istore_n 2, 1) := by decide +kernel
theorem d_Re_readData_8 : decode b_Re_readData 8 = .ok (.bipush 8, 2) := by decide +kernel
theorem d_Re_readData_10 : decode b_Re_readData 10 = .ok (.iload_n 2, 1) := by decide +kernel
theorem d_Re_readData_11 : decode b_Re_readData 11 = .ok (.bipush 8, 2) := by decide +kernel
theorem d_Re_readData_13 : decode b_Re_readData 13 = .ok (.idiv, 1) := by decide +kernel
theorem d_Re_readData_14 : decode b_Re_readData 14 = .ok (.imul, 1) := by decide +kernel
theorem d_Re_readData_15 : decode b_Re_readData 15 = .ok (.bipush 7, 2) := by decide +kernel
theorem d_Re_readData_17 : decode b_Re_readData 17 = .ok (.iadd, 1) := by decide +kernel
theorem d_Re_readData_18 : decode b_Re_readData 18 = .ok (.iload_n 2, 1) := by decide +kernel
theorem d_Re_readData_19 : decode b_Re_readData 19 = .ok (.bipush 8, 2) := by decide +kernel
theorem d_Re_readData_21 : decode b_Re_readData 21 = .ok (.irem, 1) := by decide +kernel
theorem d_Re_readData_22 : decode b_Re_readData 22 = .ok (.isub, 1) := by decide +kernel
theorem d_Re_readData_23 : decode b_Re_readData 23 = .ok (.istore_n 3, 1) := by decide +kernel
theorem d_Re_readData_24 : decode b_Re_readData 24 = .ok (.aload_n 0, 1) := by decide +kernel
theorem d_Re_readData_25 : decode b_Re_readData 25 = .ok (.dup, 1) := by decide +kernel
theorem d_Re_readData_26 : decode b_Re_readData 26 = .ok (.getfield 35, 3) := by decide +kernel
theorem d_Re_readData_29 : decode b_Re_readData 29 = .ok (.iload_n 1, 1) := by decide +kernel
theorem d_Re_readData_30 : decode b_Re_readData 30 = .ok (.iload_n 3, 1) := by decide +kernel
theorem d_Re_readData_31 : decode b_Re_readData 31 = .ok (.ishl, 1) := by decide +kernel
theorem d_Re_readData_32 : decode b_Re_readData 32 = .ok (.ior, 1) := by decide +kernel
theorem d_Re_readData_33 : decode b_Re_readData 33 = .ok (.putfield 35, 3) := by decide +kernel
theorem d_Re_readData_36 : decode b_Re_readData 36 = .ok (.return_, 1) := by decide +kernel
theorem d_Co_lengthFor_0 : decode b_Co_lengthFor 0 = .ok (.bipush 19, 2) := by decide +kernel
theorem d_Co_lengthFor_2 : decode b_Co_lengthFor 2 = .ok (.bipush 8, 2) := by decide +kernel
theorem d_Co_lengthFor_4 : decode b_Co_lengthFor 4 = .ok (.iload_n 0, 1) := by decide +kernel
theorem d_Co_lengthFor_5 : decode b_Co_lengthFor 5 = .ok (.imul, 1) := by decide +kernel
theorem d_Co_lengthFor_6 : decode b_Co_lengthFor 6 = .ok (.iadd, 1) := by decide +kernel
theorem d_Co_lengthFor_7 : decode b_Co_lengthFor 7 = .ok (.bipush 15, 2) := by decide +kernel
theorem d_Co_lengthFor_9 : decode b_Co_lengthFor 9 = .ok (.iadd, 1) := by decide +kernel
theorem d_Co_lengthFor_10 : decode b_Co_lengthFor 10 = .ok (.ireturn, 1) := by decide +kernel
theorem d_Re_isAtEnd_0 : decode b_Re_isAtEnd 0 = .ok (.aload_n 0, 1) := by decide +kernel
theorem d_Re_isAtEnd_1 : decode b_Re_isAtEnd 1 = .ok (.getfield 9, 3) := by decide +kernel
theorem d_Re_isAtEnd_4 : decode b_Re_isAtEnd 4 = .ok (.aload_n 0, 1) := by decide +kernel
theorem d_Re_isAtEnd_5 : decode b_Re_isAtEnd 5 = .ok (.getfield 17, 3) := by decide +kernel
theorem d_Re_isAtEnd_8 : decode b_Re_isAtEnd 8 = .ok (.isub, 1) := by decide +kernel
theorem d_Re_isAtEnd_9 : decode b_Re_isAtEnd 9 = .ok (.bipush 9, 2) := by decide +kernel
theorem d_Re_isAtEnd_11 : decode b_Re_isAtEnd 11 = .ok (.if_icmp .le 7, 3) := by decide +kernel
theorem d_Re_isAtEnd_14 : decode b_Re_isAtEnd 14 = .ok (.iconst 1, 1) := by decide +kernel
theorem d_Re_isAtEnd_15 : decode b_Re_isAtEnd 15 = .ok (.goto 4, 3) := by decide +kernel
theorem d_Re_isAtEnd_18 : decode b_Re_isAtEnd 18 = .ok (.iconst 0, 1) := by decide +kernel
theorem d_Re_isAtEnd_19 : decode b_Re_isAtEnd 19 = .ok (.ireturn, 1) := by decide +kernel
theorem d_No_endSending_0 : decode b_No_endSending 0 = .ok (.aload_n 0, 1) := by decide +kernel
theorem d_No_endSending_1 : decode b_No_endSending 1 = .ok (.getfield 12, 3) := by decide +kernel
theorem d_No_endSending_4 : decode b_No_endSending 4 = .ok (.aload_n 0, 1) := by decide +kernel
theorem d_No_endSending_5 : decode b_No_endSending 5 = .ok (.getfield 64, 3) := by decide +kernel
theorem d_No_endSending_8 : decode b_No_endSending 8 = .ok (.invokevirtual 171, 3) := by decide +kernel
theorem d_No_endSending_11 : decode b_No_endSending 11 = .ok (.pop, 1) := by decide +kernel
theorem d_No_endSending_12 : decode b_No_endSending 12 = .ok (.aload_n 0, 1) := by decide +kernel
theorem d_No_endSending_13 : decode b_No_endSending 13 = .ok (.getfield 49, 3) := by decide +kernel
theorem d_No_endSending_16 : decode b_No_endSending 16 = .ok (.ifCond .le 13, 3) := by decide +kernel
theorem d_No_endSending_19 : decode b_No_endSending 19 = .ok (.aload_n 0, 1) := by decide +kernel
theorem d_No_endSending_20 : decode b_No_endSending 20 = .ok (.dup, 1) := by decide +kernel
theorem d_No_endSending_21 : decode b_No_endSending 21 = .ok (.getfield 49, 3) := by decide +kernel
theorem d_No_endSending_24 : decode b_No_endSending 24 = .ok (.iconst 1, 1) := by decide +kernel
theorem d_No_endSending_25 : decode b_No_endSending 25 = .ok (.isub, 1) := by decide +kernel
theorem d_No_endSending_26 : decode b_No_endSending 26 = .ok (.putfield 49, 3) := by decide +kernel
theorem d_No_endSending_29 : decode b_No_endSending 29 = .ok (.aload_n 0, 1) := by decide +kernel
theorem d_No_endSending_30 : decode b_No_endSending 30 = .ok (.invokevirtual 174, 3) := by decide +kernel
theorem d_No_endSending_33 : decode b_No_endSending 33 = .ok (.iconst 1, 1) := by decide +kernel
theorem d_No_endSending_34 : decode b_No_endSending 34 = .ok (.ireturn, 1) := by decide +kernel
theorem d_Fr_remove_0 : decode b_Fr_remove 0 = .ok (.aload_n 0, 1) := by decide +kernel
theorem d_Fr_remove_1 : decode b_Fr_remove 1 = .ok (.iload_n 1, 1) := by decide +kernel
theorem d_Fr_remove_2 : decode b_Fr_remove 2 = .ok (.invokevirtual 27, 3) := by decide +kernel
theorem d_Fr_remove_5 : decode b_Fr_remove 5 = .ok (.istore_n 2, 1) := by decide +kernel
theorem d_Fr_remove_6 : decode b_Fr_remove 6 = .ok (.iload_n 1, 1) := by decide +kernel
theorem d_Fr_remove_7 : decode b_Fr_remove 7 = .ok (.ifCond .lt 51, 3) := by decide +kernel
theorem d_Fr_remove_10 : decode b_Fr_remove 10 = .ok (.iload_n 1, 1) := by decide +kernel
theorem d_Fr_remove_11 : decode b_Fr_remove 11 = .ok (.aload_n 0, 1) := by decide +kernel
theorem d_Fr_remove_12 : decode b_Fr_remove 12 = .ok (.getfield 15, 3) := by decide +kernel
theorem d_Fr_remove_15 : decode b_Fr_remove 15 = .ok (.if_icmp .ge 43, 3) := by decide +kernel
theorem d_Fr_remove_18 : decode b_Fr_remove 18 = .ok (.aload_n 0, 1) := by decide +kernel
theorem d_Fr_remove_19 : decode b_Fr_remove 19 = .ok (.dup, 1) := by decide +kernel
theorem d_Fr_remove_20 : decode b_Fr_remove 20 = .ok (.getfield 15, 3) := by decide +kernel
theorem d_Fr_remove_23 : decode b_Fr_remove 23 = .ok (.iconst 1, 1) := by decide +kernel
theorem d_Fr_remove_24 : decode b_Fr_remove 24 = .ok (.isub, 1) := by decide +kernel
theorem d_Fr_remove_25 : decode b_Fr_remove 25 = .ok (.putfield 15, 3) := by decide +kernel
theorem d_Fr_remove_28 : decode b_Fr_remove 28 = .ok (.iload_n 1, 1) := by decide +kernel
theorem d_Fr_remove_29 : decode b_Fr_remove 29 = .ok (.istore_n 3, 1) := by decide +kernel
theorem d_Fr_remove_30 : decode b_Fr_remove 30 = .ok (.iload_n 3, 1) := by decide +kernel
theorem d_Fr_remove_31 : decode b_Fr_remove 31 = .ok (.aload_n 0, 1) := by decide +kernel
theorem d_Fr_remove_32 : decode b_Fr_remove 32 = .ok (.getfield 15, 3) := by decide +kernel
theorem d_Fr_remove_35 : decode b_Fr_remove 35 = .ok (.if_icmp .ge 23, 3) := by decide +kernel
theorem d_Fr_remove_38 : decode b_Fr_remove 38 = .ok (.aload_n 0, 1) := by decide +kernel
theorem d_Fr_remove_39 : decode b_Fr_remove 39 = .ok (.getfield 9, 3) := by decide +kernel
theorem d_Fr_remove_42 : decode b_Fr_remove 42 = .ok (.iload_n 3, 1) := by decide +kernel
theorem d_Fr_remove_43 : decode b_Fr_remove 43 = .ok (.aload_n 0, 1) := by decide +kernel
theorem d_Fr_remove_44 : decode b_Fr_remove 44 = .ok (.getfield 9, 3) := by decide +kernel
theorem d_Fr_remove_47 : decode b_Fr_remove 47 = .ok (.iload_n 3, 1) := by decide +kernel
theorem d_Fr_remove_48 : decode b_Fr_remove 48 = .ok (.iconst 1, 1) := by decide +kernel
theorem d_Fr_remove_49 : decode b_Fr_remove 49 = .ok (.iadd, 1) := by decide +kernel
theorem d_Fr_remove_50 : decode b_Fr_remove 50 = .ok (.iaload, 1) := by decide +kernel
theorem d_Fr_remove_51 : decode b_Fr_remove 51 = .ok (.iastore, 1) := by decide +kernel
theorem d_Fr_remove_52 : decode b_Fr_remove 52 = .ok (.iinc 3 1, 3) := by decide +kernel
theorem d_Fr_remove_55 : decode b_Fr_remove 55 = .ok (.goto (-25), 3) := by decide +kernel
theorem d_Fr_remove_58 : decode b_Fr_remove 58 = .ok (.iload_n 2, 1) := by decide +kernel
theorem d_Fr_remove_59 : decode b_Fr_remove 59 = .ok (.ireturn, 1) := by decide +kernel
theorem d_No_beginPause_0 : decode b_No_beginPause 0 = .ok (.aload_n 0, 1) := by decide +kernel
theorem d_No_beginPause_1 : decode b_No_beginPause 1 = .ok (.iconst 5, 1) := by decide +kernel
theorem d_No_beginPause_2 : decode b_No_beginPause 2 = .ok (.putfield 42, 3) := by decide +kernel
theorem d_No_beginPause_5 : decode b_No_beginPause 5 = .ok (.aload_n 0, 1) := by decide +kernel
theorem d_No_beginPause_6 : decode b_No_beginPause 6 = .ok (.iconst 0, 1) := by decide +kernel
theorem d_No_beginPause_7 : decode b_No_beginPause 7 = .ok (.putfield 74, 3) := by decide +kernel
theorem d_No_beginPause_10 : decode b_No_beginPause 10 = .ok (.return_, 1) := by decide +kernel
theorem d_No_seeHearing_0 : decode b_No_seeHearing 0 = .ok (.aload_n 0, 1) := by decide +kernel
theorem d_No_seeHearing_1 : decode b_No_seeHearing 1 = .ok (.getfield 38, 3) := by decide +kernel
theorem d_No_seeHearing_4 : decode b_No_seeHearing 4 = .ok (.iload_n 1, 1) := by decide +kernel
theorem d_No_seeHearing_5 : decode b_No_seeHearing 5 = .ok (.invokevirtual 177, 3) := by decide +kernel
theorem d_No_seeHearing_8 : decode b_No_seeHearing 8 = .ok (.istore_n 2, 1) := by decide +kernel
theorem d_No_seeHearing_9 : decode b_No_seeHearing 9 = .ok (.iload_n 2, 1) := by decide +kernel
theorem d_No_seeHearing_10 : decode b_No_seeHearing 10 = .ok (.ifCond .eq 9, 3) := by decide +kernel
theorem d_No_seeHearing_13 : decode b_No_seeHearing 13 = .ok (.aload_n 0, 1) := by decide +kernel
theorem d_No_seeHearing_14 : decode b_No_seeHearing 14 = .ok (.iload_n 2, 1) := by decide +kernel
theorem d_No_seeHearing_15 : decode b_No_seeHearing 15 = .ok (.invokevirtual 159, 3) := by decide +kernel
theorem d_No_seeHearing_18 : decode b_No_seeHearing 18 = .ok (.ireturn, 1) := by decide +kernel
theorem d_No_seeHearing_19 : decode b_No_seeHearing 19 = .ok (.aload_n 0, 1) := by decide +kernel
theorem d_No_seeHearing_20 : decode b_No_seeHearing 20 = .ok (.getfield 38, 3) := by decide +kernel
theorem d_No_seeHearing_23 : decode b_No_seeHearing 23 = .ok (.iload_n 1, 1) := by decide +kernel
theorem d_No_seeHearing_24 : decode b_No_seeHearing 24 = .ok (.invokevirtual 156, 3) := by decide +kernel
theorem d_No_seeHearing_27 : decode b_No_seeHearing 27 = .ok (.aload_n 0, 1) := by decide +kernel
theorem d_No_seeHearing_28 : decode b_No_seeHearing 28 = .ok (.getfield 38, 3) := by decide +kernel
theorem d_No_seeHearing_31 : decode b_No_seeHearing 31 = .ok (.invokevirtual 165, 3) := by decide +kernel
theorem d_No_seeHearing_34 : decode b_No_seeHearing 34 = .ok (.ifCond .eq 11, 3) := by decide +kernel
theorem d_No_seeHearing_37 : decode b_No_seeHearing 37 = .ok (.aload_n 0, 1) := by decide +kernel
theorem d_No_seeHearing_38 : decode b_No_seeHearing 38 = .ok (.iload_n 1, 1) := by decide +kernel
theorem d_No_seeHearing_39 : decode b_No_seeHearing 39 = .ok (.invokevirtual 180, 3) := by decide +kernel
theorem d_No_seeHearing_42 : decode b_No_seeHearing 42 = .ok (.goto 4, 3) := by decide +kernel
theorem d_No_seeHearing_45 : decode b_No_seeHearing 45 = .ok (.iconst 0, 1) := by decide +kernel
theorem d_No_seeHearing_46 : decode b_No_seeHearing 46 = .ok (.ireturn, 1) := by decide +kernel
theorem d_Re_errorOf_0 : decode b_Re_errorOf 0 = .ok (.aload_n 0, 1) := by decide +kernel
theorem d_Re_errorOf_1 : decode b_Re_errorOf 1 = .ok (.invokevirtual 38, 3) := by decide +kernel
theorem d_Re_errorOf_4 : decode b_Re_errorOf 4 = .ok (.ifCond .eq 17, 3) := by decide +kernel
theorem d_Re_errorOf_7 : decode b_Re_errorOf 7 = .ok (.iload_n 1, 1) := by decide +kernel
theorem d_Re_errorOf_8 : decode b_Re_errorOf 8 = .ok (.aload_n 0, 1) := by decide +kernel
theorem d_Re_errorOf_9 : decode b_Re_errorOf 9 = .ok (.getfield 20, 3) := by decide +kernel
theorem d_Re_errorOf_12 : decode b_Re_errorOf 12 = .ok (.if_icmp .ne 7, 3) := by decide +kernel
theorem d_Re_errorOf_15 : decode b_Re_errorOf 15 = .ok (.iconst 3, 1) := by decide +kernel
theorem d_Re_errorOf_16 : decode b_Re_errorOf 16 = .ok (.goto 4, 3) := by decide +kernel
theorem d_Re_errorOf_19 : decode b_Re_errorOf 19 = .ok (.iconst 0, 1) := by decide +kernel
theorem d_Re_errorOf_20 : decode b_Re_errorOf 20 = .ok (.ireturn, 1) := by decide +kernel
theorem d_Re_errorOf_21 : decode b_Re_errorOf 21 = .ok (.aload_n 0, 1) := by decide +kernel
theorem d_Re_errorOf_22 : decode b_Re_errorOf 22 = .ok (.invokevirtual 42, 3) := by decide +kernel
theorem d_Re_errorOf_25 : decode b_Re_errorOf 25 = .ok (.ifCond .eq 18, 3) := by decide +kernel
theorem d_Re_errorOf_28 : decode b_Re_errorOf 28 = .ok (.aload_n 0, 1) := by decide +kernel
theorem d_Re_errorOf_29 : decode b_Re_errorOf 29 = .ok (.aload_n 0, 1) := by decide +kernel
theorem d_Re_errorOf_30 : decode b_Re_errorOf 30 = .ok (.getfield 9, 3) := by decide +kernel
theorem d_Re_errorOf_33 : decode b_Re_errorOf 33 = .ok (.aload_n 0, 1) := by decide +kernel
theorem d_Re_errorOf_34 : decode b_Re_errorOf 34 = .ok (.getfield 17, 3) := by decide +kernel
theorem d_Re_errorOf_37 : decode b_Re_errorOf 37 = .ok (.isub, 1) := by decide +kernel
theorem d_Re_errorOf_38 : decode b_Re_errorOf 38 = .ok (.iload_n 1, 1) := by decide +kernel
theorem d_Re_errorOf_39 : decode b_Re_errorOf 39 = .ok (.invokevirtual 66, 3) := by decide +kernel
theorem d_Re_errorOf_42 : decode b_Re_errorOf 42 = .ok (.ireturn, 1) := by decide +kernel
theorem d_Re_errorOf_43 : decode b_Re_errorOf 43 = .ok (.aload_n 0, 1) := by decide +kernel
theorem d_Re_errorOf_44 : decode b_Re_errorOf 44 = .ok (.getfield 9, 3) := by decide +kernel
theorem d_Re_errorOf_47 : decode b_Re_errorOf 47 = .ok (.bipush 12, 2) := by decide +kernel
theorem d_Re_errorOf_49 : decode b_Re_errorOf 49 = .ok (.if_icmp .lt 20, 3) := by decide +kernel
theorem d_Re_errorOf_52 : decode b_Re_errorOf 52 = .ok (.aload_n 0, 1) := by decide +kernel
theorem d_Re_errorOf_53 : decode b_Re_errorOf 53 = .ok (.getfield 9, 3) := by decide +kernel
theorem d_Re_errorOf_56 : decode b_Re_errorOf 56 = .ok (.bipush 15, 2) := by decide +kernel
theorem d_Re_errorOf_58 : decode b_Re_errorOf 58 = .ok (.if_icmp .ge 11, 3) := by decide +kernel
theorem d_Re_errorOf_61 : decode b_Re_errorOf 61 = .ok (.iload_n 1, 1) := by decide +kernel
theorem d_Re_errorOf_62 : decode b_Re_errorOf 62 = .ok (.ifCond .eq 7, 3) := by decide +kernel
theorem d_Re_errorOf_65 : decode b_Re_errorOf 65 = .ok (.iconst 1, 1) := by decide +kernel
theorem d_Re_errorOf_66 : decode b_Re_errorOf 66 = .ok (.goto 4, 3) := by decide +kernel
theorem d_Re_errorOf_69 : decode b_Re_errorOf 69 = .ok (.iconst 0, 1) := by decide +kernel
theorem d_Re_errorOf_70 : decode b_Re_errorOf 70 = .ok (.istore_n 2, 1) := by decide +kernel
theorem d_Re_errorOf_71 : decode b_Re_errorOf 71 = .ok (.aload_n 0, 1) := by decide +kernel
theorem d_Re_errorOf_72 : decode b_Re_errorOf 72 = .ok (.getfield 9, 3) := by decide +kernel
theorem d_Re_errorOf_75 : decode b_Re_errorOf 75 = .ok (.bipush 18, 2) := by decide +kernel
theorem d_Re_errorOf_77 : decode b_Re_errorOf 77 = .ok (.if_icmp .ne 19, 3) := by decide +kernel
theorem d_Re_errorOf_80 : decode b_Re_errorOf 80 = .ok (.aload_n 0, 1) := by decide +kernel
theorem d_Re_errorOf_81 : decode b_Re_errorOf 81 = .ok (.getfield 32, 3) := by decide +kernel
theorem d_Re_errorOf_84 : decode b_Re_errorOf 84 = .ok (.iconst 1, 1) := by decide +kernel
theorem d_Re_errorOf_85 : decode b_Re_errorOf 85 = .ok (.ishl, 1) := by decide +kernel
theorem d_Re_errorOf_86 : decode b_Re_errorOf 86 = .ok (.iload_n 1, 1) := by decide +kernel
theorem d_Re_errorOf_87 : decode b_Re_errorOf 87 = .ok (.ior, 1) := by decide +kernel
theorem d_Re_errorOf_88 : decode b_Re_errorOf 88 = .ok (.iconst 2, 1) := by decide +kernel
theorem d_Re_errorOf_89 : decode b_Re_errorOf 89 = .ok (.if_icmp .le 7, 3) := by decide +kernel
theorem d_Re_errorOf_92 : decode b_Re_errorOf 92 = .ok (.iconst 1, 1) := by decide +kernel
theorem d_Re_errorOf_93 : decode b_Re_errorOf 93 = .ok (.goto 4, 3) := by decide +kernel
theorem d_Re_errorOf_96 : decode b_Re_errorOf 96 = .ok (.iconst 0, 1) := by decide +kernel
theorem d_Re_errorOf_97 : decode b_Re_errorOf 97 = .ok (.istore_n 3, 1) := by decide +kernel
theorem d_Re_errorOf_98 : decode b_Re_errorOf 98 = .ok (.iload_n 2, 1) := by decide +kernel
theorem d_Re_errorOf_99 : decode b_Re_errorOf 99 = .ok (.ifCond .ne 7, 3) := by decide +kernel
theorem d_Re_errorOf_102 : decode b_Re_errorOf 102 = .ok (.iload_n 3, 1) := by decide +kernel
theorem d_Re_errorOf_103 : decode b_Re_errorOf 103 = .ok (.ifCond .eq 7, 3) := by decide +kernel
theorem d_Re_errorOf_106 : decode b_Re_errorOf 106 = .ok (.iconst 4, 1) := by decide +kernel
theorem d_Re_errorOf_107 : decode b_Re_errorOf 107 = .ok (.goto 4, 3) := by decide +kernel
theorem d_Re_errorOf_110 : decode b_Re_errorOf 110 = .ok (.iconst 0, 1) := by decide +kernel
theorem d_Re_errorOf_111 : decode b_Re_errorOf 111 = .ok (.ireturn, 1) := by decide +kernel
theorem d_Re_errorBehindCore_0 : decode b_Re_errorBehindCore 0 = .ok (.iload_n 1, 1) := by decide +kernel
theorem d_Re_errorBehindCore_1 : decode b_Re_errorBehindCore 1 = .ok (.iconst 2, 1) := by decide +kernel
theorem d_Re_errorBehindCore_2 : decode b_Re_errorBehindCore 2 = .ok (.if_icmp .ne 12, 3) := by decide +kernel
theorem d_Re_errorBehindCore_5 : decode b_Re_errorBehindCore 5 = .ok (.aload_n 0, 1) := by decide +kernel
theorem d_Re_errorBehindCore_6 : decode b_Re_errorBehindCore 6 = .ok (.invokevirtual 69, 3) := by decide +kernel
theorem d_Re_errorBehindCore_9 : decode b_Re_errorBehindCore 9 = .ok (.ifCond .ne 5, 3) := by decide +kernel
theorem d_Re_errorBehindCore_12 : decode b_Re_errorBehindCore 12 = .ok (.iconst 5, 1) := by decide +kernel
theorem d_Re_errorBehindCore_13 : decode b_Re_errorBehindCore 13 = .ok (.ireturn, 1) := by decide +kernel
theorem d_Re_errorBehindCore_14 : decode b_Re_errorBehindCore 14 = .ok (.iload_n 1, 1) := by decide +kernel
theorem d_Re_errorBehindCore_15 : decode b_Re_errorBehindCore 15 = .ok (.iconst 1, 1) := by decide +kernel
theorem d_Re_errorBehindCore_16 : decode b_Re_errorBehindCore 16 = .ok (.if_icmp .eq 9, 3) := by decide +kernel
theorem d_Re_errorBehindCore_19 : decode b_Re_errorBehindCore 19 = .ok (.iload_n 1, 1) := by decide +kernel
theorem d_Re_errorBehindCore_20 : decode b_Re_errorBehindCore 20 = .ok (.bipush 9, 2) := by decide +kernel
theorem d_Re_errorBehindCore_22 : decode b_Re_errorBehindCore 22 = .ok (.if_icmp .lt 7, 3) := by decide +kernel
theorem d_Re_errorBehindCore_25 : decode b_Re_errorBehindCore 25 = .ok (.iconst 1, 1) := by decide +kernel
theorem d_Re_errorBehindCore_26 : decode b_Re_errorBehindCore 26 = .ok (.goto 4, 3) := by decide +kernel
theorem d_Re_errorBehindCore_29 : decode b_Re_errorBehindCore 29 = .ok (.iconst 0, 1) := by decide +kernel
theorem d_Re_errorBehindCore_30 : decode b_Re_errorBehindCore 30 = .ok (.istore_n 3, 1) := by decide +kernel
theorem d_Re_errorBehindCore_31 : decode b_Re_errorBehindCore 31 = .ok (.iload_n 2, 1) := by decide +kernel
theorem d_Re_errorBehindCore_32 : decode b_Re_errorBehindCore 32 = .ok (.ifCond .ne 11, 3) := by decide +kernel
theorem d_Re_errorBehindCore_35 : decode b_Re_errorBehindCore 35 = .ok (.iload_n 3, 1) := by decide +kernel
theorem d_Re_errorBehindCore_36 : decode b_Re_errorBehindCore 36 = .ok (.ifCond .ne 7, 3) := by decide +kernel
theorem d_Re_errorBehindCore_39 : decode b_Re_errorBehindCore 39 = .ok (.iconst 4, 1) := by decide +kernel
theorem d_Re_errorBehindCore_40 : decode b_Re_errorBehindCore 40 = .ok (.goto 4, 3) := by decide +kernel
theorem d_Re_errorBehindCore_43 : decode b_Re_errorBehindCore 43 = .ok (.iconst 0, 1) := by decide +kernel
theorem d_Re_errorBehindCore_44 : decode b_Re_errorBehindCore 44 = .ok (.ireturn, 1) := by decide +kernel
theorem d_No_endHearing_0 : decode b_No_endHearing 0 = .ok (.aload_n 0, 1) := by decide +kernel
theorem d_No_endHearing_1 : decode b_No_endHearing 1 = .ok (.getfield 52, 3) := by decide +kernel
theorem d_No_endHearing_4 : decode b_No_endHearing 4 = .ok (.ifCond .le 18, 3) := by decide +kernel
theorem d_No_endHearing_7 : decode b_No_endHearing 7 = .ok (.aload_n 0, 1) := by decide +kernel
theorem d_No_endHearing_8 : decode b_No_endHearing 8 = .ok (.aload_n 0, 1) := by decide +kernel
theorem d_No_endHearing_9 : decode b_No_endHearing 9 = .ok (.getfield 52, 3) := by decide +kernel
theorem d_No_endHearing_12 : decode b_No_endHearing 12 = .ok (.iconst 1, 1) := by decide +kernel
theorem d_No_endHearing_13 : decode b_No_endHearing 13 = .ok (.isub, 1) := by decide +kernel
theorem d_No_endHearing_14 : decode b_No_endHearing 14 = .ok (.bipush 127, 2) := by decide +kernel
theorem d_No_endHearing_16 : decode b_No_endHearing 16 = .ok (.invokestatic 183, 3) := by decide +kernel
theorem d_No_endHearing_19 : decode b_No_endHearing 19 = .ok (.putfield 52, 3) := by decide +kernel
theorem d_No_endHearing_22 : decode b_No_endHearing 22 = .ok (.aload_n 0, 1) := by decide +kernel
theorem d_No_endHearing_23 : decode b_No_endHearing 23 = .ok (.getfield 38, 3) := by decide +kernel
theorem d_No_endHearing_26 : decode b_No_endHearing 26 = .ok (.getfield 189, 3) := by decide +kernel
theorem d_No_endHearing_29 : decode b_No_endHearing 29 = .ok (.aload_n 0, 1) := by decide +kernel
theorem d_No_endHearing_30 : decode b_No_endHearing 30 = .ok (.getfield 58, 3) := by decide +kernel
theorem d_No_endHearing_33 : decode b_No_endHearing 33 = .ok (.iand, 1) := by decide +kernel
theorem d_No_endHearing_34 : decode b_No_endHearing 34 = .ok (.aload_n 0, 1) := by decide +kernel
theorem d_No_endHearing_35 : decode b_No_endHearing 35 = .ok (.getfield 61, 3) := by decide +kernel
theorem d_No_endHearing_38 : decode b_No_endHearing 38 = .ok (.if_icmp .ne 14, 3) := by decide +kernel
theorem d_No_endHearing_41 : decode b_No_endHearing 41 = .ok (.aload_n 0, 1) := by decide +kernel
theorem d_No_endHearing_42 : decode b_No_endHearing 42 = .ok (.aload_n 0, 1) := by decide +kernel
theorem d_No_endHearing_43 : decode b_No_endHearing 43 = .ok (.getfield 38, 3) := by decide +kernel
theorem d_No_endHearing_46 : decode b_No_endHearing 46 = .ok (.invokevirtual 192, 3) := by decide +kernel
theorem d_No_endHearing_49 : decode b_No_endHearing 49 = .ok (.invokevirtual 195, 3) := by decide +kernel
theorem d_No_endHearing_52 : decode b_No_endHearing 52 = .ok (.iload_n 1, 1) := by decide +kernel
theorem d_No_endHearing_53 : decode b_No_endHearing 53 = .ok (.ifCond .ne 8, 3) := by decide +kernel
theorem d_No_endHearing_56 : decode b_No_endHearing 56 = .ok (.aload_n 0, 1) := by decide +kernel
theorem d_No_endHearing_57 : decode b_No_endHearing 57 = .ok (.invokevirtual 198, 3) := by decide +kernel
theorem d_No_endHearing_60 : decode b_No_endHearing 60 = .ok (.ireturn, 1) := by decide +kernel
theorem d_No_endHearing_61 : decode b_No_endHearing 61 = .ok (.aload_n 0, 1) := by decide +kernel
theorem d_No_endHearing_62 : decode b_No_endHearing 62 = .ok (.invokevirtual 174, 3) := by decide +kernel
theorem d_No_endHearing_65 : decode b_No_endHearing 65 = .ok (.iconst 0, 1) := by decide +kernel
theorem d_No_endHearing_66 : decode b_No_endHearing 66 = .ok (.ireturn, 1) := by decide +kernel
theorem d_Re_frame_0 : decode b_Re_frame 0 = .ok (.aload_n 0, 1) := by decide +kernel
theorem d_Re_frame_1 : decode b_Re_frame 1 = .ok (.getfield 29, 3) := by decide +kernel
theorem d_Re_frame_4 : decode b_Re_frame 4 = .ok (.aload_n 0, 1) := by decide +kernel
theorem d_Re_frame_5 : decode b_Re_frame 5 = .ok (.getfield 32, 3) := by decide +kernel
theorem d_Re_frame_8 : decode b_Re_frame 8 = .ok (.aload_n 0, 1) := by decide +kernel
theorem d_Re_frame_9 : decode b_Re_frame 9 = .ok (.getfield 35, 3) := by decide +kernel
theorem d_Re_frame_12 : decode b_Re_frame 12 = .ok (.invokestatic 45, 3) := by decide +kernel
theorem d_Re_frame_15 : decode b_Re_frame 15 = .ok (.ireturn, 1) := by decide +kernel
theorem d_No_keep_0 : decode b_No_keep 0 = .ok (.aload_n 0, 1) := by decide +kernel
theorem d_No_keep_1 : decode b_No_keep 1 = .ok (.getfield 18, 3) := by decide +kernel
theorem d_No_keep_4 : decode b_No_keep 4 = .ok (.invokevirtual 201, 3) := by decide +kernel
theorem d_No_keep_7 : decode b_No_keep 7 = .ok (.ifCond .eq 16, 3) := by decide +kernel
theorem d_No_keep_10 : decode b_No_keep 10 = .ok (.aload_n 0, 1) := by decide +kernel
theorem d_No_keep_11 : decode b_No_keep 11 = .ok (.dup, 1) := by decide +kernel
theorem d_No_keep_12 : decode b_No_keep 12 = .ok (.getfield 55, 3) := by decide +kernel
theorem d_No_keep_15 : decode b_No_keep 15 = .ok (.iconst 1, 1) := by decide +kernel
theorem d_No_keep_16 : decode b_No_keep 16 = .ok (.iadd, 1) := by decide +kernel
theorem d_No_keep_17 : decode b_No_keep 17 = .ok (.putfield 55, 3) := by decide +kernel
theorem d_No_keep_20 : decode b_No_keep 20 = .ok (.goto 11, 3) := by decide +kernel
theorem d_No_keep_23 : decode b_No_keep 23 = .ok (.aload_n 0, 1) := by decide +kernel
theorem d_No_keep_24 : decode b_No_keep 24 = .ok (.getfield 18, 3) := by decide +kernel
theorem d_No_keep_27 : decode b_No_keep 27 = .ok (.iload_n 1, 1) := by decide +kernel
theorem d_No_keep_28 : decode b_No_keep 28 = .ok (.invokevirtual 204, 3) := by decide +kernel
theorem d_No_keep_31 : decode b_No_keep 31 = .ok (.return_, 1) := by decide +kernel
theorem d_No_overload_0 : decode b_No_overload 0 = .ok (.aload_n 0, 1) := by decide +kernel
theorem d_No_overload_1 : decode b_No_overload 1 = .ok (.iconst 0, 1) := by decide +kernel
theorem d_No_overload_2 : decode b_No_overload 2 = .ok (.putfield 46, 3) := by decide +kernel
theorem d_No_overload_5 : decode b_No_overload 5 = .ok (.aload_n 0, 1) := by decide +kernel
theorem d_No_overload_6 : decode b_No_overload 6 = .ok (.iconst 0, 1) := by decide +kernel
theorem d_No_overload_7 : decode b_No_overload 7 = .ok (.invokevirtual 210, 3) := by decide +kernel
theorem d_No_overload_10 : decode b_No_overload 10 = .ok (.bipush 7, 2) := by decide +kernel
theorem d_No_overload_12 : decode b_No_overload 12 = .ok (.ireturn, 1) := by decide +kernel
theorem d_No_seeInFlag_0 : decode b_No_seeInFlag 0 = .ok (.aload_n 0, 1) := by decide +kernel
theorem d_No_seeInFlag_1 : decode b_No_seeInFlag 1 = .ok (.dup, 1) := by decide +kernel
theorem d_No_seeInFlag_2 : decode b_No_seeInFlag 2 = .ok (.getfield 74, 3) := by decide +kernel
theorem d_No_seeInFlag_5 : decode b_No_seeInFlag 5 = .ok (.iconst 1, 1) := by decide +kernel
theorem d_No_seeInFlag_6 : decode b_No_seeInFlag 6 = .ok (.iadd, 1) := by decide +kernel
theorem d_No_seeInFlag_7 : decode b_No_seeInFlag 7 = .ok (.putfield 74, 3) := by decide +kernel
theorem d_No_seeInFlag_10 : decode b_No_seeInFlag 10 = .ok (.aload_n 0, 1) := by decide +kernel
theorem d_No_seeInFlag_11 : decode b_No_seeInFlag 11 = .ok (.getfield 74, 3) := by decide +kernel
theorem d_No_seeInFlag_14 : decode b_No_seeInFlag 14 = .ok (.bipush 6, 2) := by decide +kernel
theorem d_No_seeInFlag_16 : decode b_No_seeInFlag 16 = .ok (.if_icmp .lt 18, 3) := by decide +kernel
theorem d_No_seeInFlag_19 : decode b_No_seeInFlag 19 = .ok (.aload_n 0, 1) := by decide +kernel
theorem d_No_seeInFlag_20 : decode b_No_seeInFlag 20 = .ok (.iconst 4, 1) := by decide +kernel
theorem d_No_seeInFlag_21 : decode b_No_seeInFlag 21 = .ok (.putfield 42, 3) := by decide +kernel
theorem d_No_seeInFlag_24 : decode b_No_seeInFlag 24 = .ok (.aload_n 0, 1) := by decide +kernel
theorem d_No_seeInFlag_25 : decode b_No_seeInFlag 25 = .ok (.iconst 0, 1) := by decide +kernel
theorem d_No_seeInFlag_26 : decode b_No_seeInFlag 26 = .ok (.putfield 74, 3) := by decide +kernel
theorem d_No_seeInFlag_29 : decode b_No_seeInFlag 29 = .ok (.aload_n 0, 1) := by decide +kernel
theorem d_No_seeInFlag_30 : decode b_No_seeInFlag 30 = .ok (.iconst 0, 1) := by decide +kernel
theorem d_No_seeInFlag_31 : decode b_No_seeInFlag 31 = .ok (.putfield 77, 3) := by decide +kernel
theorem d_No_seeInFlag_34 : decode b_No_seeInFlag 34 = .ok (.aload_n 0, 1) := by decide +kernel
theorem d_No_seeInFlag_35 : decode b_No_seeInFlag 35 = .ok (.getfield 67, 3) := by decide +kernel
theorem d_No_seeInFlag_38 : decode b_No_seeInFlag 38 = .ok (.ifCond .ne 12, 3) := by decide +kernel
theorem d_No_seeInFlag_41 : decode b_No_seeInFlag 41 = .ok (.iload_n 1, 1) := by decide +kernel
theorem d_No_seeInFlag_42 : decode b_No_seeInFlag 42 = .ok (.iconst 1, 1) := by decide +kernel
theorem d_No_seeInFlag_43 : decode b_No_seeInFlag 43 = .ok (.if_icmp .ne 7, 3) := by decide +kernel
theorem d_No_seeInFlag_46 : decode b_No_seeInFlag 46 = .ok (.aload_n 0, 1) := by decide +kernel
theorem d_No_seeInFlag_47 : decode b_No_seeInFlag 47 = .ok (.invokevirtual 217, 3) := by decide +kernel
theorem d_No_seeInFlag_50 : decode b_No_seeInFlag 50 = .ok (.iconst 0, 1) := by decide +kernel
theorem d_No_seeInFlag_51 : decode b_No_seeInFlag 51 = .ok (.ireturn, 1) := by decide +kernel
theorem d_No_countHeavily_0 : decode b_No_countHeavily 0 = .ok (.aload_n 0, 1) := by decide +kernel
theorem d_No_countHeavily_1 : decode b_No_countHeavily 1 = .ok (.getfield 46, 3) := by decide +kernel
theorem d_No_countHeavily_4 : decode b_No_countHeavily 4 = .ok (.iconst 1, 1) := by decide +kernel
theorem d_No_countHeavily_5 : decode b_No_countHeavily 5 = .ok (.if_icmp .ne 17, 3) := by decide +kernel
theorem d_No_countHeavily_8 : decode b_No_countHeavily 8 = .ok (.aload_n 0, 1) := by decide +kernel
theorem d_No_countHeavily_9 : decode b_No_countHeavily 9 = .ok (.dup, 1) := by decide +kernel
theorem d_No_countHeavily_10 : decode b_No_countHeavily 10 = .ok (.getfield 49, 3) := by decide +kernel
theorem d_No_countHeavily_13 : decode b_No_countHeavily 13 = .ok (.bipush 8, 2) := by decide +kernel
theorem d_No_countHeavily_15 : decode b_No_countHeavily 15 = .ok (.iadd, 1) := by decide +kernel
theorem d_No_countHeavily_16 : decode b_No_countHeavily 16 = .ok (.putfield 49, 3) := by decide +kernel
theorem d_No_countHeavily_19 : decode b_No_countHeavily 19 = .ok (.goto 22, 3) := by decide +kernel
theorem d_No_countHeavily_22 : decode b_No_countHeavily 22 = .ok (.aload_n 0, 1) := by decide +kernel
theorem d_No_countHeavily_23 : decode b_No_countHeavily 23 = .ok (.getfield 46, 3) := by decide +kernel
theorem d_No_countHeavily_26 : decode b_No_countHeavily 26 = .ok (.iconst 2, 1) := by decide +kernel
theorem d_No_countHeavily_27 : decode b_No_countHeavily 27 = .ok (.if_icmp .ne 14, 3) := by decide +kernel
theorem d_No_countHeavily_30 : decode b_No_countHeavily 30 = .ok (.aload_n 0, 1) := by decide +kernel
theorem d_No_countHeavily_31 : decode b_No_countHeavily 31 = .ok (.dup, 1) := by decide +kernel
theorem d_No_countHeavily_32 : decode b_No_countHeavily 32 = .ok (.getfield 52, 3) := by decide +kernel
theorem d_No_countHeavily_35 : decode b_No_countHeavily 35 = .ok (.bipush 8, 2) := by decide +kernel
theorem d_No_countHeavily_37 : decode b_No_countHeavily 37 = .ok (.iadd, 1) := by decide +kernel
theorem d_No_countHeavily_38 : decode b_No_countHeavily 38 = .ok (.putfield 52, 3) := by decide +kernel
theorem d_No_countHeavily_41 : decode b_No_countHeavily 41 = .ok (.aload_n 0, 1) := by decide +kernel
theorem d_No_countHeavily_42 : decode b_No_countHeavily 42 = .ok (.invokevirtual 214, 3) := by decide +kernel
theorem d_No_countHeavily_45 : decode b_No_countHeavily 45 = .ok (.return_, 1) := by decide +kernel
theorem d_No_seeAfter_0 : decode b_No_seeAfter 0 = .ok (.iload_n 1, 1) := by decide +kernel
theorem d_No_seeAfter_1 : decode b_No_seeAfter 1 = .ok (.iconst 1, 1) := by decide +kernel
theorem d_No_seeAfter_2 : decode b_No_seeAfter 2 = .ok (.if_icmp .ne 28, 3) := by decide +kernel
theorem d_No_seeAfter_5 : decode b_No_seeAfter 5 = .ok (.aload_n 0, 1) := by decide +kernel
theorem d_No_seeAfter_6 : decode b_No_seeAfter 6 = .ok (.dup, 1) := by decide +kernel
theorem d_No_seeAfter_7 : decode b_No_seeAfter 7 = .ok (.getfield 77, 3) := by decide +kernel
theorem d_No_seeAfter_10 : decode b_No_seeAfter 10 = .ok (.iconst 1, 1) := by decide +kernel
theorem d_No_seeAfter_11 : decode b_No_seeAfter 11 = .ok (.iadd, 1) := by decide +kernel
theorem d_No_seeAfter_12 : decode b_No_seeAfter 12 = .ok (.putfield 77, 3) := by decide +kernel
theorem d_No_seeAfter_15 : decode b_No_seeAfter 15 = .ok (.aload_n 0, 1) := by decide +kernel
theorem d_No_seeAfter_16 : decode b_No_seeAfter 16 = .ok (.getfield 77, 3) := by decide +kernel
theorem d_No_seeAfter_19 : decode b_No_seeAfter 19 = .ok (.bipush 8, 2) := by decide +kernel
theorem d_No_seeAfter_21 : decode b_No_seeAfter 21 = .ok (.if_icmp .lt 7, 3) := by decide +kernel
theorem d_No_seeAfter_24 : decode b_No_seeAfter 24 = .ok (.aload_n 0, 1) := by decide +kernel
theorem d_No_seeAfter_25 : decode b_No_seeAfter 25 = .ok (.invokevirtual 174, 3) := by decide +kernel
theorem d_No_seeAfter_28 : decode b_No_seeAfter 28 = .ok (.iconst 0, 1) := by decide +kernel
theorem d_No_seeAfter_29 : decode b_No_seeAfter 29 = .ok (.ireturn, 1) := by decide +kernel
theorem d_No_seeAfter_30 : decode b_No_seeAfter 30 = .ok (.aload_n 0, 1) := by decide +kernel
theorem d_No_seeAfter_31 : decode b_No_seeAfter 31 = .ok (.getfield 77, 3) := by decide +kernel
theorem d_No_seeAfter_34 : decode b_No_seeAfter 34 = .ok (.ifCond .le 23, 3) := by decide +kernel
theorem d_No_seeAfter_37 : decode b_No_seeAfter 37 = .ok (.aload_n 0, 1) := by decide +kernel
theorem d_No_seeAfter_38 : decode b_No_seeAfter 38 = .ok (.getfield 46, 3) := by decide +kernel
theorem d_No_seeAfter_41 : decode b_No_seeAfter 41 = .ok (.ifCond .ne 10, 3) := by decide +kernel
theorem d_No_seeAfter_44 : decode b_No_seeAfter 44 = .ok (.aload_n 0, 1) := by decide +kernel
theorem d_No_seeAfter_45 : decode b_No_seeAfter 45 = .ok (.invokevirtual 198, 3) := by decide +kernel
theorem d_No_seeAfter_48 : decode b_No_seeAfter 48 = .ok (.goto 8, 3) := by decide +kernel
theorem d_No_seeAfter_51 : decode b_No_seeAfter 51 = .ok (.aload_n 0, 1) := by decide +kernel
theorem d_No_seeAfter_52 : decode b_No_seeAfter 52 = .ok (.iconst 4, 1) := by decide +kernel
theorem d_No_seeAfter_53 : decode b_No_seeAfter 53 = .ok (.invokevirtual 159, 3) := by decide +kernel
theorem d_No_seeAfter_56 : decode b_No_seeAfter 56 = .ok (.ireturn, 1) := by decide +kernel
theorem d_No_seeAfter_57 : decode b_No_seeAfter 57 = .ok (.aload_n 0, 1) := by decide +kernel
theorem d_No_seeAfter_58 : decode b_No_seeAfter 58 = .ok (.dup, 1) := by decide +kernel
theorem d_No_seeAfter_59 : decode b_No_seeAfter 59 = .ok (.getfield 74, 3) := by decide +kernel
theorem d_No_seeAfter_62 : decode b_No_seeAfter 62 = .ok (.iconst 1, 1) := by decide +kernel
theorem d_No_seeAfter_63 : decode b_No_seeAfter 63 = .ok (.iadd, 1) := by decide +kernel
theorem d_No_seeAfter_64 : decode b_No_seeAfter 64 = .ok (.putfield 74, 3) := by decide +kernel
theorem d_No_seeAfter_67 : decode b_No_seeAfter 67 = .ok (.aload_n 0, 1) := by decide +kernel
theorem d_No_seeAfter_68 : decode b_No_seeAfter 68 = .ok (.getfield 74, 3) := by decide +kernel
theorem d_No_seeAfter_71 : decode b_No_seeAfter 71 = .ok (.iconst 1, 1) := by decide +kernel
theorem d_No_seeAfter_72 : decode b_No_seeAfter 72 = .ok (.if_icmp .ne 22, 3) := by decide +kernel
theorem d_No_seeAfter_75 : decode b_No_seeAfter 75 = .ok (.aload_n 0, 1) := by decide +kernel
theorem d_No_seeAfter_76 : decode b_No_seeAfter 76 = .ok (.getfield 46, 3) := by decide +kernel
theorem d_No_seeAfter_79 : decode b_No_seeAfter 79 = .ok (.iconst 2, 1) := by decide +kernel
theorem d_No_seeAfter_80 : decode b_No_seeAfter 80 = .ok (.if_icmp .ne 14, 3) := by decide +kernel
theorem d_No_seeAfter_83 : decode b_No_seeAfter 83 = .ok (.aload_n 0, 1) := by decide +kernel
theorem d_No_seeAfter_84 : decode b_No_seeAfter 84 = .ok (.dup, 1) := by decide +kernel
theorem d_No_seeAfter_85 : decode b_No_seeAfter 85 = .ok (.getfield 52, 3) := by decide +kernel
theorem d_No_seeAfter_88 : decode b_No_seeAfter 88 = .ok (.bipush 8, 2) := by decide +kernel
theorem d_No_seeAfter_90 : decode b_No_seeAfter 90 = .ok (.iadd, 1) := by decide +kernel
theorem d_No_seeAfter_91 : decode b_No_seeAfter 91 = .ok (.putfield 52, 3) := by decide +kernel
theorem d_No_seeAfter_94 : decode b_No_seeAfter 94 = .ok (.aload_n 0, 1) := by decide +kernel
theorem d_No_seeAfter_95 : decode b_No_seeAfter 95 = .ok (.getfield 74, 3) := by decide +kernel
theorem d_No_seeAfter_98 : decode b_No_seeAfter 98 = .ok (.bipush 8, 2) := by decide +kernel
theorem d_No_seeAfter_100 : decode b_No_seeAfter 100 = .ok (.irem, 1) := by decide +kernel
theorem d_No_seeAfter_101 : decode b_No_seeAfter 101 = .ok (.ifCond .ne 7, 3) := by decide +kernel
theorem d_No_seeAfter_104 : decode b_No_seeAfter 104 = .ok (.aload_n 0, 1) := by decide +kernel
theorem d_No_seeAfter_105 : decode b_No_seeAfter 105 = .ok (.invokevirtual 217, 3) := by decide +kernel
theorem d_No_seeAfter_108 : decode b_No_seeAfter 108 = .ok (.iconst 0, 1) := by decide +kernel
theorem d_No_seeAfter_109 : decode b_No_seeAfter 109 = .ok (.ireturn, 1) := by decide +kernel
theorem d_No_seeInPause_0 : decode b_No_seeInPause 0 = .ok (.aload_n 0, 1) := by decide +kernel
theorem d_No_seeInPause_1 : decode b_No_seeInPause 1 = .ok (.dup, 1) := by decide +kernel
theorem d_No_seeInPause_2 : decode b_No_seeInPause 2 = .ok (.getfield 74, 3) := by decide +kernel
theorem d_No_seeInPause_5 : decode b_No_seeInPause 5 = .ok (.iconst 1, 1) := by decide +kernel
theorem d_No_seeInPause_6 : decode b_No_seeInPause 6 = .ok (.iadd, 1) := by decide +kernel
theorem d_No_seeInPause_7 : decode b_No_seeInPause 7 = .ok (.putfield 74, 3) := by decide +kernel
theorem d_No_seeInPause_10 : decode b_No_seeInPause 10 = .ok (.iload_n 1, 1) := by decide +kernel
theorem d_No_seeInPause_11 : decode b_No_seeInPause 11 = .ok (.ifCond .ne 23, 3) := by decide +kernel
theorem d_No_seeInPause_14 : decode b_No_seeInPause 14 = .ok (.aload_n 0, 1) := by decide +kernel
theorem d_No_seeInPause_15 : decode b_No_seeInPause 15 = .ok (.getfield 74, 3) := by decide +kernel
theorem d_No_seeInPause_18 : decode b_No_seeInPause 18 = .ok (.iconst 3, 1) := by decide +kernel
theorem d_No_seeInPause_19 : decode b_No_seeInPause 19 = .ok (.if_icmp .ge 10, 3) := by decide +kernel
theorem d_No_seeInPause_22 : decode b_No_seeInPause 22 = .ok (.aload_n 0, 1) := by decide +kernel
theorem d_No_seeInPause_23 : decode b_No_seeInPause 23 = .ok (.invokevirtual 198, 3) := by decide +kernel
theorem d_No_seeInPause_26 : decode b_No_seeInPause 26 = .ok (.goto 7, 3) := by decide +kernel
theorem d_No_seeInPause_29 : decode b_No_seeInPause 29 = .ok (.aload_n 0, 1) := by decide +kernel
theorem d_No_seeInPause_30 : decode b_No_seeInPause 30 = .ok (.invokevirtual 140, 3) := by decide +kernel
theorem d_No_seeInPause_33 : decode b_No_seeInPause 33 = .ok (.ireturn, 1) := by decide +kernel
theorem d_No_seeInPause_34 : decode b_No_seeInPause 34 = .ok (.aload_n 0, 1) := by decide +kernel
theorem d_No_seeInPause_35 : decode b_No_seeInPause 35 = .ok (.getfield 74, 3) := by decide +kernel
theorem d_No_seeInPause_38 : decode b_No_seeInPause 38 = .ok (.iconst 3, 1) := by decide +kernel
theorem d_No_seeInPause_39 : decode b_No_seeInPause 39 = .ok (.if_icmp .lt 33, 3) := by decide +kernel
theorem d_No_seeInPause_42 : decode b_No_seeInPause 42 = .ok (.aload_n 0, 1) := by decide +kernel
theorem d_No_seeInPause_43 : decode b_No_seeInPause 43 = .ok (.aload_n 0, 1) := by decide +kernel
theorem d_No_seeInPause_44 : decode b_No_seeInPause 44 = .ok (.invokevirtual 207, 3) := by decide +kernel
theorem d_No_seeInPause_47 : decode b_No_seeInPause 47 = .ok (.ifCond .eq 16, 3) := by decide +kernel
theorem d_No_seeInPause_50 : decode b_No_seeInPause 50 = .ok (.aload_n 0, 1) := by decide +kernel
theorem d_No_seeInPause_51 : decode b_No_seeInPause 51 = .ok (.getfield 46, 3) := by decide +kernel
theorem d_No_seeInPause_54 : decode b_No_seeInPause 54 = .ok (.iconst 1, 1) := by decide +kernel
theorem d_No_seeInPause_55 : decode b_No_seeInPause 55 = .ok (.if_icmp .ne 8, 3) := by decide +kernel
theorem d_No_seeInPause_58 : decode b_No_seeInPause 58 = .ok (.bipush 6, 2) := by decide +kernel
theorem d_No_seeInPause_60 : decode b_No_seeInPause 60 = .ok (.goto 4, 3) := by decide +kernel
theorem d_No_seeInPause_63 : decode b_No_seeInPause 63 = .ok (.iconst 0, 1) := by decide +kernel
theorem d_No_seeInPause_64 : decode b_No_seeInPause 64 = .ok (.putfield 42, 3) := by decide +kernel
theorem d_No_seeInPause_67 : decode b_No_seeInPause 67 = .ok (.aload_n 0, 1) := by decide +kernel
theorem d_No_seeInPause_68 : decode b_No_seeInPause 68 = .ok (.iconst 0, 1) := by decide +kernel
theorem d_No_seeInPause_69 : decode b_No_seeInPause 69 = .ok (.putfield 77, 3) := by decide +kernel
theorem d_No_seeInPause_72 : decode b_No_seeInPause 72 = .ok (.iconst 0, 1) := by decide +kernel
theorem d_No_seeInPause_73 : decode b_No_seeInPause 73 = .ok (.ireturn, 1) := by decide +kernel
theorem d_No_beginToHear_0 : decode b_No_beginToHear 0 = .ok (.aload_n 0, 1) := by decide +kernel
theorem d_No_beginToHear_1 : decode b_No_beginToHear 1 = .ok (.getfield 38, 3) := by decide +kernel
theorem d_No_beginToHear_4 : decode b_No_beginToHear 4 = .ok (.invokevirtual 153, 3) := by decide +kernel
theorem d_No_beginToHear_7 : decode b_No_beginToHear 7 = .ok (.aload_n 0, 1) := by decide +kernel
theorem d_No_beginToHear_8 : decode b_No_beginToHear 8 = .ok (.getfield 38, 3) := by decide +kernel
theorem d_No_beginToHear_11 : decode b_No_beginToHear 11 = .ok (.iconst 0, 1) := by decide +kernel
theorem d_No_beginToHear_12 : decode b_No_beginToHear 12 = .ok (.invokevirtual 156, 3) := by decide +kernel
theorem d_No_beginToHear_15 : decode b_No_beginToHear 15 = .ok (.aload_n 0, 1) := by decide +kernel
theorem d_No_beginToHear_16 : decode b_No_beginToHear 16 = .ok (.iconst 2, 1) := by decide +kernel
theorem d_No_beginToHear_17 : decode b_No_beginToHear 17 = .ok (.putfield 42, 3) := by decide +kernel
theorem d_No_beginToHear_20 : decode b_No_beginToHear 20 = .ok (.aload_n 0, 1) := by decide +kernel
theorem d_No_beginToHear_21 : decode b_No_beginToHear 21 = .ok (.iconst 2, 1) := by decide +kernel
theorem d_No_beginToHear_22 : decode b_No_beginToHear 22 = .ok (.putfield 46, 3) := by decide +kernel
theorem d_No_beginToHear_25 : decode b_No_beginToHear 25 = .ok (.iconst 0, 1) := by decide +kernel
theorem d_No_beginToHear_26 : decode b_No_beginToHear 26 = .ok (.ireturn, 1) := by decide +kernel
theorem d_No_seeSuspended_0 : decode b_No_seeSuspended 0 = .ok (.iload_n 1, 1) := by decide +kernel
theorem d_No_seeSuspended_1 : decode b_No_seeSuspended 1 = .ok (.ifCond .ne 8, 3) := by decide +kernel
theorem d_No_seeSuspended_4 : decode b_No_seeSuspended 4 = .ok (.aload_n 0, 1) := by decide +kernel
theorem d_No_seeSuspended_5 : decode b_No_seeSuspended 5 = .ok (.invokevirtual 140, 3) := by decide +kernel
theorem d_No_seeSuspended_8 : decode b_No_seeSuspended 8 = .ok (.ireturn, 1) := by decide +kernel
theorem d_No_seeSuspended_9 : decode b_No_seeSuspended 9 = .ok (.aload_n 0, 1) := by decide +kernel
theorem d_No_seeSuspended_10 : decode b_No_seeSuspended 10 = .ok (.dup, 1) := by decide +kernel
theorem d_No_seeSuspended_11 : decode b_No_seeSuspended 11 = .ok (.getfield 77, 3) := by decide +kernel
theorem d_No_seeSuspended_14 : decode b_No_seeSuspended 14 = .ok (.iconst 1, 1) := by decide +kernel
theorem d_No_seeSuspended_15 : decode b_No_seeSuspended 15 = .ok (.iadd, 1) := by decide +kernel
theorem d_No_seeSuspended_16 : decode b_No_seeSuspended 16 = .ok (.putfield 77, 3) := by decide +kernel
theorem d_No_seeSuspended_19 : decode b_No_seeSuspended 19 = .ok (.aload_n 0, 1) := by decide +kernel
theorem d_No_seeSuspended_20 : decode b_No_seeSuspended 20 = .ok (.getfield 77, 3) := by decide +kernel
theorem d_No_seeSuspended_23 : decode b_No_seeSuspended 23 = .ok (.bipush 8, 2) := by decide +kernel
theorem d_No_seeSuspended_25 : decode b_No_seeSuspended 25 = .ok (.if_icmp .lt 8, 3) := by decide +kernel
theorem d_No_seeSuspended_28 : decode b_No_seeSuspended 28 = .ok (.aload_n 0, 1) := by decide +kernel
theorem d_No_seeSuspended_29 : decode b_No_seeSuspended 29 = .ok (.iconst 0, 1) := by decide +kernel
theorem d_No_seeSuspended_30 : decode b_No_seeSuspended 30 = .ok (.putfield 42, 3) := by decide +kernel
theorem d_No_seeSuspended_33 : decode b_No_seeSuspended 33 = .ok (.iconst 0, 1) := by decide +kernel
theorem d_No_seeSuspended_34 : decode b_No_seeSuspended 34 = .ok (.ireturn, 1) := by decide +kernel
theorem d_No_seeOff_0 : decode b_No_seeOff 0 = .ok (.aload_n 0, 1) := by decide +kernel
theorem d_No_seeOff_1 : decode b_No_seeOff 1 = .ok (.iload_n 1, 1) := by decide +kernel
theorem d_No_seeOff_2 : decode b_No_seeOff 2 = .ok (.iconst 1, 1) := by decide +kernel
theorem d_No_seeOff_3 : decode b_No_seeOff 3 = .ok (.if_icmp .ne 12, 3) := by decide +kernel
theorem d_No_seeOff_6 : decode b_No_seeOff 6 = .ok (.aload_n 0, 1) := by decide +kernel
theorem d_No_seeOff_7 : decode b_No_seeOff 7 = .ok (.getfield 77, 3) := by decide +kernel
theorem d_No_seeOff_10 : decode b_No_seeOff 10 = .ok (.iconst 1, 1) := by decide +kernel
theorem d_No_seeOff_11 : decode b_No_seeOff 11 = .ok (.iadd, 1) := by decide +kernel
theorem d_No_seeOff_12 : decode b_No_seeOff 12 = .ok (.goto 4, 3) := by decide +kernel
theorem d_No_seeOff_15 : decode b_No_seeOff 15 = .ok (.iconst 0, 1) := by decide +kernel
theorem d_No_seeOff_16 : decode b_No_seeOff 16 = .ok (.putfield 77, 3) := by decide +kernel
theorem d_No_seeOff_19 : decode b_No_seeOff 19 = .ok (.aload_n 0, 1) := by decide +kernel
theorem d_No_seeOff_20 : decode b_No_seeOff 20 = .ok (.getfield 77, 3) := by decide +kernel
theorem d_No_seeOff_23 : decode b_No_seeOff 23 = .ok (.bipush 11, 2) := by decide +kernel
theorem d_No_seeOff_25 : decode b_No_seeOff 25 = .ok (.if_icmp .lt 18, 3) := by decide +kernel
theorem d_No_seeOff_28 : decode b_No_seeOff 28 = .ok (.aload_n 0, 1) := by decide +kernel
theorem d_No_seeOff_29 : decode b_No_seeOff 29 = .ok (.iconst 0, 1) := by decide +kernel
theorem d_No_seeOff_30 : decode b_No_seeOff 30 = .ok (.putfield 77, 3) := by decide +kernel
theorem d_No_seeOff_33 : decode b_No_seeOff 33 = .ok (.aload_n 0, 1) := by decide +kernel
theorem d_No_seeOff_34 : decode b_No_seeOff 34 = .ok (.dup, 1) := by decide +kernel
theorem d_No_seeOff_35 : decode b_No_seeOff 35 = .ok (.getfield 80, 3) := by decide +kernel
theorem d_No_seeOff_38 : decode b_No_seeOff 38 = .ok (.iconst 1, 1) := by decide +kernel
theorem d_No_seeOff_39 : decode b_No_seeOff 39 = .ok (.iadd, 1) := by decide +kernel
theorem d_No_seeOff_40 : decode b_No_seeOff 40 = .ok (.putfield 80, 3) := by decide +kernel
theorem d_No_seeOff_43 : decode b_No_seeOff 43 = .ok (.aload_n 0, 1) := by decide +kernel
theorem d_No_seeOff_44 : decode b_No_seeOff 44 = .ok (.getfield 80, 3) := by decide +kernel
theorem d_No_seeOff_47 : decode b_No_seeOff 47 = .ok (.bipush 8, 2) := by decide +kernel
theorem d_No_seeOff_49 : decode b_No_seeOff 49 = .ok (.if_icmp .lt 18, 3) := by decide +kernel
theorem d_No_seeOff_52 : decode b_No_seeOff 52 = .ok (.aload_n 0, 1) := by decide +kernel
theorem d_No_seeOff_53 : decode b_No_seeOff 53 = .ok (.iconst 0, 1) := by decide +kernel
theorem d_No_seeOff_54 : decode b_No_seeOff 54 = .ok (.putfield 49, 3) := by decide +kernel
theorem d_No_seeOff_57 : decode b_No_seeOff 57 = .ok (.aload_n 0, 1) := by decide +kernel
theorem d_No_seeOff_58 : decode b_No_seeOff 58 = .ok (.iconst 0, 1) := by decide +kernel
theorem d_No_seeOff_59 : decode b_No_seeOff 59 = .ok (.putfield 52, 3) := by decide +kernel
theorem d_No_seeOff_62 : decode b_No_seeOff 62 = .ok (.aload_n 0, 1) := by decide +kernel
theorem d_No_seeOff_63 : decode b_No_seeOff 63 = .ok (.iconst 0, 1) := by decide +kernel
theorem d_No_seeOff_64 : decode b_No_seeOff 64 = .ok (.putfield 42, 3) := by decide +kernel
theorem d_No_seeOff_67 : decode b_No_seeOff 67 = .ok (.iconst 0, 1) := by decide +kernel
theorem d_No_seeOff_68 : decode b_No_seeOff 68 = .ok (.ireturn, 1) := by decide +kernel
theorem d_L_state_0 : decode b_L_state 0 = .ok (.aload_n 2, 1) := by decide +kernel
theorem d_L_state_1 : decode b_L_state 1 = .ok (.iconst 0, 1) := by decide +kernel
theorem d_L_state_2 : decode b_L_state 2 = .ok (.aload_n 0, 1) := by decide +kernel
theorem d_L_state_3 : decode b_L_state 3 = .ok (.iload_n 1, 1) := by decide +kernel
theorem d_L_state_4 : decode b_L_state 4 = .ok (.invokevirtual 29, 3) := by decide +kernel
theorem d_L_state_7 : decode b_L_state 7 = .ok (.i2l, 1) := by decide +kernel
theorem d_L_state_8 : decode b_L_state 8 = .ok (.lastore, 1) := by decide +kernel
theorem d_L_state_9 : decode b_L_state 9 = .ok (.goto 6, 3) := by decide +kernel
theorem d_L_state_12 : decode b_L_state 12 = .ok (.astore_n 3, 1) := by decide +kernel
theorem d_L_state_13 : decode b_L_state 13 = .ok (.iconst 1, 1) := by decide +kernel
theorem d_L_state_14 : decode b_L_state 14 = .ok (.ireturn, 1) := by decide +kernel
theorem d_L_state_15 : decode b_L_state 15 = .ok (.iconst 0, 1) := by decide +kernel
theorem d_L_state_16 : decode b_L_state 16 = .ok (.ireturn, 1) := by decide +kernel
theorem d_X_state_0 : decode b_X_state 0 = .ok (.aload_n 0, 1) := by decide +kernel
theorem d_X_state_1 : decode b_X_state 1 = .ok (.iload_n 1, 1) := by decide +kernel
theorem d_X_state_2 : decode b_X_state 2 = .ok (.invokevirtual 32, 3) := by decide +kernel
theorem d_X_state_5 : decode b_X_state 5 = .ok (.getfield 47, 3) := by decide +kernel
theorem d_X_state_8 : decode b_X_state 8 = .ok (.ireturn, 1) := by decide +kernel
theorem d_L_count_0 : decode b_L_count 0 = .ok (.aload_n 3, 1) := by decide +kernel
theorem d_L_count_1 : decode b_L_count 1 = .ok (.iconst 0, 1) := by decide +kernel
theorem d_L_count_2 : decode b_L_count 2 = .ok (.aload_n 0, 1) := by decide +kernel
theorem d_L_count_3 : decode b_L_count 3 = .ok (.iload_n 1, 1) := by decide +kernel
theorem d_L_count_4 : decode b_L_count 4 = .ok (.iload_n 2, 1) := by decide +kernel
theorem d_L_count_5 : decode b_L_count 5 = .ok (.invokevirtual 32, 3) := by decide +kernel
theorem d_L_count_8 : decode b_L_count 8 = .ok (.i2l, 1) := by decide +kernel
theorem d_L_count_9 : decode b_L_count 9 = .ok (.lastore, 1) := by decide +kernel
theorem d_L_count_10 : decode b_L_count 10 = .ok (.goto 7, 3) := by decide +kernel
theorem d_L_count_13 : decode b_L_count 13 = .ok (.astore 4, 2) := by decide +kernel
theorem d_L_count_15 : decode b_L_count 15 = .ok (.iconst 1, 1) := by decide +kernel
theorem d_L_count_16 : decode b_L_count 16 = .ok (.ireturn, 1) := by decide +kernel
theorem d_L_count_17 : decode b_L_count 17 = .ok (.iconst 0, 1) := by decide +kernel
theorem d_L_count_18 : decode b_L_count 18 = .ok (.ireturn, 1) := by decide +kernel
theorem d_X_count_0 : decode b_X_count 0 = .ok (.aload_n 0, 1) := by decide +kernel
theorem d_X_count_1 : decode b_X_count 1 = .ok (.iload_n 1, 1) := by decide +kernel
theorem d_X_count_2 : decode b_X_count 2 = .ok (.invokevirtual 32, 3) := by decide +kernel
theorem d_X_count_5 : decode b_X_count 5 = .ok (.astore_n 3, 1) := by decide +kernel
theorem d_X_count_6 : decode b_X_count 6 = .ok (.iload_n 2, 1) := by decide +kernel
theorem d_X_count_7 : decode b_X_count 7 = .ok (.tableswitch 64 0 4 #[33, 38, 43, 51, 59], 33) := by decide +kernel
theorem d_X_count_40 : decode b_X_count 40 = .ok (.aload_n 3, 1) := by decide +kernel
theorem d_X_count_41 : decode b_X_count 41 = .ok (.getfield 100, 3) := by decide +kernel
theorem d_X_count_44 : decode b_X_count 44 = .ok (.ireturn, 1) := by decide +kernel
theorem d_X_count_45 : decode b_X_count 45 = .ok (.aload_n 3, 1) := by decide +kernel
theorem d_X_count_46 : decode b_X_count 46 = .ok (.getfield 103, 3) := by decide +kernel
theorem d_X_count_49 : decode b_X_count 49 = .ok (.ireturn, 1) := by decide +kernel
theorem d_X_count_50 : decode b_X_count 50 = .ok (.aload_n 3, 1) := by decide +kernel
theorem d_X_count_51 : decode b_X_count 51 = .ok (.getfield 51, 3) := by decide +kernel
theorem d_X_count_54 : decode b_X_count 54 = .ok (.getfield 74, 3) := by decide +kernel
theorem d_X_count_57 : decode b_X_count 57 = .ok (.ireturn, 1) := by decide +kernel
theorem d_X_count_58 : decode b_X_count 58 = .ok (.aload_n 3, 1) := by decide +kernel
theorem d_X_count_59 : decode b_X_count 59 = .ok (.getfield 106, 3) := by decide +kernel
theorem d_X_count_62 : decode b_X_count 62 = .ok (.getfield 74, 3) := by decide +kernel
theorem d_X_count_65 : decode b_X_count 65 = .ok (.ireturn, 1) := by decide +kernel
theorem d_X_count_66 : decode b_X_count 66 = .ok (.aload_n 3, 1) := by decide +kernel
theorem d_X_count_67 : decode b_X_count 67 = .ok (.getfield 109, 3) := by decide +kernel
theorem d_X_count_70 : decode b_X_count 70 = .ok (.ireturn, 1) := by decide +kernel
theorem d_X_count_71 : decode b_X_count 71 = .ok (.new 40, 3) := by decide +kernel
theorem d_X_count_74 : decode b_X_count 74 = .ok (.dup, 1) := by decide +kernel
theorem d_X_count_75 : decode b_X_count 75 = .ok (.ldc 112, 2) := by decide +kernel
theorem d_X_count_77 : decode b_X_count 77 = .ok (.invokespecial 44, 3) := by decide +kernel
theorem d_X_count_80 : decode b_X_count 80 = .ok (.athrow, 1) := by decide +kernel
theorem d_L_take_0 : decode b_L_take 0 = .ok (.aload_n 2, 1) := by decide +kernel
theorem d_L_take_1 : decode b_L_take 1 = .ok (.iconst 0, 1) := by decide +kernel
theorem d_L_take_2 : decode b_L_take 2 = .ok (.aload_n 0, 1) := by decide +kernel
theorem d_L_take_3 : decode b_L_take 3 = .ok (.iload_n 1, 1) := by decide +kernel
theorem d_L_take_4 : decode b_L_take 4 = .ok (.invokevirtual 36, 3) := by decide +kernel
theorem d_L_take_7 : decode b_L_take 7 = .ok (.i2l, 1) := by decide +kernel
theorem d_L_take_8 : decode b_L_take 8 = .ok (.lastore, 1) := by decide +kernel
theorem d_L_take_9 : decode b_L_take 9 = .ok (.goto 9, 3) := by decide +kernel
theorem d_L_take_12 : decode b_L_take 12 = .ok (.astore_n 3, 1) := by decide +kernel
theorem d_L_take_13 : decode b_L_take 13 = .ok (.iconst 1, 1) := by decide +kernel
theorem d_L_take_14 : decode b_L_take 14 = .ok (.ireturn, 1) := by decide +kernel
theorem d_L_take_15 : decode b_L_take 15 = .ok (.astore_n 3, 1) := by decide +kernel
theorem d_L_take_16 : decode b_L_take 16 = .ok (.iconst 2, 1) := by decide +kernel
theorem d_L_take_17 : decode b_L_take 17 = .ok (.ireturn, 1) := by decide +kernel
theorem d_L_take_18 : decode b_L_take 18 = .ok (.iconst 0, 1) := by decide +kernel
theorem d_L_take_19 : decode b_L_take 19 = .ok (.ireturn, 1) := by decide +kernel
theorem d_X_take_0 : decode b_X_take 0 = .ok (.aload_n 0, 1) := by decide +kernel
theorem d_X_take_1 : decode b_X_take 1 = .ok (.iload_n 1, 1) := by decide +kernel
theorem d_X_take_2 : decode b_X_take 2 = .ok (.invokevirtual 32, 3) := by decide +kernel
theorem d_X_take_5 : decode b_X_take 5 = .ok (.astore_n 2, 1) := by decide +kernel
theorem d_X_take_6 : decode b_X_take 6 = .ok (.aload_n 2, 1) := by decide +kernel
theorem d_X_take_7 : decode b_X_take 7 = .ok (.getfield 106, 3) := by decide +kernel
theorem d_X_take_10 : decode b_X_take 10 = .ok (.getfield 74, 3) := by decide +kernel
theorem d_X_take_13 : decode b_X_take 13 = .ok (.ifCond .ne 13, 3) := by decide +kernel
theorem d_X_take_16 : decode b_X_take 16 = .ok (.new 61, 3) := by decide +kernel
theorem d_X_take_19 : decode b_X_take 19 = .ok (.dup, 1) := by decide +kernel
theorem d_X_take_20 : decode b_X_take 20 = .ok (.ldc 114, 2) := by decide +kernel
theorem d_X_take_22 : decode b_X_take 22 = .ok (.invokespecial 65, 3) := by decide +kernel
theorem d_X_take_25 : decode b_X_take 25 = .ok (.athrow, 1) := by decide +kernel
theorem d_X_take_26 : decode b_X_take 26 = .ok (.aload_n 2, 1) := by decide +kernel
theorem d_X_take_27 : decode b_X_take 27 = .ok (.getfield 106, 3) := by decide +kernel
theorem d_X_take_30 : decode b_X_take 30 = .ok (.iconst 0, 1) := by decide +kernel
theorem d_X_take_31 : decode b_X_take 31 = .ok (.invokevirtual 116, 3) := by decide +kernel
theorem d_X_take_34 : decode b_X_take 34 = .ok (.ireturn, 1) := by decide +kernel
theorem d_L_total_0 : decode b_L_total 0 = .ok (.aload_n 2, 1) := by decide +kernel
theorem d_L_total_1 : decode b_L_total 1 = .ok (.iconst 0, 1) := by decide +kernel
theorem d_L_total_2 : decode b_L_total 2 = .ok (.aload_n 0, 1) := by decide +kernel
theorem d_L_total_3 : decode b_L_total 3 = .ok (.iload_n 1, 1) := by decide +kernel
theorem d_L_total_4 : decode b_L_total 4 = .ok (.invokevirtual 39, 3) := by decide +kernel
theorem d_L_total_7 : decode b_L_total 7 = .ok (.i2l, 1) := by decide +kernel
theorem d_L_total_8 : decode b_L_total 8 = .ok (.lastore, 1) := by decide +kernel
theorem d_L_total_9 : decode b_L_total 9 = .ok (.goto 6, 3) := by decide +kernel
theorem d_L_total_12 : decode b_L_total 12 = .ok (.astore_n 3, 1) := by decide +kernel
theorem d_L_total_13 : decode b_L_total 13 = .ok (.iconst 1, 1) := by decide +kernel
theorem d_L_total_14 : decode b_L_total 14 = .ok (.ireturn, 1) := by decide +kernel
theorem d_L_total_15 : decode b_L_total 15 = .ok (.iconst 0, 1) := by decide +kernel
theorem d_L_total_16 : decode b_L_total 16 = .ok (.ireturn, 1) := by decide +kernel
theorem d_X_total_0 : decode b_X_total 0 = .ok (.iload_n 1, 1) := by decide +kernel
theorem d_X_total_1 : decode b_X_total 1 = .ok (.ifCond .lt 9, 3) := by decide +kernel
theorem d_X_total_4 : decode b_X_total 4 = .ok (.iload_n 1, 1) := by decide +kernel
theorem d_X_total_5 : decode b_X_total 5 = .ok (.bipush 8, 2) := by decide +kernel
theorem d_X_total_7 : decode b_X_total 7 = .ok (.if_icmp .lt 13, 3) := by decide +kernel
theorem d_X_total_10 : decode b_X_total 10 = .ok (.new 40, 3) := by decide +kernel
theorem d_X_total_13 : decode b_X_total 13 = .ok (.dup, 1) := by decide +kernel
theorem d_X_total_14 : decode b_X_total 14 = .ok (.ldc 120, 2) := by decide +kernel
theorem d_X_total_16 : decode b_X_total 16 = .ok (.invokespecial 44, 3) := by decide +kernel
theorem d_X_total_19 : decode b_X_total 19 = .ok (.athrow, 1) := by decide +kernel
theorem d_X_total_20 : decode b_X_total 20 = .ok (.aload_n 0, 1) := by decide +kernel
theorem d_X_total_21 : decode b_X_total 21 = .ok (.getfield 13, 3) := by decide +kernel
theorem d_X_total_24 : decode b_X_total 24 = .ok (.iload_n 1, 1) := by decide +kernel
theorem d_X_total_25 : decode b_X_total 25 = .ok (.iaload, 1) := by decide +kernel
theorem d_X_total_26 : decode b_X_total 26 = .ok (.ireturn, 1) := by decide +kernel
theorem d_M_init_0 : decode b_M_init 0 = .ok (.aload_n 0, 1) := by decide +kernel
theorem d_M_init_1 : decode b_M_init 1 = .ok (.invokespecial 1, 3) := by decide +kernel
theorem d_M_init_4 : decode b_M_init 4 = .ok (.aload_n 0, 1) := by decide +kernel
theorem d_M_init_5 : decode b_M_init 5 = .ok (.bipush 8, 2) := by decide +kernel
theorem d_M_init_7 : decode b_M_init 7 = .ok (.newarray .int, 2) := by decide +kernel
theorem d_M_init_9 : decode b_M_init 9 = .ok (.putfield 7, 3) := by decide +kernel
theorem d_M_init_12 : decode b_M_init 12 = .ok (.aload_n 0, 1) := by decide +kernel
theorem d_M_init_13 : decode b_M_init 13 = .ok (.bipush 64, 2) := by decide +kernel
theorem d_M_init_15 : decode b_M_init 15 = .ok (.newarray .int, 2) := by decide +kernel
theorem d_M_init_17 : decode b_M_init 17 = .ok (.putfield 13, 3) := by decide +kernel
theorem d_M_init_20 : decode b_M_init 20 = .ok (.aload_n 0, 1) := by decide +kernel
theorem d_M_init_21 : decode b_M_init 21 = .ok (.sipush 1024, 3) := by decide +kernel
theorem d_M_init_24 : decode b_M_init 24 = .ok (.newarray .boolean, 2) := by decide +kernel
theorem d_M_init_26 : decode b_M_init 26 = .ok (.putfield 16, 3) := by decide +kernel
theorem d_M_init_29 : decode b_M_init 29 = .ok (.aload_n 0, 1) := by decide +kernel
theorem d_M_init_30 : decode b_M_init 30 = .ok (.iconst 4, 1) := by decide +kernel
theorem d_M_init_31 : decode b_M_init 31 = .ok (.newarray .int, 2) := by decide +kernel
theorem d_M_init_33 : decode b_M_init 33 = .ok (.putfield 20, 3) := by decide +kernel
theorem d_M_init_36 : decode b_M_init 36 = .ok (.aload_n 0, 1) := by decide +kernel
theorem d_M_init_37 : decode b_M_init 37 = .ok (.iconst 4, 1) := by decide +kernel
theorem d_M_init_38 : decode b_M_init 38 = .ok (.newarray .int, 2) := by decide +kernel
theorem d_M_init_40 : decode b_M_init 40 = .ok (.putfield 23, 3) := by decide +kernel
theorem d_M_init_43 : decode b_M_init 43 = .ok (.aload_n 0, 1) := by decide +kernel
theorem d_M_init_44 : decode b_M_init 44 = .ok (.iconst 4, 1) := by decide +kernel
theorem d_M_init_45 : decode b_M_init 45 = .ok (.newarray .int, 2) := by decide +kernel
theorem d_M_init_47 : decode b_M_init 47 = .ok (.putfield 26, 3) := by decide +kernel
theorem d_M_init_50 : decode b_M_init 50 = .ok (.aload_n 0, 1) := by decide +kernel
theorem d_M_init_51 : decode b_M_init 51 = .ok (.iconst 4, 1) := by decide +kernel
theorem d_M_init_52 : decode b_M_init 52 = .ok (.newarray .int, 2) := by decide +kernel
theorem d_M_init_54 : decode b_M_init 54 = .ok (.putfield 29, 3) := by decide +kernel
theorem d_M_init_57 : decode b_M_init 57 = .ok (.aload_n 0, 1) := by decide +kernel
theorem d_M_init_58 : decode b_M_init 58 = .ok (.iconst 4, 1) := by decide +kernel
theorem d_M_init_59 : decode b_M_init 59 = .ok (.newarray .int, 2) := by decide +kernel
theorem d_M_init_61 : decode b_M_init 61 = .ok (.putfield 32, 3) := by decide +kernel
theorem d_M_init_64 : decode b_M_init 64 = .ok (.aload_n 0, 1) := by decide +kernel
theorem d_M_init_65 : decode b_M_init 65 = .ok (.iconst 4, 1) := by decide +kernel
theorem d_M_init_66 : decode b_M_init 66 = .ok (.newarray .int, 2) := by decide +kernel
theorem d_M_init_68 : decode b_M_init 68 = .ok (.putfield 35, 3) := by decide +kernel
theorem d_M_init_71 : decode b_M_init 71 = .ok (.aload_n 0, 1) := by decide +kernel
theorem d_M_init_72 : decode b_M_init 72 = .ok (.iconst 4, 1) := by decide +kernel
theorem d_M_init_73 : decode b_M_init 73 = .ok (.newarray .int, 2) := by decide +kernel
theorem d_M_init_75 : decode b_M_init 75 = .ok (.putfield 38, 3) := by decide +kernel
theorem d_M_init_78 : decode b_M_init 78 = .ok (.aload_n 0, 1) := by decide +kernel
theorem d_M_init_79 : decode b_M_init 79 = .ok (.bipush 16, 2) := by decide +kernel
theorem d_M_init_81 : decode b_M_init 81 = .ok (.newarray .int, 2) := by decide +kernel
theorem d_M_init_83 : decode b_M_init 83 = .ok (.putfield 41, 3) := by decide +kernel
theorem d_M_init_86 : decode b_M_init 86 = .ok (.aload_n 0, 1) := by decide +kernel
theorem d_M_init_87 : decode b_M_init 87 = .ok (.bipush 16, 2) := by decide +kernel
theorem d_M_init_89 : decode b_M_init 89 = .ok (.newarray .int, 2) := by decide +kernel
theorem d_M_init_91 : decode b_M_init 91 = .ok (.putfield 44, 3) := by decide +kernel
theorem d_M_init_94 : decode b_M_init 94 = .ok (.aload_n 0, 1) := by decide +kernel
theorem d_M_init_95 : decode b_M_init 95 = .ok (.bipush 16, 2) := by decide +kernel
theorem d_M_init_97 : decode b_M_init 97 = .ok (.newarray .int, 2) := by decide +kernel
theorem d_M_init_99 : decode b_M_init 99 = .ok (.putfield 47, 3) := by decide +kernel
theorem d_M_init_102 : decode b_M_init 102 = .ok (.aload_n 0, 1) := by decide +kernel
theorem d_M_init_103 : decode b_M_init 103 = .ok (.iconst 4, 1) := by decide +kernel
theorem d_M_init_104 : decode b_M_init 104 = .ok (.newarray .int, 2) := by decide +kernel
theorem d_M_init_106 : decode b_M_init 106 = .ok (.putfield 50, 3) := by decide +kernel
theorem d_M_init_109 : decode b_M_init 109 = .ok (.aload_n 0, 1) := by decide +kernel
theorem d_M_init_110 : decode b_M_init 110 = .ok (.iconst 4, 1) := by decide +kernel
theorem d_M_init_111 : decode b_M_init 111 = .ok (.newarray .int, 2) := by decide +kernel
theorem d_M_init_113 : decode b_M_init 113 = .ok (.putfield 53, 3) := by decide +kernel
theorem d_M_init_116 : decode b_M_init 116 = .ok (.aload_n 0, 1) := by decide +kernel
theorem d_M_init_117 : decode b_M_init 117 = .ok (.bipush 16, 2) := by decide +kernel
theorem d_M_init_119 : decode b_M_init 119 = .ok (.newarray .int, 2) := by decide +kernel
theorem d_M_init_121 : decode b_M_init 121 = .ok (.putfield 56, 3) := by decide +kernel
theorem d_M_init_124 : decode b_M_init 124 = .ok (.aload_n 0, 1) := by decide +kernel
theorem d_M_init_125 : decode b_M_init 125 = .ok (.iconst 4, 1) := by decide +kernel
theorem d_M_init_126 : decode b_M_init 126 = .ok (.newarray .int, 2) := by decide +kernel
theorem d_M_init_128 : decode b_M_init 128 = .ok (.putfield 59, 3) := by decide +kernel
theorem d_M_init_131 : decode b_M_init 131 = .ok (.aload_n 0, 1) := by decide +kernel
theorem d_M_init_132 : decode b_M_init 132 = .ok (.iconst 4, 1) := by decide +kernel
theorem d_M_init_133 : decode b_M_init 133 = .ok (.newarray .int, 2) := by decide +kernel
theorem d_M_init_135 : decode b_M_init 135 = .ok (.putfield 62, 3) := by decide +kernel
theorem d_M_init_138 : decode b_M_init 138 = .ok (.aload_n 0, 1) := by decide +kernel
theorem d_M_init_139 : decode b_M_init 139 = .ok (.iconst 4, 1) := by decide +kernel
theorem d_M_init_140 : decode b_M_init 140 = .ok (.newarray .int, 2) := by decide +kernel
theorem d_M_init_142 : decode b_M_init 142 = .ok (.putfield 65, 3) := by decide +kernel
theorem d_M_init_145 : decode b_M_init 145 = .ok (.aload_n 0, 1) := by decide +kernel
theorem d_M_init_146 : decode b_M_init 146 = .ok (.iconst 4, 1) := by decide +kernel
theorem d_M_init_147 : decode b_M_init 147 = .ok (.newarray .int, 2) := by decide +kernel
theorem d_M_init_149 : decode b_M_init 149 = .ok (.putfield 68, 3) := by decide +kernel
theorem d_M_init_152 : decode b_M_init 152 = .ok (.aload_n 0, 1) := by decide +kernel
theorem d_M_init_153 : decode b_M_init 153 = .ok (.iconst 4, 1) := by decide +kernel
theorem d_M_init_154 : decode b_M_init 154 = .ok (.newarray .int, 2) := by decide +kernel
theorem d_M_init_156 : decode b_M_init 156 = .ok (.putfield 71, 3) := by decide +kernel
theorem d_M_init_159 : decode b_M_init 159 = .ok (.aload_n 0, 1) := by decide +kernel
theorem d_M_init_160 : decode b_M_init 160 = .ok (.iconst 4, 1) := by decide +kernel
theorem d_M_init_161 : decode b_M_init 161 = .ok (.newarray .int, 2) := by decide +kernel
theorem d_M_init_163 : decode b_M_init 163 = .ok (.putfield 74, 3) := by decide +kernel
theorem d_M_init_166 : decode b_M_init 166 = .ok (.aload_n 0, 1) := by decide +kernel
theorem d_M_init_167 : decode b_M_init 167 = .ok (.iconst 4, 1) := by decide +kernel
theorem d_M_init_168 : decode b_M_init 168 = .ok (.newarray .int, 2) := by decide +kernel
theorem d_M_init_170 : decode b_M_init 170 = .ok (.putfield 77, 3) := by decide +kernel
theorem d_M_init_173 : decode b_M_init 173 = .ok (.aload_n 0, 1) := by decide +kernel
theorem d_M_init_174 : decode b_M_init 174 = .ok (.iconst 4, 1) := by decide +kernel
theorem d_M_init_175 : decode b_M_init 175 = .ok (.newarray .int, 2) := by decide +kernel
theorem d_M_init_177 : decode b_M_init 177 = .ok (.putfield 80, 3) := by decide +kernel
theorem d_M_init_180 : decode b_M_init 180 = .ok (.aload_n 0, 1) := by decide +kernel
theorem d_M_init_181 : decode b_M_init 181 = .ok (.iconst 4, 1) := by decide +kernel
theorem d_M_init_182 : decode b_M_init 182 = .ok (.newarray .int, 2) := by decide +kernel
theorem d_M_init_184 : decode b_M_init 184 = .ok (.putfield 83, 3) := by decide +kernel
theorem d_M_init_187 : decode b_M_init 187 = .ok (.aload_n 0, 1) := by decide +kernel
theorem d_M_init_188 : decode b_M_init 188 = .ok (.iconst 4, 1) := by decide +kernel
theorem d_M_init_189 : decode b_M_init 189 = .ok (.newarray .boolean, 2) := by decide +kernel
theorem d_M_init_191 : decode b_M_init 191 = .ok (.putfield 86, 3) := by decide +kernel
theorem d_M_init_194 : decode b_M_init 194 = .ok (.aload_n 0, 1) := by decide +kernel
theorem d_M_init_195 : decode b_M_init 195 = .ok (.iconst 4, 1) := by decide +kernel
theorem d_M_init_196 : decode b_M_init 196 = .ok (.newarray .int, 2) := by decide +kernel
theorem d_M_init_198 : decode b_M_init 198 = .ok (.putfield 89, 3) := by decide +kernel
theorem d_M_init_201 : decode b_M_init 201 = .ok (.aload_n 0, 1) := by decide +kernel
theorem d_M_init_202 : decode b_M_init 202 = .ok (.iconst 4, 1) := by decide +kernel
theorem d_M_init_203 : decode b_M_init 203 = .ok (.newarray .int, 2) := by decide +kernel
theorem d_M_init_205 : decode b_M_init 205 = .ok (.putfield 92, 3) := by decide +kernel
theorem d_M_init_208 : decode b_M_init 208 = .ok (.aload_n 0, 1) := by decide +kernel
theorem d_M_init_209 : decode b_M_init 209 = .ok (.iconst 4, 1) := by decide +kernel
theorem d_M_init_210 : decode b_M_init 210 = .ok (.newarray .int, 2) := by decide +kernel
theorem d_M_init_212 : decode b_M_init 212 = .ok (.putfield 95, 3) := by decide +kernel
theorem d_M_init_215 : decode b_M_init 215 = .ok (.aload_n 0, 1) := by decide +kernel
theorem d_M_init_216 : decode b_M_init 216 = .ok (.iconst 4, 1) := by decide +kernel
theorem d_M_init_217 : decode b_M_init 217 = .ok (.newarray .int, 2) := by decide +kernel
theorem d_M_init_219 : decode b_M_init 219 = .ok (.putfield 98, 3) := by decide +kernel
theorem d_M_init_222 : decode b_M_init 222 = .ok (.aload_n 0, 1) := by decide +kernel
theorem d_M_init_223 : decode b_M_init 223 = .ok (.iload_n 1, 1) := by decide +kernel
theorem d_M_init_224 : decode b_M_init 224 = .ok (.iconst 2, 1) := by decide +kernel
theorem d_M_init_225 : decode b_M_init 225 = .ok (.if_icmp .ge 7, 3) := by decide +kernel
theorem d_M_init_228 : decode b_M_init 228 = .ok (.iconst 2, 1) := by decide +kernel
theorem d_M_init_229 : decode b_M_init 229 = .ok (.goto 13, 3) := by decide +kernel
theorem d_M_init_232 : decode b_M_init 232 = .ok (.iload_n 1, 1) := by decide +kernel
theorem d_M_init_233 : decode b_M_init 233 = .ok (.iconst 4, 1) := by decide +kernel
theorem d_M_init_234 : decode b_M_init 234 = .ok (.if_icmp .le 7, 3) := by decide +kernel
theorem d_M_init_237 : decode b_M_init 237 = .ok (.iconst 4, 1) := by decide +kernel
theorem d_M_init_238 : decode b_M_init 238 = .ok (.goto 4, 3) := by decide +kernel
theorem d_M_init_241 : decode b_M_init 241 = .ok (.iload_n 1, 1) := by decide +kernel
theorem d_M_init_242 : decode b_M_init 242 = .ok (.putfield 101, 3) := by decide +kernel
theorem d_M_init_245 : decode b_M_init 245 = .ok (.return_, 1) := by decide +kernel
theorem d_M_thrown_0 : decode b_M_thrown 0 = .ok (.aload_n 0, 1) := by decide +kernel
theorem d_M_thrown_1 : decode b_M_thrown 1 = .ok (.getfield 105, 3) := by decide +kernel
theorem d_M_thrown_4 : decode b_M_thrown 4 = .ok (.ireturn, 1) := by decide +kernel
theorem d_M_request_0 : decode b_M_request 0 = .ok (.aload_n 0, 1) := by decide +kernel
theorem d_M_request_1 : decode b_M_request 1 = .ok (.iload_n 1, 1) := by decide +kernel
theorem d_M_request_2 : decode b_M_request 2 = .ok (.invokevirtual 108, 3) := by decide +kernel
theorem d_M_request_5 : decode b_M_request 5 = .ok (.ifCond .ne 39, 3) := by decide +kernel
theorem d_M_request_8 : decode b_M_request 8 = .ok (.iload_n 2, 1) := by decide +kernel
theorem d_M_request_9 : decode b_M_request 9 = .ok (.ifCond .lt 35, 3) := by decide +kernel
theorem d_M_request_12 : decode b_M_request 12 = .ok (.iload_n 2, 1) := by decide +kernel
theorem d_M_request_13 : decode b_M_request 13 = .ok (.sipush 2047, 3) := by decide +kernel
theorem d_M_request_16 : decode b_M_request 16 = .ok (.if_icmp .gt 28, 3) := by decide +kernel
theorem d_M_request_19 : decode b_M_request 19 = .ok (.iload_n 3, 1) := by decide +kernel
theorem d_M_request_20 : decode b_M_request 20 = .ok (.ifCond .lt 24, 3) := by decide +kernel
theorem d_M_request_23 : decode b_M_request 23 = .ok (.iload_n 3, 1) := by decide +kernel
theorem d_M_request_24 : decode b_M_request 24 = .ok (.iconst 2, 1) := by decide +kernel
theorem d_M_request_25 : decode b_M_request 25 = .ok (.if_icmp .gt 19, 3) := by decide +kernel
theorem d_M_request_28 : decode b_M_request 28 = .ok (.iload 4, 2) := by decide +kernel
theorem d_M_request_30 : decode b_M_request 30 = .ok (.ifCond .lt 14, 3) := by decide +kernel
theorem d_M_request_33 : decode b_M_request 33 = .ok (.iload 4, 2) := by decide +kernel
theorem d_M_request_35 : decode b_M_request 35 = .ok (.iconst 1, 1) := by decide +kernel
theorem d_M_request_36 : decode b_M_request 36 = .ok (.bipush 8, 2) := by decide +kernel
theorem d_M_request_38 : decode b_M_request 38 = .ok (.iload_n 3, 1) := by decide +kernel
theorem d_M_request_39 : decode b_M_request 39 = .ok (.imul, 1) := by decide +kernel
theorem d_M_request_40 : decode b_M_request 40 = .ok (.ishl, 1) := by decide +kernel
theorem d_M_request_41 : decode b_M_request 41 = .ok (.if_icmp .lt 7, 3) := by decide +kernel
theorem d_M_request_44 : decode b_M_request 44 = .ok (.iconst 1, 1) := by decide +kernel
theorem d_M_request_45 : decode b_M_request 45 = .ok (.goto 4, 3) := by decide +kernel
theorem d_M_request_48 : decode b_M_request 48 = .ok (.iconst 0, 1) := by decide +kernel
theorem d_M_request_49 : decode b_M_request 49 = .ok (.istore 5, 2) := by decide +kernel
theorem d_M_request_51 : decode b_M_request 51 = .ok (.aload_n 0, 1) := by decide +kernel
theorem d_M_request_52 : decode b_M_request 52 = .ok (.iload 5, 2) := by decide +kernel
theorem d_M_request_54 : decode b_M_request 54 = .ok (.ifCond .eq 7, 3) := by decide +kernel
theorem d_M_request_57 : decode b_M_request 57 = .ok (.iconst 1, 1) := by decide +kernel
theorem d_M_request_58 : decode b_M_request 58 = .ok (.goto 29, 3) := by decide +kernel
theorem d_M_request_61 : decode b_M_request 61 = .ok (.aload_n 0, 1) := by decide +kernel
theorem d_M_request_62 : decode b_M_request 62 = .ok (.getfield 38, 3) := by decide +kernel
theorem d_M_request_65 : decode b_M_request 65 = .ok (.iload_n 1, 1) := by decide +kernel
theorem d_M_request_66 : decode b_M_request 66 = .ok (.iaload, 1) := by decide +kernel
theorem d_M_request_67 : decode b_M_request 67 = .ok (.iconst 4, 1) := by decide +kernel
theorem d_M_request_68 : decode b_M_request 68 = .ok (.if_icmp .eq 14, 3) := by decide +kernel
theorem d_M_request_71 : decode b_M_request 71 = .ok (.aload_n 0, 1) := by decide +kernel
theorem d_M_request_72 : decode b_M_request 72 = .ok (.getfield 20, 3) := by decide +kernel
theorem d_M_request_75 : decode b_M_request 75 = .ok (.iload_n 1, 1) := by decide +kernel
theorem d_M_request_76 : decode b_M_request 76 = .ok (.iaload, 1) := by decide +kernel
theorem d_M_request_77 : decode b_M_request 77 = .ok (.bipush 7, 2) := by decide +kernel
theorem d_M_request_79 : decode b_M_request 79 = .ok (.if_icmp .ne 7, 3) := by decide +kernel
theorem d_M_request_82 : decode b_M_request 82 = .ok (.iconst 2, 1) := by decide +kernel
theorem d_M_request_83 : decode b_M_request 83 = .ok (.goto 4, 3) := by decide +kernel
theorem d_M_request_86 : decode b_M_request 86 = .ok (.iconst 0, 1) := by decide +kernel
theorem d_M_request_87 : decode b_M_request 87 = .ok (.putfield 105, 3) := by decide +kernel
theorem d_M_request_90 : decode b_M_request 90 = .ok (.aload_n 0, 1) := by decide +kernel
theorem d_M_request_91 : decode b_M_request 91 = .ok (.getfield 105, 3) := by decide +kernel
theorem d_M_request_94 : decode b_M_request 94 = .ok (.ifCond .eq 5, 3) := by decide +kernel
theorem d_M_request_97 : decode b_M_request 97 = .ok (.iconst 0, 1) := by decide +kernel
theorem d_M_request_98 : decode b_M_request 98 = .ok (.ireturn, 1) := by decide +kernel
theorem d_M_request_99 : decode b_M_request 99 = .ok (.iconst 4, 1) := by decide +kernel
theorem d_M_request_100 : decode b_M_request 100 = .ok (.iload_n 1, 1) := by decide +kernel
theorem d_M_request_101 : decode b_M_request 101 = .ok (.imul, 1) := by decide +kernel
theorem d_M_request_102 : decode b_M_request 102 = .ok (.aload_n 0, 1) := by decide +kernel
theorem d_M_request_103 : decode b_M_request 103 = .ok (.getfield 38, 3) := by decide +kernel
theorem d_M_request_106 : decode b_M_request 106 = .ok (.iload_n 1, 1) := by decide +kernel
theorem d_M_request_107 : decode b_M_request 107 = .ok (.iaload, 1) := by decide +kernel
theorem d_M_request_108 : decode b_M_request 108 = .ok (.iadd, 1) := by decide +kernel
theorem d_M_request_109 : decode b_M_request 109 = .ok (.istore 6, 2) := by decide +kernel
theorem d_M_request_111 : decode b_M_request 111 = .ok (.aload_n 0, 1) := by decide +kernel
theorem d_M_request_112 : decode b_M_request 112 = .ok (.getfield 41, 3) := by decide +kernel
theorem d_M_request_115 : decode b_M_request 115 = .ok (.iload 6, 2) := by decide +kernel
theorem d_M_request_117 : decode b_M_request 117 = .ok (.iload_n 2, 1) := by decide +kernel
theorem d_M_request_118 : decode b_M_request 118 = .ok (.iastore, 1) := by decide +kernel
theorem d_M_request_119 : decode b_M_request 119 = .ok (.aload_n 0, 1) := by decide +kernel
theorem d_M_request_120 : decode b_M_request 120 = .ok (.getfield 44, 3) := by decide +kernel
theorem d_M_request_123 : decode b_M_request 123 = .ok (.iload 6, 2) := by decide +kernel
theorem d_M_request_125 : decode b_M_request 125 = .ok (.iload_n 3, 1) := by decide +kernel
theorem d_M_request_126 : decode b_M_request 126 = .ok (.iastore, 1) := by decide +kernel
theorem d_M_request_127 : decode b_M_request 127 = .ok (.aload_n 0, 1) := by decide +kernel
theorem d_M_request_128 : decode b_M_request 128 = .ok (.getfield 47, 3) := by decide +kernel
theorem d_M_request_131 : decode b_M_request 131 = .ok (.iload 6, 2) := by decide +kernel
theorem d_M_request_133 : decode b_M_request 133 = .ok (.iload 4, 2) := by decide +kernel
theorem d_M_request_135 : decode b_M_request 135 = .ok (.iastore, 1) := by decide +kernel
theorem d_M_request_136 : decode b_M_request 136 = .ok (.aload_n 0, 1) := by decide +kernel
theorem d_M_request_137 : decode b_M_request 137 = .ok (.getfield 38, 3) := by decide +kernel
theorem d_M_request_140 : decode b_M_request 140 = .ok (.iload_n 1, 1) := by decide +kernel
theorem d_M_request_141 : decode b_M_request 141 = .ok (.dup2, 1) := by decide +kernel
theorem d_M_request_142 : decode b_M_request 142 = .ok (.iaload, 1) := by decide +kernel
theorem d_M_request_143 : decode b_M_request 143 = .ok (.iconst 1, 1) := by decide +kernel
theorem d_M_request_144 : decode b_M_request 144 = .ok (.iadd, 1) := by decide +kernel
theorem d_M_request_145 : decode b_M_request 145 = .ok (.iastore, 1) := by decide +kernel
theorem d_M_request_146 : decode b_M_request 146 = .ok (.aload_n 0, 1) := by decide +kernel
theorem d_M_request_147 : decode b_M_request 147 = .ok (.getfield 38, 3) := by decide +kernel
theorem d_M_request_150 : decode b_M_request 150 = .ok (.iload_n 1, 1) := by decide +kernel
theorem d_M_request_151 : decode b_M_request 151 = .ok (.iaload, 1) := by decide +kernel
theorem d_M_request_152 : decode b_M_request 152 = .ok (.ireturn, 1) := by decide +kernel
theorem d_M_noNode_0 : decode b_M_noNode 0 = .ok (.iload_n 1, 1) := by decide +kernel
theorem d_M_noNode_1 : decode b_M_noNode 1 = .ok (.ifCond .lt 11, 3) := by decide +kernel
theorem d_M_noNode_4 : decode b_M_noNode 4 = .ok (.iload_n 1, 1) := by decide +kernel
theorem d_M_noNode_5 : decode b_M_noNode 5 = .ok (.aload_n 0, 1) := by decide +kernel
theorem d_M_noNode_6 : decode b_M_noNode 6 = .ok (.getfield 101, 3) := by decide +kernel
theorem d_M_noNode_9 : decode b_M_noNode 9 = .ok (.if_icmp .lt 7, 3) := by decide +kernel
theorem d_M_noNode_12 : decode b_M_noNode 12 = .ok (.iconst 1, 1) := by decide +kernel
theorem d_M_noNode_13 : decode b_M_noNode 13 = .ok (.goto 4, 3) := by decide +kernel
theorem d_M_noNode_16 : decode b_M_noNode 16 = .ok (.iconst 0, 1) := by decide +kernel
theorem d_M_noNode_17 : decode b_M_noNode 17 = .ok (.ireturn, 1) := by decide +kernel
theorem d_M_filter_0 : decode b_M_filter 0 = .ok (.aload_n 0, 1) := by decide +kernel
theorem d_M_filter_1 : decode b_M_filter 1 = .ok (.aload_n 0, 1) := by decide +kernel
theorem d_M_filter_2 : decode b_M_filter 2 = .ok (.iload_n 1, 1) := by decide +kernel
theorem d_M_filter_3 : decode b_M_filter 3 = .ok (.invokevirtual 108, 3) := by decide +kernel
theorem d_M_filter_6 : decode b_M_filter 6 = .ok (.ifCond .ne 25, 3) := by decide +kernel
theorem d_M_filter_9 : decode b_M_filter 9 = .ok (.iload_n 2, 1) := by decide +kernel
theorem d_M_filter_10 : decode b_M_filter 10 = .ok (.ifCond .lt 21, 3) := by decide +kernel
theorem d_M_filter_13 : decode b_M_filter 13 = .ok (.iload_n 2, 1) := by decide +kernel
theorem d_M_filter_14 : decode b_M_filter 14 = .ok (.sipush 2047, 3) := by decide +kernel
theorem d_M_filter_17 : decode b_M_filter 17 = .ok (.if_icmp .gt 14, 3) := by decide +kernel
theorem d_M_filter_20 : decode b_M_filter 20 = .ok (.iload_n 3, 1) := by decide +kernel
theorem d_M_filter_21 : decode b_M_filter 21 = .ok (.ifCond .lt 10, 3) := by decide +kernel
theorem d_M_filter_24 : decode b_M_filter 24 = .ok (.iload_n 3, 1) := by decide +kernel
theorem d_M_filter_25 : decode b_M_filter 25 = .ok (.sipush 2047, 3) := by decide +kernel
theorem d_M_filter_28 : decode b_M_filter 28 = .ok (.if_icmp .le 7, 3) := by decide +kernel
theorem d_M_filter_31 : decode b_M_filter 31 = .ok (.iconst 1, 1) := by decide +kernel
theorem d_M_filter_32 : decode b_M_filter 32 = .ok (.goto 4, 3) := by decide +kernel
theorem d_M_filter_35 : decode b_M_filter 35 = .ok (.iconst 0, 1) := by decide +kernel
theorem d_M_filter_36 : decode b_M_filter 36 = .ok (.putfield 105, 3) := by decide +kernel
theorem d_M_filter_39 : decode b_M_filter 39 = .ok (.aload_n 0, 1) := by decide +kernel
theorem d_M_filter_40 : decode b_M_filter 40 = .ok (.getfield 105, 3) := by decide +kernel
theorem d_M_filter_43 : decode b_M_filter 43 = .ok (.ifCond .ne 17, 3) := by decide +kernel
theorem d_M_filter_46 : decode b_M_filter 46 = .ok (.aload_n 0, 1) := by decide +kernel
theorem d_M_filter_47 : decode b_M_filter 47 = .ok (.getfield 29, 3) := by decide +kernel
theorem d_M_filter_50 : decode b_M_filter 50 = .ok (.iload_n 1, 1) := by decide +kernel
theorem d_M_filter_51 : decode b_M_filter 51 = .ok (.iload_n 2, 1) := by decide +kernel
theorem d_M_filter_52 : decode b_M_filter 52 = .ok (.iastore, 1) := by decide +kernel
theorem d_M_filter_53 : decode b_M_filter 53 = .ok (.aload_n 0, 1) := by decide +kernel
theorem d_M_filter_54 : decode b_M_filter 54 = .ok (.getfield 32, 3) := by decide +kernel
theorem d_M_filter_57 : decode b_M_filter 57 = .ok (.iload_n 1, 1) := by decide +kernel
theorem d_M_filter_58 : decode b_M_filter 58 = .ok (.iload_n 3, 1) := by decide +kernel
theorem d_M_filter_59 : decode b_M_filter 59 = .ok (.iastore, 1) := by decide +kernel
theorem d_M_filter_60 : decode b_M_filter 60 = .ok (.return_, 1) := by decide +kernel
theorem d_M_disturb_0 : decode b_M_disturb 0 = .ok (.aload_n 0, 1) := by decide +kernel
theorem d_M_disturb_1 : decode b_M_disturb 1 = .ok (.aload_n 0, 1) := by decide +kernel
theorem d_M_disturb_2 : decode b_M_disturb 2 = .ok (.iload_n 1, 1) := by decide +kernel
theorem d_M_disturb_3 : decode b_M_disturb 3 = .ok (.invokevirtual 108, 3) := by decide +kernel
theorem d_M_disturb_6 : decode b_M_disturb 6 = .ok (.ifCond .ne 15, 3) := by decide +kernel
theorem d_M_disturb_9 : decode b_M_disturb 9 = .ok (.iload_n 2, 1) := by decide +kernel
theorem d_M_disturb_10 : decode b_M_disturb 10 = .ok (.iconst 1, 1) := by decide +kernel
theorem d_M_disturb_11 : decode b_M_disturb 11 = .ok (.if_icmp .lt 10, 3) := by decide +kernel
theorem d_M_disturb_14 : decode b_M_disturb 14 = .ok (.iload_n 2, 1) := by decide +kernel
theorem d_M_disturb_15 : decode b_M_disturb 15 = .ok (.sipush 200, 3) := by decide +kernel
theorem d_M_disturb_18 : decode b_M_disturb 18 = .ok (.if_icmp .le 7, 3) := by decide +kernel
theorem d_M_disturb_21 : decode b_M_disturb 21 = .ok (.iconst 1, 1) := by decide +kernel
theorem d_M_disturb_22 : decode b_M_disturb 22 = .ok (.goto 4, 3) := by decide +kernel
theorem d_M_disturb_25 : decode b_M_disturb 25 = .ok (.iconst 0, 1) := by decide +kernel
theorem d_M_disturb_26 : decode b_M_disturb 26 = .ok (.putfield 105, 3) := by decide +kernel
theorem d_M_disturb_29 : decode b_M_disturb 29 = .ok (.aload_n 0, 1) := by decide +kernel
theorem d_M_disturb_30 : decode b_M_disturb 30 = .ok (.getfield 105, 3) := by decide +kernel
theorem d_M_disturb_33 : decode b_M_disturb 33 = .ok (.ifCond .ne 27, 3) := by decide +kernel
theorem d_M_disturb_36 : decode b_M_disturb 36 = .ok (.aload_n 0, 1) := by decide +kernel
theorem d_M_disturb_37 : decode b_M_disturb 37 = .ok (.getfield 16, 3) := by decide +kernel
theorem d_M_disturb_40 : decode b_M_disturb 40 = .ok (.sipush 256, 3) := by decide +kernel
theorem d_M_disturb_43 : decode b_M_disturb 43 = .ok (.iload_n 1, 1) := by decide +kernel
theorem d_M_disturb_44 : decode b_M_disturb 44 = .ok (.imul, 1) := by decide +kernel
theorem d_M_disturb_45 : decode b_M_disturb 45 = .ok (.aload_n 0, 1) := by decide +kernel
theorem d_M_disturb_46 : decode b_M_disturb 46 = .ok (.getfield 7, 3) := by decide +kernel
theorem d_M_disturb_49 : decode b_M_disturb 49 = .ok (.iconst 0, 1) := by decide +kernel
theorem d_M_disturb_50 : decode b_M_disturb 50 = .ok (.iaload, 1) := by decide +kernel
theorem d_M_disturb_51 : decode b_M_disturb 51 = .ok (.iload_n 2, 1) := by decide +kernel
theorem d_M_disturb_52 : decode b_M_disturb 52 = .ok (.iadd, 1) := by decide +kernel
theorem d_M_disturb_53 : decode b_M_disturb 53 = .ok (.sipush 256, 3) := by decide +kernel
theorem d_M_disturb_56 : decode b_M_disturb 56 = .ok (.irem, 1) := by decide +kernel
theorem d_M_disturb_57 : decode b_M_disturb 57 = .ok (.iadd, 1) := by decide +kernel
theorem d_M_disturb_58 : decode b_M_disturb 58 = .ok (.iconst 1, 1) := by decide +kernel
theorem d_M_disturb_59 : decode b_M_disturb 59 = .ok (.bastore, 1) := by decide +kernel
theorem d_M_disturb_60 : decode b_M_disturb 60 = .ok (.return_, 1) := by decide +kernel
theorem d_M_pass_0 : decode b_M_pass 0 = .ok (.aload_n 0, 1) := by decide +kernel
theorem d_M_pass_1 : decode b_M_pass 1 = .ok (.iload_n 1, 1) := by decide +kernel
theorem d_M_pass_2 : decode b_M_pass 2 = .ok (.iconst 1, 1) := by decide +kernel
theorem d_M_pass_3 : decode b_M_pass 3 = .ok (.if_icmp .lt 10, 3) := by decide +kernel
theorem d_M_pass_6 : decode b_M_pass 6 = .ok (.iload_n 1, 1) := by decide +kernel
theorem d_M_pass_7 : decode b_M_pass 7 = .ok (.sipush 200, 3) := by decide +kernel
theorem d_M_pass_10 : decode b_M_pass 10 = .ok (.if_icmp .le 7, 3) := by decide +kernel
theorem d_M_pass_13 : decode b_M_pass 13 = .ok (.iconst 1, 1) := by decide +kernel
theorem d_M_pass_14 : decode b_M_pass 14 = .ok (.goto 4, 3) := by decide +kernel
theorem d_M_pass_17 : decode b_M_pass 17 = .ok (.iconst 0, 1) := by decide +kernel
theorem d_M_pass_18 : decode b_M_pass 18 = .ok (.putfield 105, 3) := by decide +kernel
theorem d_M_pass_21 : decode b_M_pass 21 = .ok (.aload_n 0, 1) := by decide +kernel
theorem d_M_pass_22 : decode b_M_pass 22 = .ok (.getfield 7, 3) := by decide +kernel
theorem d_M_pass_25 : decode b_M_pass 25 = .ok (.iconst 1, 1) := by decide +kernel
theorem d_M_pass_26 : decode b_M_pass 26 = .ok (.iaload, 1) := by decide +kernel
theorem d_M_pass_27 : decode b_M_pass 27 = .ok (.istore_n 2, 1) := by decide +kernel
theorem d_M_pass_28 : decode b_M_pass 28 = .ok (.iconst 0, 1) := by decide +kernel
theorem d_M_pass_29 : decode b_M_pass 29 = .ok (.istore_n 3, 1) := by decide +kernel
theorem d_M_pass_30 : decode b_M_pass 30 = .ok (.iload_n 3, 1) := by decide +kernel
theorem d_M_pass_31 : decode b_M_pass 31 = .ok (.iload_n 1, 1) := by decide +kernel
theorem d_M_pass_32 : decode b_M_pass 32 = .ok (.if_icmp .ge 20, 3) := by decide +kernel
theorem d_M_pass_35 : decode b_M_pass 35 = .ok (.aload_n 0, 1) := by decide +kernel
theorem d_M_pass_36 : decode b_M_pass 36 = .ok (.getfield 105, 3) := by decide +kernel
theorem d_M_pass_39 : decode b_M_pass 39 = .ok (.ifCond .ne 13, 3) := by decide +kernel
theorem d_M_pass_42 : decode b_M_pass 42 = .ok (.aload_n 0, 1) := by decide +kernel
theorem d_M_pass_43 : decode b_M_pass 43 = .ok (.invokevirtual 187, 3) := by decide +kernel
theorem d_M_pass_46 : decode b_M_pass 46 = .ok (.iinc 3 1, 3) := by decide +kernel
theorem d_M_pass_49 : decode b_M_pass 49 = .ok (.goto (-19), 3) := by decide +kernel
theorem d_M_pass_52 : decode b_M_pass 52 = .ok (.aload_n 0, 1) := by decide +kernel
theorem d_M_pass_53 : decode b_M_pass 53 = .ok (.getfield 7, 3) := by decide +kernel
theorem d_M_pass_56 : decode b_M_pass 56 = .ok (.iconst 1, 1) := by decide +kernel
theorem d_M_pass_57 : decode b_M_pass 57 = .ok (.iaload, 1) := by decide +kernel
theorem d_M_pass_58 : decode b_M_pass 58 = .ok (.iload_n 2, 1) := by decide +kernel
theorem d_M_pass_59 : decode b_M_pass 59 = .ok (.isub, 1) := by decide +kernel
theorem d_M_pass_60 : decode b_M_pass 60 = .ok (.ireturn, 1) := by decide +kernel
theorem d_M_bitTime_0 : decode b_M_bitTime 0 = .ok (.aload_n 0, 1) := by decide +kernel
theorem d_M_bitTime_1 : decode b_M_bitTime 1 = .ok (.getfield 7, 3) := by decide +kernel
theorem d_M_bitTime_4 : decode b_M_bitTime 4 = .ok (.iconst 0, 1) := by decide +kernel
theorem d_M_bitTime_5 : decode b_M_bitTime 5 = .ok (.iaload, 1) := by decide +kernel
theorem d_M_bitTime_6 : decode b_M_bitTime 6 = .ok (.iconst 1, 1) := by decide +kernel
theorem d_M_bitTime_7 : decode b_M_bitTime 7 = .ok (.iadd, 1) := by decide +kernel
theorem d_M_bitTime_8 : decode b_M_bitTime 8 = .ok (.istore_n 1, 1) := by decide +kernel
theorem d_M_bitTime_9 : decode b_M_bitTime 9 = .ok (.iconst 1, 1) := by decide +kernel
theorem d_M_bitTime_10 : decode b_M_bitTime 10 = .ok (.istore_n 2, 1) := by decide +kernel
theorem d_M_bitTime_11 : decode b_M_bitTime 11 = .ok (.iconst 0, 1) := by decide +kernel
theorem d_M_bitTime_12 : decode b_M_bitTime 12 = .ok (.istore_n 3, 1) := by decide +kernel
theorem d_M_bitTime_13 : decode b_M_bitTime 13 = .ok (.iload_n 3, 1) := by decide +kernel
theorem d_M_bitTime_14 : decode b_M_bitTime 14 = .ok (.aload_n 0, 1) := by decide +kernel
theorem d_M_bitTime_15 : decode b_M_bitTime 15 = .ok (.getfield 101, 3) := by decide +kernel
theorem d_M_bitTime_18 : decode b_M_bitTime 18 = .ok (.if_icmp .ge 52, 3) := by decide +kernel
theorem d_M_bitTime_21 : decode b_M_bitTime 21 = .ok (.aload_n 0, 1) := by decide +kernel
theorem d_M_bitTime_22 : decode b_M_bitTime 22 = .ok (.getfield 20, 3) := by decide +kernel
theorem d_M_bitTime_25 : decode b_M_bitTime 25 = .ok (.iload_n 3, 1) := by decide +kernel
theorem d_M_bitTime_26 : decode b_M_bitTime 26 = .ok (.iaload, 1) := by decide +kernel
theorem d_M_bitTime_27 : decode b_M_bitTime 27 = .ok (.ifCond .ne 17, 3) := by decide +kernel
theorem d_M_bitTime_30 : decode b_M_bitTime 30 = .ok (.aload_n 0, 1) := by decide +kernel
theorem d_M_bitTime_31 : decode b_M_bitTime 31 = .ok (.getfield 38, 3) := by decide +kernel
theorem d_M_bitTime_34 : decode b_M_bitTime 34 = .ok (.iload_n 3, 1) := by decide +kernel
theorem d_M_bitTime_35 : decode b_M_bitTime 35 = .ok (.iaload, 1) := by decide +kernel
theorem d_M_bitTime_36 : decode b_M_bitTime 36 = .ok (.ifCond .le 8, 3) := by decide +kernel
theorem d_M_bitTime_39 : decode b_M_bitTime 39 = .ok (.aload_n 0, 1) := by decide +kernel
theorem d_M_bitTime_40 : decode b_M_bitTime 40 = .ok (.iload_n 3, 1) := by decide +kernel
theorem d_M_bitTime_41 : decode b_M_bitTime 41 = .ok (.invokevirtual 178, 3) := by decide +kernel
theorem d_M_bitTime_44 : decode b_M_bitTime 44 = .ok (.aload_n 0, 1) := by decide +kernel
theorem d_M_bitTime_45 : decode b_M_bitTime 45 = .ok (.getfield 98, 3) := by decide +kernel
theorem d_M_bitTime_48 : decode b_M_bitTime 48 = .ok (.iload_n 3, 1) := by decide +kernel
theorem d_M_bitTime_49 : decode b_M_bitTime 49 = .ok (.aload_n 0, 1) := by decide +kernel
theorem d_M_bitTime_50 : decode b_M_bitTime 50 = .ok (.iload_n 3, 1) := by decide +kernel
theorem d_M_bitTime_51 : decode b_M_bitTime 51 = .ok (.invokevirtual 181, 3) := by decide +kernel
theorem d_M_bitTime_54 : decode b_M_bitTime 54 = .ok (.iastore, 1) := by decide +kernel
theorem d_M_bitTime_55 : decode b_M_bitTime 55 = .ok (.iload_n 2, 1) := by decide +kernel
theorem d_M_bitTime_56 : decode b_M_bitTime 56 = .ok (.aload_n 0, 1) := by decide +kernel
theorem d_M_bitTime_57 : decode b_M_bitTime 57 = .ok (.getfield 98, 3) := by decide +kernel
theorem d_M_bitTime_60 : decode b_M_bitTime 60 = .ok (.iload_n 3, 1) := by decide +kernel
theorem d_M_bitTime_61 : decode b_M_bitTime 61 = .ok (.iaload, 1) := by decide +kernel
theorem d_M_bitTime_62 : decode b_M_bitTime 62 = .ok (.iand, 1) := by decide +kernel
theorem d_M_bitTime_63 : decode b_M_bitTime 63 = .ok (.istore_n 2, 1) := by decide +kernel
theorem d_M_bitTime_64 : decode b_M_bitTime 64 = .ok (.iinc 3 1, 3) := by decide +kernel
theorem d_M_bitTime_67 : decode b_M_bitTime 67 = .ok (.goto (-54), 3) := by decide +kernel
theorem d_M_bitTime_70 : decode b_M_bitTime 70 = .ok (.iconst 0, 1) := by decide +kernel
theorem d_M_bitTime_71 : decode b_M_bitTime 71 = .ok (.istore_n 3, 1) := by decide +kernel
theorem d_M_bitTime_72 : decode b_M_bitTime 72 = .ok (.iload_n 3, 1) := by decide +kernel
theorem d_M_bitTime_73 : decode b_M_bitTime 73 = .ok (.aload_n 0, 1) := by decide +kernel
theorem d_M_bitTime_74 : decode b_M_bitTime 74 = .ok (.getfield 101, 3) := by decide +kernel
theorem d_M_bitTime_77 : decode b_M_bitTime 77 = .ok (.if_icmp .ge 56, 3) := by decide +kernel
theorem d_M_bitTime_80 : decode b_M_bitTime 80 = .ok (.sipush 256, 3) := by decide +kernel
theorem d_M_bitTime_83 : decode b_M_bitTime 83 = .ok (.iload_n 3, 1) := by decide +kernel
theorem d_M_bitTime_84 : decode b_M_bitTime 84 = .ok (.imul, 1) := by decide +kernel
theorem d_M_bitTime_85 : decode b_M_bitTime 85 = .ok (.iload_n 1, 1) := by decide +kernel
theorem d_M_bitTime_86 : decode b_M_bitTime 86 = .ok (.sipush 256, 3) := by decide +kernel
theorem d_M_bitTime_89 : decode b_M_bitTime 89 = .ok (.irem, 1) := by decide +kernel
theorem d_M_bitTime_90 : decode b_M_bitTime 90 = .ok (.iadd, 1) := by decide +kernel
theorem d_M_bitTime_91 : decode b_M_bitTime 91 = .ok (.istore 4, 2) := by decide +kernel
theorem d_M_bitTime_93 : decode b_M_bitTime 93 = .ok (.aload_n 0, 1) := by decide +kernel
theorem d_M_bitTime_94 : decode b_M_bitTime 94 = .ok (.getfield 16, 3) := by decide +kernel
theorem d_M_bitTime_97 : decode b_M_bitTime 97 = .ok (.iload 4, 2) := by decide +kernel
theorem d_M_bitTime_99 : decode b_M_bitTime 99 = .ok (.baload, 1) := by decide +kernel
theorem d_M_bitTime_100 : decode b_M_bitTime 100 = .ok (.ifCond .eq 9, 3) := by decide +kernel
theorem d_M_bitTime_103 : decode b_M_bitTime 103 = .ok (.iconst 1, 1) := by decide +kernel
theorem d_M_bitTime_104 : decode b_M_bitTime 104 = .ok (.iload_n 2, 1) := by decide +kernel
theorem d_M_bitTime_105 : decode b_M_bitTime 105 = .ok (.isub, 1) := by decide +kernel
theorem d_M_bitTime_106 : decode b_M_bitTime 106 = .ok (.goto 4, 3) := by decide +kernel
theorem d_M_bitTime_109 : decode b_M_bitTime 109 = .ok (.iload_n 2, 1) := by decide +kernel
theorem d_M_bitTime_110 : decode b_M_bitTime 110 = .ok (.istore 5, 2) := by decide +kernel
theorem d_M_bitTime_112 : decode b_M_bitTime 112 = .ok (.aload_n 0, 1) := by decide +kernel
theorem d_M_bitTime_113 : decode b_M_bitTime 113 = .ok (.getfield 16, 3) := by decide +kernel
theorem d_M_bitTime_116 : decode b_M_bitTime 116 = .ok (.iload 4, 2) := by decide +kernel
theorem d_M_bitTime_118 : decode b_M_bitTime 118 = .ok (.iconst 0, 1) := by decide +kernel
theorem d_M_bitTime_119 : decode b_M_bitTime 119 = .ok (.bastore, 1) := by decide +kernel
theorem d_M_bitTime_120 : decode b_M_bitTime 120 = .ok (.aload_n 0, 1) := by decide +kernel
theorem d_M_bitTime_121 : decode b_M_bitTime 121 = .ok (.iload_n 3, 1) := by decide +kernel
theorem d_M_bitTime_122 : decode b_M_bitTime 122 = .ok (.iload 5, 2) := by decide +kernel
theorem d_M_bitTime_124 : decode b_M_bitTime 124 = .ok (.invokevirtual 184, 3) := by decide +kernel
theorem d_M_bitTime_127 : decode b_M_bitTime 127 = .ok (.iinc 3 1, 3) := by decide +kernel
theorem d_M_bitTime_130 : decode b_M_bitTime 130 = .ok (.goto (-58), 3) := by decide +kernel
theorem d_M_bitTime_133 : decode b_M_bitTime 133 = .ok (.aload_n 0, 1) := by decide +kernel
theorem d_M_bitTime_134 : decode b_M_bitTime 134 = .ok (.getfield 13, 3) := by decide +kernel
theorem d_M_bitTime_137 : decode b_M_bitTime 137 = .ok (.iload_n 1, 1) := by decide +kernel
theorem d_M_bitTime_138 : decode b_M_bitTime 138 = .ok (.bipush 64, 2) := by decide +kernel
theorem d_M_bitTime_140 : decode b_M_bitTime 140 = .ok (.irem, 1) := by decide +kernel
theorem d_M_bitTime_141 : decode b_M_bitTime 141 = .ok (.iload_n 2, 1) := by decide +kernel
theorem d_M_bitTime_142 : decode b_M_bitTime 142 = .ok (.iastore, 1) := by decide +kernel
theorem d_M_bitTime_143 : decode b_M_bitTime 143 = .ok (.aload_n 0, 1) := by decide +kernel
theorem d_M_bitTime_144 : decode b_M_bitTime 144 = .ok (.getfield 7, 3) := by decide +kernel
theorem d_M_bitTime_147 : decode b_M_bitTime 147 = .ok (.iconst 0, 1) := by decide +kernel
theorem d_M_bitTime_148 : decode b_M_bitTime 148 = .ok (.iload_n 1, 1) := by decide +kernel
theorem d_M_bitTime_149 : decode b_M_bitTime 149 = .ok (.iastore, 1) := by decide +kernel
theorem d_M_bitTime_150 : decode b_M_bitTime 150 = .ok (.return_, 1) := by decide +kernel
theorem d_M_begin_0 : decode b_M_begin 0 = .ok (.iconst 0, 1) := by decide +kernel
theorem d_M_begin_1 : decode b_M_begin 1 = .ok (.istore_n 2, 1) := by decide +kernel
theorem d_M_begin_2 : decode b_M_begin 2 = .ok (.iconst 1, 1) := by decide +kernel
theorem d_M_begin_3 : decode b_M_begin 3 = .ok (.istore_n 3, 1) := by decide +kernel
theorem d_M_begin_4 : decode b_M_begin 4 = .ok (.iload_n 3, 1) := by decide +kernel
theorem d_M_begin_5 : decode b_M_begin 5 = .ok (.aload_n 0, 1) := by decide +kernel
theorem d_M_begin_6 : decode b_M_begin 6 = .ok (.getfield 38, 3) := by decide +kernel
theorem d_M_begin_9 : decode b_M_begin 9 = .ok (.iload_n 1, 1) := by decide +kernel
theorem d_M_begin_10 : decode b_M_begin 10 = .ok (.iaload, 1) := by decide +kernel
theorem d_M_begin_11 : decode b_M_begin 11 = .ok (.if_icmp .ge 38, 3) := by decide +kernel
theorem d_M_begin_14 : decode b_M_begin 14 = .ok (.aload_n 0, 1) := by decide +kernel
theorem d_M_begin_15 : decode b_M_begin 15 = .ok (.getfield 41, 3) := by decide +kernel
theorem d_M_begin_18 : decode b_M_begin 18 = .ok (.iconst 4, 1) := by decide +kernel
theorem d_M_begin_19 : decode b_M_begin 19 = .ok (.iload_n 1, 1) := by decide +kernel
theorem d_M_begin_20 : decode b_M_begin 20 = .ok (.imul, 1) := by decide +kernel
theorem d_M_begin_21 : decode b_M_begin 21 = .ok (.iload_n 3, 1) := by decide +kernel
theorem d_M_begin_22 : decode b_M_begin 22 = .ok (.iadd, 1) := by decide +kernel
theorem d_M_begin_23 : decode b_M_begin 23 = .ok (.iaload, 1) := by decide +kernel
theorem d_M_begin_24 : decode b_M_begin 24 = .ok (.aload_n 0, 1) := by decide +kernel
theorem d_M_begin_25 : decode b_M_begin 25 = .ok (.getfield 41, 3) := by decide +kernel
theorem d_M_begin_28 : decode b_M_begin 28 = .ok (.iconst 4, 1) := by decide +kernel
theorem d_M_begin_29 : decode b_M_begin 29 = .ok (.iload_n 1, 1) := by decide +kernel
theorem d_M_begin_30 : decode b_M_begin 30 = .ok (.imul, 1) := by decide +kernel
theorem d_M_begin_31 : decode b_M_begin 31 = .ok (.iload_n 2, 1) := by decide +kernel
theorem d_M_begin_32 : decode b_M_begin 32 = .ok (.iadd, 1) := by decide +kernel
theorem d_M_begin_33 : decode b_M_begin 33 = .ok (.iaload, 1) := by decide +kernel
theorem d_M_begin_34 : decode b_M_begin 34 = .ok (.if_icmp .ge 7, 3) := by decide +kernel
theorem d_M_begin_37 : decode b_M_begin 37 = .ok (.iload_n 3, 1) := by decide +kernel
theorem d_M_begin_38 : decode b_M_begin 38 = .ok (.goto 4, 3) := by decide +kernel
theorem d_M_begin_41 : decode b_M_begin 41 = .ok (.iload_n 2, 1) := by decide +kernel
theorem d_M_begin_42 : decode b_M_begin 42 = .ok (.istore_n 2, 1) := by decide +kernel
theorem d_M_begin_43 : decode b_M_begin 43 = .ok (.iinc 3 1, 3) := by decide +kernel
theorem d_M_begin_46 : decode b_M_begin 46 = .ok (.goto (-42), 3) := by decide +kernel
theorem d_M_begin_49 : decode b_M_begin 49 = .ok (.aload_n 0, 1) := by decide +kernel
theorem d_M_begin_50 : decode b_M_begin 50 = .ok (.getfield 50, 3) := by decide +kernel
theorem d_M_begin_53 : decode b_M_begin 53 = .ok (.iload_n 1, 1) := by decide +kernel
theorem d_M_begin_54 : decode b_M_begin 54 = .ok (.iload_n 2, 1) := by decide +kernel
theorem d_M_begin_55 : decode b_M_begin 55 = .ok (.iastore, 1) := by decide +kernel
theorem d_M_begin_56 : decode b_M_begin 56 = .ok (.aload_n 0, 1) := by decide +kernel
theorem d_M_begin_57 : decode b_M_begin 57 = .ok (.iload_n 1, 1) := by decide +kernel
theorem d_M_begin_58 : decode b_M_begin 58 = .ok (.iconst 1, 1) := by decide +kernel
theorem d_M_begin_59 : decode b_M_begin 59 = .ok (.invokevirtual 112, 3) := by decide +kernel
theorem d_M_begin_62 : decode b_M_begin 62 = .ok (.return_, 1) := by decide +kernel
theorem d_M_open_0 : decode b_M_open 0 = .ok (.aload_n 0, 1) := by decide +kernel
theorem d_M_open_1 : decode b_M_open 1 = .ok (.getfield 20, 3) := by decide +kernel
theorem d_M_open_4 : decode b_M_open 4 = .ok (.iload_n 1, 1) := by decide +kernel
theorem d_M_open_5 : decode b_M_open 5 = .ok (.iload_n 2, 1) := by decide +kernel
theorem d_M_open_6 : decode b_M_open 6 = .ok (.iastore, 1) := by decide +kernel
theorem d_M_open_7 : decode b_M_open 7 = .ok (.aload_n 0, 1) := by decide +kernel
theorem d_M_open_8 : decode b_M_open 8 = .ok (.getfield 95, 3) := by decide +kernel
theorem d_M_open_11 : decode b_M_open 11 = .ok (.iload_n 1, 1) := by decide +kernel
theorem d_M_open_12 : decode b_M_open 12 = .ok (.iload_n 2, 1) := by decide +kernel
theorem d_M_open_13 : decode b_M_open 13 = .ok (.iastore, 1) := by decide +kernel
theorem d_M_open_14 : decode b_M_open 14 = .ok (.aload_n 0, 1) := by decide +kernel
theorem d_M_open_15 : decode b_M_open 15 = .ok (.getfield 59, 3) := by decide +kernel
theorem d_M_open_18 : decode b_M_open 18 = .ok (.iload_n 1, 1) := by decide +kernel
theorem d_M_open_19 : decode b_M_open 19 = .ok (.iconst 0, 1) := by decide +kernel
theorem d_M_open_20 : decode b_M_open 20 = .ok (.iastore, 1) := by decide +kernel
theorem d_M_open_21 : decode b_M_open 21 = .ok (.aload_n 0, 1) := by decide +kernel
theorem d_M_open_22 : decode b_M_open 22 = .ok (.getfield 62, 3) := by decide +kernel
theorem d_M_open_25 : decode b_M_open 25 = .ok (.iload_n 1, 1) := by decide +kernel
theorem d_M_open_26 : decode b_M_open 26 = .ok (.iconst 0, 1) := by decide +kernel
theorem d_M_open_27 : decode b_M_open 27 = .ok (.iastore, 1) := by decide +kernel
theorem d_M_open_28 : decode b_M_open 28 = .ok (.aload_n 0, 1) := by decide +kernel
theorem d_M_open_29 : decode b_M_open 29 = .ok (.getfield 65, 3) := by decide +kernel
theorem d_M_open_32 : decode b_M_open 32 = .ok (.iload_n 1, 1) := by decide +kernel
theorem d_M_open_33 : decode b_M_open 33 = .ok (.iconst 0, 1) := by decide +kernel
theorem d_M_open_34 : decode b_M_open 34 = .ok (.iastore, 1) := by decide +kernel
theorem d_M_open_35 : decode b_M_open 35 = .ok (.aload_n 0, 1) := by decide +kernel
theorem d_M_open_36 : decode b_M_open 36 = .ok (.getfield 68, 3) := by decide +kernel
theorem d_M_open_39 : decode b_M_open 39 = .ok (.iload_n 1, 1) := by decide +kernel
theorem d_M_open_40 : decode b_M_open 40 = .ok (.iconst 0, 1) := by decide +kernel
theorem d_M_open_41 : decode b_M_open 41 = .ok (.iastore, 1) := by decide +kernel
theorem d_M_open_42 : decode b_M_open 42 = .ok (.aload_n 0, 1) := by decide +kernel
theorem d_M_open_43 : decode b_M_open 43 = .ok (.getfield 71, 3) := by decide +kernel
theorem d_M_open_46 : decode b_M_open 46 = .ok (.iload_n 1, 1) := by decide +kernel
theorem d_M_open_47 : decode b_M_open 47 = .ok (.iconst 0, 1) := by decide +kernel
theorem d_M_open_48 : decode b_M_open 48 = .ok (.iastore, 1) := by decide +kernel
theorem d_M_open_49 : decode b_M_open 49 = .ok (.aload_n 0, 1) := by decide +kernel
theorem d_M_open_50 : decode b_M_open 50 = .ok (.getfield 74, 3) := by decide +kernel
theorem d_M_open_53 : decode b_M_open 53 = .ok (.iload_n 1, 1) := by decide +kernel
theorem d_M_open_54 : decode b_M_open 54 = .ok (.iconst 0, 1) := by decide +kernel
theorem d_M_open_55 : decode b_M_open 55 = .ok (.iastore, 1) := by decide +kernel
theorem d_M_open_56 : decode b_M_open 56 = .ok (.aload_n 0, 1) := by decide +kernel
theorem d_M_open_57 : decode b_M_open 57 = .ok (.getfield 77, 3) := by decide +kernel
theorem d_M_open_60 : decode b_M_open 60 = .ok (.iload_n 1, 1) := by decide +kernel
theorem d_M_open_61 : decode b_M_open 61 = .ok (.iconst 0, 1) := by decide +kernel
theorem d_M_open_62 : decode b_M_open 62 = .ok (.iastore, 1) := by decide +kernel
theorem d_M_open_63 : decode b_M_open 63 = .ok (.aload_n 0, 1) := by decide +kernel
theorem d_M_open_64 : decode b_M_open 64 = .ok (.getfield 80, 3) := by decide +kernel
theorem d_M_open_67 : decode b_M_open 67 = .ok (.iload_n 1, 1) := by decide +kernel
theorem d_M_open_68 : decode b_M_open 68 = .ok (.iconst 0, 1) := by decide +kernel
theorem d_M_open_69 : decode b_M_open 69 = .ok (.iastore, 1) := by decide +kernel
theorem d_M_open_70 : decode b_M_open 70 = .ok (.return_, 1) := by decide +kernel
theorem d_M_driven_0 : decode b_M_driven 0 = .ok (.aload_n 0, 1) := by decide +kernel
theorem d_M_driven_1 : decode b_M_driven 1 = .ok (.getfield 20, 3) := by decide +kernel
theorem d_M_driven_4 : decode b_M_driven 4 = .ok (.iload_n 1, 1) := by decide +kernel
theorem d_M_driven_5 : decode b_M_driven 5 = .ok (.iaload, 1) := by decide +kernel
theorem d_M_driven_6 : decode b_M_driven 6 = .ok (.tableswitch 106 1 3 #[26, 66, 91], 26) := by decide +kernel
theorem d_M_driven_32 : decode b_M_driven 32 = .ok (.aload_n 0, 1) := by decide +kernel
theorem d_M_driven_33 : decode b_M_driven 33 = .ok (.getfield 59, 3) := by decide +kernel
theorem d_M_driven_36 : decode b_M_driven 36 = .ok (.iload_n 1, 1) := by decide +kernel
theorem d_M_driven_37 : decode b_M_driven 37 = .ok (.iaload, 1) := by decide +kernel
theorem d_M_driven_38 : decode b_M_driven 38 = .ok (.ifCond .le 7, 3) := by decide +kernel
theorem d_M_driven_41 : decode b_M_driven 41 = .ok (.iconst 1, 1) := by decide +kernel
theorem d_M_driven_42 : decode b_M_driven 42 = .ok (.goto 29, 3) := by decide +kernel
theorem d_M_driven_45 : decode b_M_driven 45 = .ok (.aload_n 0, 1) := by decide +kernel
theorem d_M_driven_46 : decode b_M_driven 46 = .ok (.getfield 65, 3) := by decide +kernel
theorem d_M_driven_49 : decode b_M_driven 49 = .ok (.iload_n 1, 1) := by decide +kernel
theorem d_M_driven_50 : decode b_M_driven 50 = .ok (.iaload, 1) := by decide +kernel
theorem d_M_driven_51 : decode b_M_driven 51 = .ok (.iconst 5, 1) := by decide +kernel
theorem d_M_driven_52 : decode b_M_driven 52 = .ok (.if_icmp .ne 14, 3) := by decide +kernel
theorem d_M_driven_55 : decode b_M_driven 55 = .ok (.iconst 1, 1) := by decide +kernel
theorem d_M_driven_56 : decode b_M_driven 56 = .ok (.aload_n 0, 1) := by decide +kernel
theorem d_M_driven_57 : decode b_M_driven 57 = .ok (.getfield 68, 3) := by decide +kernel
theorem d_M_driven_60 : decode b_M_driven 60 = .ok (.iload_n 1, 1) := by decide +kernel
theorem d_M_driven_61 : decode b_M_driven 61 = .ok (.iaload, 1) := by decide +kernel
theorem d_M_driven_62 : decode b_M_driven 62 = .ok (.isub, 1) := by decide +kernel
theorem d_M_driven_63 : decode b_M_driven 63 = .ok (.goto 8, 3) := by decide +kernel
theorem d_M_driven_66 : decode b_M_driven 66 = .ok (.aload_n 0, 1) := by decide +kernel
theorem d_M_driven_67 : decode b_M_driven 67 = .ok (.iload_n 1, 1) := by decide +kernel
theorem d_M_driven_68 : decode b_M_driven 68 = .ok (.invokevirtual 116, 3) := by decide +kernel
theorem d_M_driven_71 : decode b_M_driven 71 = .ok (.ireturn, 1) := by decide +kernel
theorem d_M_driven_72 : decode b_M_driven 72 = .ok (.aload_n 0, 1) := by decide +kernel
theorem d_M_driven_73 : decode b_M_driven 73 = .ok (.getfield 59, 3) := by decide +kernel
theorem d_M_driven_76 : decode b_M_driven 76 = .ok (.iload_n 1, 1) := by decide +kernel
theorem d_M_driven_77 : decode b_M_driven 77 = .ok (.iaload, 1) := by decide +kernel
theorem d_M_driven_78 : decode b_M_driven 78 = .ok (.iconst 2, 1) := by decide +kernel
theorem d_M_driven_79 : decode b_M_driven 79 = .ok (.if_icmp .ne 16, 3) := by decide +kernel
theorem d_M_driven_82 : decode b_M_driven 82 = .ok (.aload_n 0, 1) := by decide +kernel
theorem d_M_driven_83 : decode b_M_driven 83 = .ok (.getfield 71, 3) := by decide +kernel
theorem d_M_driven_86 : decode b_M_driven 86 = .ok (.iload_n 1, 1) := by decide +kernel
theorem d_M_driven_87 : decode b_M_driven 87 = .ok (.iaload, 1) := by decide +kernel
theorem d_M_driven_88 : decode b_M_driven 88 = .ok (.ifCond .ne 7, 3) := by decide +kernel
theorem d_M_driven_91 : decode b_M_driven 91 = .ok (.iconst 0, 1) := by decide +kernel
theorem d_M_driven_92 : decode b_M_driven 92 = .ok (.goto 4, 3) := by decide +kernel
theorem d_M_driven_95 : decode b_M_driven 95 = .ok (.iconst 1, 1) := by decide +kernel
theorem d_M_driven_96 : decode b_M_driven 96 = .ok (.ireturn, 1) := by decide +kernel
theorem d_M_driven_97 : decode b_M_driven 97 = .ok (.aload_n 0, 1) := by decide +kernel
theorem d_M_driven_98 : decode b_M_driven 98 = .ok (.getfield 86, 3) := by decide +kernel
theorem d_M_driven_101 : decode b_M_driven 101 = .ok (.iload_n 1, 1) := by decide +kernel
theorem d_M_driven_102 : decode b_M_driven 102 = .ok (.baload, 1) := by decide +kernel
theorem d_M_driven_103 : decode b_M_driven 103 = .ok (.ifCond .eq 7, 3) := by decide +kernel
theorem d_M_driven_106 : decode b_M_driven 106 = .ok (.iconst 1, 1) := by decide +kernel
theorem d_M_driven_107 : decode b_M_driven 107 = .ok (.goto 4, 3) := by decide +kernel
theorem d_M_driven_110 : decode b_M_driven 110 = .ok (.iconst 0, 1) := by decide +kernel
theorem d_M_driven_111 : decode b_M_driven 111 = .ok (.ireturn, 1) := by decide +kernel
theorem d_M_driven_112 : decode b_M_driven 112 = .ok (.iconst 1, 1) := by decide +kernel
theorem d_M_driven_113 : decode b_M_driven 113 = .ok (.ireturn, 1) := by decide +kernel
theorem d_M_coreBit_0 : decode b_M_coreBit 0 = .ok (.aload_n 0, 1) := by decide +kernel
theorem d_M_coreBit_1 : decode b_M_coreBit 1 = .ok (.getfield 62, 3) := by decide +kernel
theorem d_M_coreBit_4 : decode b_M_coreBit 4 = .ok (.iload_n 1, 1) := by decide +kernel
theorem d_M_coreBit_5 : decode b_M_coreBit 5 = .ok (.iaload, 1) := by decide +kernel
theorem d_M_coreBit_6 : decode b_M_coreBit 6 = .ok (.istore_n 2, 1) := by decide +kernel
theorem d_M_coreBit_7 : decode b_M_coreBit 7 = .ok (.iconst 4, 1) := by decide +kernel
theorem d_M_coreBit_8 : decode b_M_coreBit 8 = .ok (.iload_n 1, 1) := by decide +kernel
theorem d_M_coreBit_9 : decode b_M_coreBit 9 = .ok (.imul, 1) := by decide +kernel
theorem d_M_coreBit_10 : decode b_M_coreBit 10 = .ok (.aload_n 0, 1) := by decide +kernel
theorem d_M_coreBit_11 : decode b_M_coreBit 11 = .ok (.getfield 50, 3) := by decide +kernel
theorem d_M_coreBit_14 : decode b_M_coreBit 14 = .ok (.iload_n 1, 1) := by decide +kernel
theorem d_M_coreBit_15 : decode b_M_coreBit 15 = .ok (.iaload, 1) := by decide +kernel
theorem d_M_coreBit_16 : decode b_M_coreBit 16 = .ok (.iadd, 1) := by decide +kernel
theorem d_M_coreBit_17 : decode b_M_coreBit 17 = .ok (.istore_n 3, 1) := by decide +kernel
theorem d_M_coreBit_18 : decode b_M_coreBit 18 = .ok (.iload_n 2, 1) := by decide +kernel
theorem d_M_coreBit_19 : decode b_M_coreBit 19 = .ok (.ifCond .le 23, 3) := by decide +kernel
theorem d_M_coreBit_22 : decode b_M_coreBit 22 = .ok (.iload_n 2, 1) := by decide +kernel
theorem d_M_coreBit_23 : decode b_M_coreBit 23 = .ok (.bipush 12, 2) := by decide +kernel
theorem d_M_coreBit_25 : decode b_M_coreBit 25 = .ok (.if_icmp .ge 17, 3) := by decide +kernel
theorem d_M_coreBit_28 : decode b_M_coreBit 28 = .ok (.aload_n 0, 1) := by decide +kernel
theorem d_M_coreBit_29 : decode b_M_coreBit 29 = .ok (.getfield 41, 3) := by decide +kernel
theorem d_M_coreBit_32 : decode b_M_coreBit 32 = .ok (.iload_n 3, 1) := by decide +kernel
theorem d_M_coreBit_33 : decode b_M_coreBit 33 = .ok (.iaload, 1) := by decide +kernel
theorem d_M_coreBit_34 : decode b_M_coreBit 34 = .ok (.bipush 11, 2) := by decide +kernel
theorem d_M_coreBit_36 : decode b_M_coreBit 36 = .ok (.iload_n 2, 1) := by decide +kernel
theorem d_M_coreBit_37 : decode b_M_coreBit 37 = .ok (.isub, 1) := by decide +kernel
theorem d_M_coreBit_38 : decode b_M_coreBit 38 = .ok (.ishr, 1) := by decide +kernel
theorem d_M_coreBit_39 : decode b_M_coreBit 39 = .ok (.iconst 1, 1) := by decide +kernel
theorem d_M_coreBit_40 : decode b_M_coreBit 40 = .ok (.iand, 1) := by decide +kernel
theorem d_M_coreBit_41 : decode b_M_coreBit 41 = .ok (.ireturn, 1) := by decide +kernel
theorem d_M_coreBit_42 : decode b_M_coreBit 42 = .ok (.iload_n 2, 1) := by decide +kernel
theorem d_M_coreBit_43 : decode b_M_coreBit 43 = .ok (.bipush 15, 2) := by decide +kernel
theorem d_M_coreBit_45 : decode b_M_coreBit 45 = .ok (.if_icmp .ge 5, 3) := by decide +kernel
theorem d_M_coreBit_48 : decode b_M_coreBit 48 = .ok (.iconst 0, 1) := by decide +kernel
theorem d_M_coreBit_49 : decode b_M_coreBit 49 = .ok (.ireturn, 1) := by decide +kernel
theorem d_M_coreBit_50 : decode b_M_coreBit 50 = .ok (.iload_n 2, 1) := by decide +kernel
theorem d_M_coreBit_51 : decode b_M_coreBit 51 = .ok (.bipush 19, 2) := by decide +kernel
theorem d_M_coreBit_53 : decode b_M_coreBit 53 = .ok (.if_icmp .ge 17, 3) := by decide +kernel
theorem d_M_coreBit_56 : decode b_M_coreBit 56 = .ok (.aload_n 0, 1) := by decide +kernel
theorem d_M_coreBit_57 : decode b_M_coreBit 57 = .ok (.getfield 44, 3) := by decide +kernel
theorem d_M_coreBit_60 : decode b_M_coreBit 60 = .ok (.iload_n 3, 1) := by decide +kernel
theorem d_M_coreBit_61 : decode b_M_coreBit 61 = .ok (.iaload, 1) := by decide +kernel
theorem d_M_coreBit_62 : decode b_M_coreBit 62 = .ok (.bipush 18, 2) := by decide +kernel
theorem d_M_coreBit_64 : decode b_M_coreBit 64 = .ok (.iload_n 2, 1) := by decide +kernel
theorem d_M_coreBit_65 : decode b_M_coreBit 65 = .ok (.isub, 1) := by decide +kernel
theorem d_M_coreBit_66 : decode b_M_coreBit 66 = .ok (.ishr, 1) := by decide +kernel
theorem d_M_coreBit_67 : decode b_M_coreBit 67 = .ok (.iconst 1, 1) := by decide +kernel
theorem d_M_coreBit_68 : decode b_M_coreBit 68 = .ok (.iand, 1) := by decide +kernel
theorem d_M_coreBit_69 : decode b_M_coreBit 69 = .ok (.ireturn, 1) := by decide +kernel
theorem d_M_coreBit_70 : decode b_M_coreBit 70 = .ok (.iload_n 2, 1) := by decide +kernel
theorem d_M_coreBit_71 : decode b_M_coreBit 71 = .ok (.bipush 19, 2) := by decide +kernel
theorem d_M_coreBit_73 : decode b_M_coreBit 73 = .ok (.isub, 1) := by decide +kernel
theorem d_M_coreBit_74 : decode b_M_coreBit 74 = .ok (.istore 4, 2) := by decide +kernel
theorem d_M_coreBit_76 : decode b_M_coreBit 76 = .ok (.iload 4, 2) := by decide +kernel
theorem d_M_coreBit_78 : decode b_M_coreBit 78 = .ok (.bipush 8, 2) := by decide +kernel
theorem d_M_coreBit_80 : decode b_M_coreBit 80 = .ok (.aload_n 0, 1) := by decide +kernel
theorem d_M_coreBit_81 : decode b_M_coreBit 81 = .ok (.getfield 44, 3) := by decide +kernel
theorem d_M_coreBit_84 : decode b_M_coreBit 84 = .ok (.iload_n 3, 1) := by decide +kernel
theorem d_M_coreBit_85 : decode b_M_coreBit 85 = .ok (.iaload, 1) := by decide +kernel
theorem d_M_coreBit_86 : decode b_M_coreBit 86 = .ok (.imul, 1) := by decide +kernel
theorem d_M_coreBit_87 : decode b_M_coreBit 87 = .ok (.if_icmp .ge 30, 3) := by decide +kernel
theorem d_M_coreBit_90 : decode b_M_coreBit 90 = .ok (.aload_n 0, 1) := by decide +kernel
theorem d_M_coreBit_91 : decode b_M_coreBit 91 = .ok (.getfield 47, 3) := by decide +kernel
theorem d_M_coreBit_94 : decode b_M_coreBit 94 = .ok (.iload_n 3, 1) := by decide +kernel
theorem d_M_coreBit_95 : decode b_M_coreBit 95 = .ok (.iaload, 1) := by decide +kernel
theorem d_M_coreBit_96 : decode b_M_coreBit 96 = .ok (.bipush 8, 2) := by decide +kernel
theorem d_M_coreBit_98 : decode b_M_coreBit 98 = .ok (.iload 4, 2) := by decide +kernel
theorem d_M_coreBit_100 : decode b_M_coreBit 100 = .ok (.bipush 8, 2) := by decide +kernel
theorem d_M_coreBit_102 : decode b_M_coreBit 102 = .ok (.idiv, 1) := by decide +kernel
theorem d_M_coreBit_103 : decode b_M_coreBit 103 = .ok (.imul, 1) := by decide +kernel
theorem d_M_coreBit_104 : decode b_M_coreBit 104 = .ok (.bipush 7, 2) := by decide +kernel
theorem d_M_coreBit_106 : decode b_M_coreBit 106 = .ok (.iadd, 1) := by decide +kernel
theorem d_M_coreBit_107 : decode b_M_coreBit 107 = .ok (.iload 4, 2) := by decide +kernel
theorem d_M_coreBit_109 : decode b_M_coreBit 109 = .ok (.bipush 8, 2) := by decide +kernel
theorem d_M_coreBit_111 : decode b_M_coreBit 111 = .ok (.irem, 1) := by decide +kernel
theorem d_M_coreBit_112 : decode b_M_coreBit 112 = .ok (.isub, 1) := by decide +kernel
theorem d_M_coreBit_113 : decode b_M_coreBit 113 = .ok (.ishr, 1) := by decide +kernel
theorem d_M_coreBit_114 : decode b_M_coreBit 114 = .ok (.iconst 1, 1) := by decide +kernel
theorem d_M_coreBit_115 : decode b_M_coreBit 115 = .ok (.iand, 1) := by decide +kernel
theorem d_M_coreBit_116 : decode b_M_coreBit 116 = .ok (.ireturn, 1) := by decide +kernel
theorem d_M_coreBit_117 : decode b_M_coreBit 117 = .ok (.aload_n 0, 1) := by decide +kernel
theorem d_M_coreBit_118 : decode b_M_coreBit 118 = .ok (.getfield 71, 3) := by decide +kernel
theorem d_M_coreBit_121 : decode b_M_coreBit 121 = .ok (.iload_n 1, 1) := by decide +kernel
theorem d_M_coreBit_122 : decode b_M_coreBit 122 = .ok (.iaload, 1) := by decide +kernel
theorem d_M_coreBit_123 : decode b_M_coreBit 123 = .ok (.bipush 14, 2) := by decide +kernel
theorem d_M_coreBit_125 : decode b_M_coreBit 125 = .ok (.ishr, 1) := by decide +kernel
theorem d_M_coreBit_126 : decode b_M_coreBit 126 = .ok (.iconst 1, 1) := by decide +kernel
theorem d_M_coreBit_127 : decode b_M_coreBit 127 = .ok (.iand, 1) := by decide +kernel
theorem d_M_coreBit_128 : decode b_M_coreBit 128 = .ok (.ireturn, 1) := by decide +kernel
theorem d_M_see_0 : decode b_M_see 0 = .ok (.aload_n 0, 1) := by decide +kernel
theorem d_M_see_1 : decode b_M_see 1 = .ok (.getfield 20, 3) := by decide +kernel
theorem d_M_see_4 : decode b_M_see 4 = .ok (.iload_n 1, 1) := by decide +kernel
theorem d_M_see_5 : decode b_M_see 5 = .ok (.iaload, 1) := by decide +kernel
theorem d_M_see_6 : decode b_M_see 6 = .ok (.tableswitch 96 1 7 #[42, 51, 60, 69, 78, 96, 87], 42) := by decide +kernel
theorem d_M_see_48 : decode b_M_see 48 = .ok (.aload_n 0, 1) := by decide +kernel
theorem d_M_see_49 : decode b_M_see 49 = .ok (.iload_n 1, 1) := by decide +kernel
theorem d_M_see_50 : decode b_M_see 50 = .ok (.iload_n 2, 1) := by decide +kernel
theorem d_M_see_51 : decode b_M_see 51 = .ok (.invokevirtual 163, 3) := by decide +kernel
theorem d_M_see_54 : decode b_M_see 54 = .ok (.goto 104, 3) := by decide +kernel
theorem d_M_see_57 : decode b_M_see 57 = .ok (.aload_n 0, 1) := by decide +kernel
theorem d_M_see_58 : decode b_M_see 58 = .ok (.iload_n 1, 1) := by decide +kernel
theorem d_M_see_59 : decode b_M_see 59 = .ok (.iload_n 2, 1) := by decide +kernel
theorem d_M_see_60 : decode b_M_see 60 = .ok (.invokevirtual 140, 3) := by decide +kernel
theorem d_M_see_63 : decode b_M_see 63 = .ok (.goto 95, 3) := by decide +kernel
theorem d_M_see_66 : decode b_M_see 66 = .ok (.aload_n 0, 1) := by decide +kernel
theorem d_M_see_67 : decode b_M_see 67 = .ok (.iload_n 1, 1) := by decide +kernel
theorem d_M_see_68 : decode b_M_see 68 = .ok (.iload_n 2, 1) := by decide +kernel
theorem d_M_see_69 : decode b_M_see 69 = .ok (.invokevirtual 166, 3) := by decide +kernel
theorem d_M_see_72 : decode b_M_see 72 = .ok (.goto 86, 3) := by decide +kernel
theorem d_M_see_75 : decode b_M_see 75 = .ok (.aload_n 0, 1) := by decide +kernel
theorem d_M_see_76 : decode b_M_see 76 = .ok (.iload_n 1, 1) := by decide +kernel
theorem d_M_see_77 : decode b_M_see 77 = .ok (.iload_n 2, 1) := by decide +kernel
theorem d_M_see_78 : decode b_M_see 78 = .ok (.invokevirtual 169, 3) := by decide +kernel
theorem d_M_see_81 : decode b_M_see 81 = .ok (.goto 77, 3) := by decide +kernel
theorem d_M_see_84 : decode b_M_see 84 = .ok (.aload_n 0, 1) := by decide +kernel
theorem d_M_see_85 : decode b_M_see 85 = .ok (.iload_n 1, 1) := by decide +kernel
theorem d_M_see_86 : decode b_M_see 86 = .ok (.iload_n 2, 1) := by decide +kernel
theorem d_M_see_87 : decode b_M_see 87 = .ok (.invokevirtual 172, 3) := by decide +kernel
theorem d_M_see_90 : decode b_M_see 90 = .ok (.goto 68, 3) := by decide +kernel
theorem d_M_see_93 : decode b_M_see 93 = .ok (.aload_n 0, 1) := by decide +kernel
theorem d_M_see_94 : decode b_M_see 94 = .ok (.iload_n 1, 1) := by decide +kernel
theorem d_M_see_95 : decode b_M_see 95 = .ok (.iload_n 2, 1) := by decide +kernel
theorem d_M_see_96 : decode b_M_see 96 = .ok (.invokevirtual 175, 3) := by decide +kernel
theorem d_M_see_99 : decode b_M_see 99 = .ok (.goto 59, 3) := by decide +kernel
theorem d_M_see_102 : decode b_M_see 102 = .ok (.iload_n 2, 1) := by decide +kernel
theorem d_M_see_103 : decode b_M_see 103 = .ok (.ifCond .ne 11, 3) := by decide +kernel
theorem d_M_see_106 : decode b_M_see 106 = .ok (.aload_n 0, 1) := by decide +kernel
theorem d_M_see_107 : decode b_M_see 107 = .ok (.iload_n 1, 1) := by decide +kernel
theorem d_M_see_108 : decode b_M_see 108 = .ok (.invokevirtual 160, 3) := by decide +kernel
theorem d_M_see_111 : decode b_M_see 111 = .ok (.goto 47, 3) := by decide +kernel
theorem d_M_see_114 : decode b_M_see 114 = .ok (.aload_n 0, 1) := by decide +kernel
theorem d_M_see_115 : decode b_M_see 115 = .ok (.getfield 20, 3) := by decide +kernel
theorem d_M_see_118 : decode b_M_see 118 = .ok (.iload_n 1, 1) := by decide +kernel
theorem d_M_see_119 : decode b_M_see 119 = .ok (.iaload, 1) := by decide +kernel
theorem d_M_see_120 : decode b_M_see 120 = .ok (.bipush 6, 2) := by decide +kernel
theorem d_M_see_122 : decode b_M_see 122 = .ok (.if_icmp .ne 36, 3) := by decide +kernel
theorem d_M_see_125 : decode b_M_see 125 = .ok (.aload_n 0, 1) := by decide +kernel
theorem d_M_see_126 : decode b_M_see 126 = .ok (.getfield 89, 3) := by decide +kernel
theorem d_M_see_129 : decode b_M_see 129 = .ok (.iload_n 1, 1) := by decide +kernel
theorem d_M_see_130 : decode b_M_see 130 = .ok (.dup2, 1) := by decide +kernel
theorem d_M_see_131 : decode b_M_see 131 = .ok (.iaload, 1) := by decide +kernel
theorem d_M_see_132 : decode b_M_see 132 = .ok (.iconst 1, 1) := by decide +kernel
theorem d_M_see_133 : decode b_M_see 133 = .ok (.iadd, 1) := by decide +kernel
theorem d_M_see_134 : decode b_M_see 134 = .ok (.iastore, 1) := by decide +kernel
theorem d_M_see_135 : decode b_M_see 135 = .ok (.aload_n 0, 1) := by decide +kernel
theorem d_M_see_136 : decode b_M_see 136 = .ok (.getfield 20, 3) := by decide +kernel
theorem d_M_see_139 : decode b_M_see 139 = .ok (.iload_n 1, 1) := by decide +kernel
theorem d_M_see_140 : decode b_M_see 140 = .ok (.aload_n 0, 1) := by decide +kernel
theorem d_M_see_141 : decode b_M_see 141 = .ok (.getfield 89, 3) := by decide +kernel
theorem d_M_see_144 : decode b_M_see 144 = .ok (.iload_n 1, 1) := by decide +kernel
theorem d_M_see_145 : decode b_M_see 145 = .ok (.iaload, 1) := by decide +kernel
theorem d_M_see_146 : decode b_M_see 146 = .ok (.bipush 8, 2) := by decide +kernel
theorem d_M_see_148 : decode b_M_see 148 = .ok (.if_icmp .ne 7, 3) := by decide +kernel
theorem d_M_see_151 : decode b_M_see 151 = .ok (.iconst 0, 1) := by decide +kernel
theorem d_M_see_152 : decode b_M_see 152 = .ok (.goto 5, 3) := by decide +kernel
theorem d_M_see_155 : decode b_M_see 155 = .ok (.bipush 6, 2) := by decide +kernel
theorem d_M_see_157 : decode b_M_see 157 = .ok (.iastore, 1) := by decide +kernel
theorem d_M_see_158 : decode b_M_see 158 = .ok (.return_, 1) := by decide +kernel
theorem d_M_send_0 : decode b_M_send 0 = .ok (.aload_n 0, 1) := by decide +kernel
theorem d_M_send_1 : decode b_M_send 1 = .ok (.getfield 59, 3) := by decide +kernel
theorem d_M_send_4 : decode b_M_send 4 = .ok (.iload_n 1, 1) := by decide +kernel
theorem d_M_send_5 : decode b_M_send 5 = .ok (.iaload, 1) := by decide +kernel
theorem d_M_send_6 : decode b_M_send 6 = .ok (.ifCond .ne 37, 3) := by decide +kernel
theorem d_M_send_9 : decode b_M_send 9 = .ok (.aload_n 0, 1) := by decide +kernel
theorem d_M_send_10 : decode b_M_send 10 = .ok (.getfield 65, 3) := by decide +kernel
theorem d_M_send_13 : decode b_M_send 13 = .ok (.iload_n 1, 1) := by decide +kernel
theorem d_M_send_14 : decode b_M_send 14 = .ok (.iaload, 1) := by decide +kernel
theorem d_M_send_15 : decode b_M_send 15 = .ok (.iconst 5, 1) := by decide +kernel
theorem d_M_send_16 : decode b_M_send 16 = .ok (.if_icmp .ge 27, 3) := by decide +kernel
theorem d_M_send_19 : decode b_M_send 19 = .ok (.aload_n 0, 1) := by decide +kernel
theorem d_M_send_20 : decode b_M_send 20 = .ok (.getfield 62, 3) := by decide +kernel
theorem d_M_send_23 : decode b_M_send 23 = .ok (.iload_n 1, 1) := by decide +kernel
theorem d_M_send_24 : decode b_M_send 24 = .ok (.iaload, 1) := by decide +kernel
theorem d_M_send_25 : decode b_M_send 25 = .ok (.ifCond .le 18, 3) := by decide +kernel
theorem d_M_send_28 : decode b_M_send 28 = .ok (.aload_n 0, 1) := by decide +kernel
theorem d_M_send_29 : decode b_M_send 29 = .ok (.getfield 62, 3) := by decide +kernel
theorem d_M_send_32 : decode b_M_send 32 = .ok (.iload_n 1, 1) := by decide +kernel
theorem d_M_send_33 : decode b_M_send 33 = .ok (.iaload, 1) := by decide +kernel
theorem d_M_send_34 : decode b_M_send 34 = .ok (.bipush 12, 2) := by decide +kernel
theorem d_M_send_36 : decode b_M_send 36 = .ok (.if_icmp .ge 7, 3) := by decide +kernel
theorem d_M_send_39 : decode b_M_send 39 = .ok (.iconst 1, 1) := by decide +kernel
theorem d_M_send_40 : decode b_M_send 40 = .ok (.goto 4, 3) := by decide +kernel
theorem d_M_send_43 : decode b_M_send 43 = .ok (.iconst 0, 1) := by decide +kernel
theorem d_M_send_44 : decode b_M_send 44 = .ok (.istore_n 3, 1) := by decide +kernel
theorem d_M_send_45 : decode b_M_send 45 = .ok (.iload_n 3, 1) := by decide +kernel
theorem d_M_send_46 : decode b_M_send 46 = .ok (.ifCond .eq 40, 3) := by decide +kernel
theorem d_M_send_49 : decode b_M_send 49 = .ok (.aload_n 0, 1) := by decide +kernel
theorem d_M_send_50 : decode b_M_send 50 = .ok (.getfield 98, 3) := by decide +kernel
theorem d_M_send_53 : decode b_M_send 53 = .ok (.iload_n 1, 1) := by decide +kernel
theorem d_M_send_54 : decode b_M_send 54 = .ok (.iaload, 1) := by decide +kernel
theorem d_M_send_55 : decode b_M_send 55 = .ok (.iconst 1, 1) := by decide +kernel
theorem d_M_send_56 : decode b_M_send 56 = .ok (.if_icmp .ne 30, 3) := by decide +kernel
theorem d_M_send_59 : decode b_M_send 59 = .ok (.iload_n 2, 1) := by decide +kernel
theorem d_M_send_60 : decode b_M_send 60 = .ok (.ifCond .ne 26, 3) := by decide +kernel
theorem d_M_send_63 : decode b_M_send 63 = .ok (.aload_n 0, 1) := by decide +kernel
theorem d_M_send_64 : decode b_M_send 64 = .ok (.getfield 20, 3) := by decide +kernel
theorem d_M_send_67 : decode b_M_send 67 = .ok (.iload_n 1, 1) := by decide +kernel
theorem d_M_send_68 : decode b_M_send 68 = .ok (.iconst 2, 1) := by decide +kernel
theorem d_M_send_69 : decode b_M_send 69 = .ok (.iastore, 1) := by decide +kernel
theorem d_M_send_70 : decode b_M_send 70 = .ok (.aload_n 0, 1) := by decide +kernel
theorem d_M_send_71 : decode b_M_send 71 = .ok (.getfield 95, 3) := by decide +kernel
theorem d_M_send_74 : decode b_M_send 74 = .ok (.iload_n 1, 1) := by decide +kernel
theorem d_M_send_75 : decode b_M_send 75 = .ok (.iconst 2, 1) := by decide +kernel
theorem d_M_send_76 : decode b_M_send 76 = .ok (.iastore, 1) := by decide +kernel
theorem d_M_send_77 : decode b_M_send 77 = .ok (.aload_n 0, 1) := by decide +kernel
theorem d_M_send_78 : decode b_M_send 78 = .ok (.iload_n 1, 1) := by decide +kernel
theorem d_M_send_79 : decode b_M_send 79 = .ok (.iload_n 2, 1) := by decide +kernel
theorem d_M_send_80 : decode b_M_send 80 = .ok (.invokevirtual 140, 3) := by decide +kernel
theorem d_M_send_83 : decode b_M_send 83 = .ok (.goto 108, 3) := by decide +kernel
theorem d_M_send_86 : decode b_M_send 86 = .ok (.aload_n 0, 1) := by decide +kernel
theorem d_M_send_87 : decode b_M_send 87 = .ok (.getfield 59, 3) := by decide +kernel
theorem d_M_send_90 : decode b_M_send 90 = .ok (.iload_n 1, 1) := by decide +kernel
theorem d_M_send_91 : decode b_M_send 91 = .ok (.iaload, 1) := by decide +kernel
theorem d_M_send_92 : decode b_M_send 92 = .ok (.iconst 2, 1) := by decide +kernel
theorem d_M_send_93 : decode b_M_send 93 = .ok (.if_icmp .ne 19, 3) := by decide +kernel
theorem d_M_send_96 : decode b_M_send 96 = .ok (.iload_n 2, 1) := by decide +kernel
theorem d_M_send_97 : decode b_M_send 97 = .ok (.iconst 1, 1) := by decide +kernel
theorem d_M_send_98 : decode b_M_send 98 = .ok (.if_icmp .ne 14, 3) := by decide +kernel
theorem d_M_send_101 : decode b_M_send 101 = .ok (.aload_n 0, 1) := by decide +kernel
theorem d_M_send_102 : decode b_M_send 102 = .ok (.iload_n 1, 1) := by decide +kernel
theorem d_M_send_103 : decode b_M_send 103 = .ok (.bipush 6, 2) := by decide +kernel
theorem d_M_send_105 : decode b_M_send 105 = .ok (.iconst 1, 1) := by decide +kernel
theorem d_M_send_106 : decode b_M_send 106 = .ok (.invokevirtual 143, 3) := by decide +kernel
theorem d_M_send_109 : decode b_M_send 109 = .ok (.goto 82, 3) := by decide +kernel
theorem d_M_send_112 : decode b_M_send 112 = .ok (.aload_n 0, 1) := by decide +kernel
theorem d_M_send_113 : decode b_M_send 113 = .ok (.getfield 59, 3) := by decide +kernel
theorem d_M_send_116 : decode b_M_send 116 = .ok (.iload_n 1, 1) := by decide +kernel
theorem d_M_send_117 : decode b_M_send 117 = .ok (.iaload, 1) := by decide +kernel
theorem d_M_send_118 : decode b_M_send 118 = .ok (.iconst 2, 1) := by decide +kernel
theorem d_M_send_119 : decode b_M_send 119 = .ok (.if_icmp .eq 23, 3) := by decide +kernel
theorem d_M_send_122 : decode b_M_send 122 = .ok (.iload_n 2, 1) := by decide +kernel
theorem d_M_send_123 : decode b_M_send 123 = .ok (.aload_n 0, 1) := by decide +kernel
theorem d_M_send_124 : decode b_M_send 124 = .ok (.getfield 98, 3) := by decide +kernel
theorem d_M_send_127 : decode b_M_send 127 = .ok (.iload_n 1, 1) := by decide +kernel
theorem d_M_send_128 : decode b_M_send 128 = .ok (.iaload, 1) := by decide +kernel
theorem d_M_send_129 : decode b_M_send 129 = .ok (.if_icmp .eq 13, 3) := by decide +kernel
theorem d_M_send_132 : decode b_M_send 132 = .ok (.aload_n 0, 1) := by decide +kernel
theorem d_M_send_133 : decode b_M_send 133 = .ok (.iload_n 1, 1) := by decide +kernel
theorem d_M_send_134 : decode b_M_send 134 = .ok (.iconst 2, 1) := by decide +kernel
theorem d_M_send_135 : decode b_M_send 135 = .ok (.iconst 1, 1) := by decide +kernel
theorem d_M_send_136 : decode b_M_send 136 = .ok (.invokevirtual 143, 3) := by decide +kernel
theorem d_M_send_139 : decode b_M_send 139 = .ok (.goto 52, 3) := by decide +kernel
theorem d_M_send_142 : decode b_M_send 142 = .ok (.aload_n 0, 1) := by decide +kernel
theorem d_M_send_143 : decode b_M_send 143 = .ok (.getfield 59, 3) := by decide +kernel
theorem d_M_send_146 : decode b_M_send 146 = .ok (.iload_n 1, 1) := by decide +kernel
theorem d_M_send_147 : decode b_M_send 147 = .ok (.iaload, 1) := by decide +kernel
theorem d_M_send_148 : decode b_M_send 148 = .ok (.ifCond .ne 14, 3) := by decide +kernel
theorem d_M_send_151 : decode b_M_send 151 = .ok (.aload_n 0, 1) := by decide +kernel
theorem d_M_send_152 : decode b_M_send 152 = .ok (.iload_n 1, 1) := by decide +kernel
theorem d_M_send_153 : decode b_M_send 153 = .ok (.iload_n 2, 1) := by decide +kernel
theorem d_M_send_154 : decode b_M_send 154 = .ok (.invokevirtual 147, 3) := by decide +kernel
theorem d_M_send_157 : decode b_M_send 157 = .ok (.istore 4, 2) := by decide +kernel
theorem d_M_send_159 : decode b_M_send 159 = .ok (.goto 32, 3) := by decide +kernel
theorem d_M_send_162 : decode b_M_send 162 = .ok (.aload_n 0, 1) := by decide +kernel
theorem d_M_send_163 : decode b_M_send 163 = .ok (.getfield 59, 3) := by decide +kernel
theorem d_M_send_166 : decode b_M_send 166 = .ok (.iload_n 1, 1) := by decide +kernel
theorem d_M_send_167 : decode b_M_send 167 = .ok (.iaload, 1) := by decide +kernel
theorem d_M_send_168 : decode b_M_send 168 = .ok (.bipush 10, 2) := by decide +kernel
theorem d_M_send_170 : decode b_M_send 170 = .ok (.if_icmp .ne 11, 3) := by decide +kernel
theorem d_M_send_173 : decode b_M_send 173 = .ok (.aload_n 0, 1) := by decide +kernel
theorem d_M_send_174 : decode b_M_send 174 = .ok (.iload_n 1, 1) := by decide +kernel
theorem d_M_send_175 : decode b_M_send 175 = .ok (.invokevirtual 151, 3) := by decide +kernel
theorem d_M_send_178 : decode b_M_send 178 = .ok (.goto 13, 3) := by decide +kernel
theorem d_M_send_181 : decode b_M_send 181 = .ok (.aload_n 0, 1) := by decide +kernel
theorem d_M_send_182 : decode b_M_send 182 = .ok (.getfield 59, 3) := by decide +kernel
theorem d_M_send_185 : decode b_M_send 185 = .ok (.iload_n 1, 1) := by decide +kernel
theorem d_M_send_186 : decode b_M_send 186 = .ok (.dup2, 1) := by decide +kernel
theorem d_M_send_187 : decode b_M_send 187 = .ok (.iaload, 1) := by decide +kernel
theorem d_M_send_188 : decode b_M_send 188 = .ok (.iconst 1, 1) := by decide +kernel
theorem d_M_send_189 : decode b_M_send 189 = .ok (.iadd, 1) := by decide +kernel
theorem d_M_send_190 : decode b_M_send 190 = .ok (.iastore, 1) := by decide +kernel
theorem d_M_send_191 : decode b_M_send 191 = .ok (.return_, 1) := by decide +kernel
theorem d_M_hear_0 : decode b_M_hear 0 = .ok (.aload_n 0, 1) := by decide +kernel
theorem d_M_hear_1 : decode b_M_hear 1 = .ok (.getfield 59, 3) := by decide +kernel
theorem d_M_hear_4 : decode b_M_hear 4 = .ok (.iload_n 1, 1) := by decide +kernel
theorem d_M_hear_5 : decode b_M_hear 5 = .ok (.iaload, 1) := by decide +kernel
theorem d_M_hear_6 : decode b_M_hear 6 = .ok (.istore_n 3, 1) := by decide +kernel
theorem d_M_hear_7 : decode b_M_hear 7 = .ok (.iconst 0, 1) := by decide +kernel
theorem d_M_hear_8 : decode b_M_hear 8 = .ok (.istore 4, 2) := by decide +kernel
theorem d_M_hear_10 : decode b_M_hear 10 = .ok (.iload_n 3, 1) := by decide +kernel
theorem d_M_hear_11 : decode b_M_hear 11 = .ok (.ifCond .ne 14, 3) := by decide +kernel
theorem d_M_hear_14 : decode b_M_hear 14 = .ok (.aload_n 0, 1) := by decide +kernel
theorem d_M_hear_15 : decode b_M_hear 15 = .ok (.iload_n 1, 1) := by decide +kernel
theorem d_M_hear_16 : decode b_M_hear 16 = .ok (.iload_n 2, 1) := by decide +kernel
theorem d_M_hear_17 : decode b_M_hear 17 = .ok (.invokevirtual 147, 3) := by decide +kernel
theorem d_M_hear_20 : decode b_M_hear 20 = .ok (.istore 4, 2) := by decide +kernel
theorem d_M_hear_22 : decode b_M_hear 22 = .ok (.goto 77, 3) := by decide +kernel
theorem d_M_hear_25 : decode b_M_hear 25 = .ok (.iload_n 3, 1) := by decide +kernel
theorem d_M_hear_26 : decode b_M_hear 26 = .ok (.iconst 3, 1) := by decide +kernel
theorem d_M_hear_27 : decode b_M_hear 27 = .ok (.if_icmp .ne 16, 3) := by decide +kernel
theorem d_M_hear_30 : decode b_M_hear 30 = .ok (.aload_n 0, 1) := by decide +kernel
theorem d_M_hear_31 : decode b_M_hear 31 = .ok (.getfield 71, 3) := by decide +kernel
theorem d_M_hear_34 : decode b_M_hear 34 = .ok (.iload_n 1, 1) := by decide +kernel
theorem d_M_hear_35 : decode b_M_hear 35 = .ok (.iaload, 1) := by decide +kernel
theorem d_M_hear_36 : decode b_M_hear 36 = .ok (.ifCond .eq 7, 3) := by decide +kernel
theorem d_M_hear_39 : decode b_M_hear 39 = .ok (.iconst 1, 1) := by decide +kernel
theorem d_M_hear_40 : decode b_M_hear 40 = .ok (.goto 4, 3) := by decide +kernel
theorem d_M_hear_43 : decode b_M_hear 43 = .ok (.iconst 0, 1) := by decide +kernel
theorem d_M_hear_44 : decode b_M_hear 44 = .ok (.istore 5, 2) := by decide +kernel
theorem d_M_hear_46 : decode b_M_hear 46 = .ok (.iload_n 2, 1) := by decide +kernel
theorem d_M_hear_47 : decode b_M_hear 47 = .ok (.ifCond .ne 18, 3) := by decide +kernel
theorem d_M_hear_50 : decode b_M_hear 50 = .ok (.iload_n 3, 1) := by decide +kernel
theorem d_M_hear_51 : decode b_M_hear 51 = .ok (.iconst 2, 1) := by decide +kernel
theorem d_M_hear_52 : decode b_M_hear 52 = .ok (.if_icmp .eq 13, 3) := by decide +kernel
theorem d_M_hear_55 : decode b_M_hear 55 = .ok (.iload_n 3, 1) := by decide +kernel
theorem d_M_hear_56 : decode b_M_hear 56 = .ok (.bipush 10, 2) := by decide +kernel
theorem d_M_hear_58 : decode b_M_hear 58 = .ok (.if_icmp .ge 7, 3) := by decide +kernel
theorem d_M_hear_61 : decode b_M_hear 61 = .ok (.iconst 1, 1) := by decide +kernel
theorem d_M_hear_62 : decode b_M_hear 62 = .ok (.goto 4, 3) := by decide +kernel
theorem d_M_hear_65 : decode b_M_hear 65 = .ok (.iconst 0, 1) := by decide +kernel
theorem d_M_hear_66 : decode b_M_hear 66 = .ok (.istore 6, 2) := by decide +kernel
theorem d_M_hear_68 : decode b_M_hear 68 = .ok (.iload 5, 2) := by decide +kernel
theorem d_M_hear_70 : decode b_M_hear 70 = .ok (.ifCond .eq 7, 3) := by decide +kernel
theorem d_M_hear_73 : decode b_M_hear 73 = .ok (.iconst 5, 1) := by decide +kernel
theorem d_M_hear_74 : decode b_M_hear 74 = .ok (.goto 13, 3) := by decide +kernel
theorem d_M_hear_77 : decode b_M_hear 77 = .ok (.iload 6, 2) := by decide +kernel
theorem d_M_hear_79 : decode b_M_hear 79 = .ok (.ifCond .eq 7, 3) := by decide +kernel
theorem d_M_hear_82 : decode b_M_hear 82 = .ok (.iconst 4, 1) := by decide +kernel
theorem d_M_hear_83 : decode b_M_hear 83 = .ok (.goto 4, 3) := by decide +kernel
theorem d_M_hear_86 : decode b_M_hear 86 = .ok (.iconst 0, 1) := by decide +kernel
theorem d_M_hear_87 : decode b_M_hear 87 = .ok (.istore 4, 2) := by decide +kernel
theorem d_M_hear_89 : decode b_M_hear 89 = .ok (.aload_n 0, 1) := by decide +kernel
theorem d_M_hear_90 : decode b_M_hear 90 = .ok (.getfield 59, 3) := by decide +kernel
theorem d_M_hear_93 : decode b_M_hear 93 = .ok (.iload_n 1, 1) := by decide +kernel
theorem d_M_hear_94 : decode b_M_hear 94 = .ok (.dup2, 1) := by decide +kernel
theorem d_M_hear_95 : decode b_M_hear 95 = .ok (.iaload, 1) := by decide +kernel
theorem d_M_hear_96 : decode b_M_hear 96 = .ok (.iconst 1, 1) := by decide +kernel
theorem d_M_hear_97 : decode b_M_hear 97 = .ok (.iadd, 1) := by decide +kernel
theorem d_M_hear_98 : decode b_M_hear 98 = .ok (.iastore, 1) := by decide +kernel
theorem d_M_hear_99 : decode b_M_hear 99 = .ok (.iload 4, 2) := by decide +kernel
theorem d_M_hear_101 : decode b_M_hear 101 = .ok (.ifCond .le 14, 3) := by decide +kernel
theorem d_M_hear_104 : decode b_M_hear 104 = .ok (.aload_n 0, 1) := by decide +kernel
theorem d_M_hear_105 : decode b_M_hear 105 = .ok (.iload_n 1, 1) := by decide +kernel
theorem d_M_hear_106 : decode b_M_hear 106 = .ok (.iload 4, 2) := by decide +kernel
theorem d_M_hear_108 : decode b_M_hear 108 = .ok (.iconst 2, 1) := by decide +kernel
theorem d_M_hear_109 : decode b_M_hear 109 = .ok (.invokevirtual 143, 3) := by decide +kernel
theorem d_M_hear_112 : decode b_M_hear 112 = .ok (.goto 15, 3) := by decide +kernel
theorem d_M_hear_115 : decode b_M_hear 115 = .ok (.iload_n 3, 1) := by decide +kernel
theorem d_M_hear_116 : decode b_M_hear 116 = .ok (.bipush 10, 2) := by decide +kernel
theorem d_M_hear_118 : decode b_M_hear 118 = .ok (.if_icmp .ne 9, 3) := by decide +kernel
theorem d_M_hear_121 : decode b_M_hear 121 = .ok (.aload_n 0, 1) := by decide +kernel
theorem d_M_hear_122 : decode b_M_hear 122 = .ok (.iload_n 1, 1) := by decide +kernel
theorem d_M_hear_123 : decode b_M_hear 123 = .ok (.iload_n 2, 1) := by decide +kernel
theorem d_M_hear_124 : decode b_M_hear 124 = .ok (.invokevirtual 154, 3) := by decide +kernel
theorem d_M_hear_127 : decode b_M_hear 127 = .ok (.return_, 1) := by decide +kernel
theorem d_M_readCore_0 : decode b_M_readCore 0 = .ok (.aload_n 0, 1) := by decide +kernel
theorem d_M_readCore_1 : decode b_M_readCore 1 = .ok (.getfield 65, 3) := by decide +kernel
theorem d_M_readCore_4 : decode b_M_readCore 4 = .ok (.iload_n 1, 1) := by decide +kernel
theorem d_M_readCore_5 : decode b_M_readCore 5 = .ok (.iaload, 1) := by decide +kernel
theorem d_M_readCore_6 : decode b_M_readCore 6 = .ok (.iconst 5, 1) := by decide +kernel
theorem d_M_readCore_7 : decode b_M_readCore 7 = .ok (.if_icmp .ne 68, 3) := by decide +kernel
theorem d_M_readCore_10 : decode b_M_readCore 10 = .ok (.iload_n 2, 1) := by decide +kernel
theorem d_M_readCore_11 : decode b_M_readCore 11 = .ok (.aload_n 0, 1) := by decide +kernel
theorem d_M_readCore_12 : decode b_M_readCore 12 = .ok (.getfield 68, 3) := by decide +kernel
theorem d_M_readCore_15 : decode b_M_readCore 15 = .ok (.iload_n 1, 1) := by decide +kernel
theorem d_M_readCore_16 : decode b_M_readCore 16 = .ok (.iaload, 1) := by decide +kernel
theorem d_M_readCore_17 : decode b_M_readCore 17 = .ok (.if_icmp .ne 7, 3) := by decide +kernel
theorem d_M_readCore_20 : decode b_M_readCore 20 = .ok (.iconst 1, 1) := by decide +kernel
theorem d_M_readCore_21 : decode b_M_readCore 21 = .ok (.goto 4, 3) := by decide +kernel
theorem d_M_readCore_24 : decode b_M_readCore 24 = .ok (.iconst 0, 1) := by decide +kernel
theorem d_M_readCore_25 : decode b_M_readCore 25 = .ok (.istore_n 3, 1) := by decide +kernel
theorem d_M_readCore_26 : decode b_M_readCore 26 = .ok (.aload_n 0, 1) := by decide +kernel
theorem d_M_readCore_27 : decode b_M_readCore 27 = .ok (.getfield 68, 3) := by decide +kernel
theorem d_M_readCore_30 : decode b_M_readCore 30 = .ok (.iload_n 1, 1) := by decide +kernel
theorem d_M_readCore_31 : decode b_M_readCore 31 = .ok (.iload_n 2, 1) := by decide +kernel
theorem d_M_readCore_32 : decode b_M_readCore 32 = .ok (.iastore, 1) := by decide +kernel
theorem d_M_readCore_33 : decode b_M_readCore 33 = .ok (.aload_n 0, 1) := by decide +kernel
theorem d_M_readCore_34 : decode b_M_readCore 34 = .ok (.getfield 65, 3) := by decide +kernel
theorem d_M_readCore_37 : decode b_M_readCore 37 = .ok (.iload_n 1, 1) := by decide +kernel
theorem d_M_readCore_38 : decode b_M_readCore 38 = .ok (.iconst 1, 1) := by decide +kernel
theorem d_M_readCore_39 : decode b_M_readCore 39 = .ok (.iastore, 1) := by decide +kernel
theorem d_M_readCore_40 : decode b_M_readCore 40 = .ok (.aload_n 0, 1) := by decide +kernel
theorem d_M_readCore_41 : decode b_M_readCore 41 = .ok (.getfield 59, 3) := by decide +kernel
theorem d_M_readCore_44 : decode b_M_readCore 44 = .ok (.iload_n 1, 1) := by decide +kernel
theorem d_M_readCore_45 : decode b_M_readCore 45 = .ok (.aload_n 0, 1) := by decide +kernel
theorem d_M_readCore_46 : decode b_M_readCore 46 = .ok (.getfield 62, 3) := by decide +kernel
theorem d_M_readCore_49 : decode b_M_readCore 49 = .ok (.iload_n 1, 1) := by decide +kernel
theorem d_M_readCore_50 : decode b_M_readCore 50 = .ok (.iaload, 1) := by decide +kernel
theorem d_M_readCore_51 : decode b_M_readCore 51 = .ok (.aload_n 0, 1) := by decide +kernel
theorem d_M_readCore_52 : decode b_M_readCore 52 = .ok (.iload_n 1, 1) := by decide +kernel
theorem d_M_readCore_53 : decode b_M_readCore 53 = .ok (.invokevirtual 120, 3) := by decide +kernel
theorem d_M_readCore_56 : decode b_M_readCore 56 = .ok (.if_icmp .ne 7, 3) := by decide +kernel
theorem d_M_readCore_59 : decode b_M_readCore 59 = .ok (.iconst 1, 1) := by decide +kernel
theorem d_M_readCore_60 : decode b_M_readCore 60 = .ok (.goto 4, 3) := by decide +kernel
theorem d_M_readCore_63 : decode b_M_readCore 63 = .ok (.iconst 0, 1) := by decide +kernel
theorem d_M_readCore_64 : decode b_M_readCore 64 = .ok (.iastore, 1) := by decide +kernel
theorem d_M_readCore_65 : decode b_M_readCore 65 = .ok (.iload_n 3, 1) := by decide +kernel
theorem d_M_readCore_66 : decode b_M_readCore 66 = .ok (.ifCond .eq 7, 3) := by decide +kernel
theorem d_M_readCore_69 : decode b_M_readCore 69 = .ok (.iconst 3, 1) := by decide +kernel
theorem d_M_readCore_70 : decode b_M_readCore 70 = .ok (.goto 4, 3) := by decide +kernel
theorem d_M_readCore_73 : decode b_M_readCore 73 = .ok (.iconst 0, 1) := by decide +kernel
theorem d_M_readCore_74 : decode b_M_readCore 74 = .ok (.ireturn, 1) := by decide +kernel
theorem d_M_readCore_75 : decode b_M_readCore 75 = .ok (.aload_n 0, 1) := by decide +kernel
theorem d_M_readCore_76 : decode b_M_readCore 76 = .ok (.getfield 62, 3) := by decide +kernel
theorem d_M_readCore_79 : decode b_M_readCore 79 = .ok (.iload_n 1, 1) := by decide +kernel
theorem d_M_readCore_80 : decode b_M_readCore 80 = .ok (.iaload, 1) := by decide +kernel
theorem d_M_readCore_81 : decode b_M_readCore 81 = .ok (.istore_n 3, 1) := by decide +kernel
theorem d_M_readCore_82 : decode b_M_readCore 82 = .ok (.aload_n 0, 1) := by decide +kernel
theorem d_M_readCore_83 : decode b_M_readCore 83 = .ok (.getfield 65, 3) := by decide +kernel
theorem d_M_readCore_86 : decode b_M_readCore 86 = .ok (.iload_n 1, 1) := by decide +kernel
theorem d_M_readCore_87 : decode b_M_readCore 87 = .ok (.iload_n 3, 1) := by decide +kernel
theorem d_M_readCore_88 : decode b_M_readCore 88 = .ok (.ifCond .le 24, 3) := by decide +kernel
theorem d_M_readCore_91 : decode b_M_readCore 91 = .ok (.iload_n 2, 1) := by decide +kernel
theorem d_M_readCore_92 : decode b_M_readCore 92 = .ok (.aload_n 0, 1) := by decide +kernel
theorem d_M_readCore_93 : decode b_M_readCore 93 = .ok (.getfield 68, 3) := by decide +kernel
theorem d_M_readCore_96 : decode b_M_readCore 96 = .ok (.iload_n 1, 1) := by decide +kernel
theorem d_M_readCore_97 : decode b_M_readCore 97 = .ok (.iaload, 1) := by decide +kernel
theorem d_M_readCore_98 : decode b_M_readCore 98 = .ok (.if_icmp .ne 14, 3) := by decide +kernel
theorem d_M_readCore_101 : decode b_M_readCore 101 = .ok (.aload_n 0, 1) := by decide +kernel
theorem d_M_readCore_102 : decode b_M_readCore 102 = .ok (.getfield 65, 3) := by decide +kernel
theorem d_M_readCore_105 : decode b_M_readCore 105 = .ok (.iload_n 1, 1) := by decide +kernel
theorem d_M_readCore_106 : decode b_M_readCore 106 = .ok (.iaload, 1) := by decide +kernel
theorem d_M_readCore_107 : decode b_M_readCore 107 = .ok (.iconst 1, 1) := by decide +kernel
theorem d_M_readCore_108 : decode b_M_readCore 108 = .ok (.iadd, 1) := by decide +kernel
theorem d_M_readCore_109 : decode b_M_readCore 109 = .ok (.goto 4, 3) := by decide +kernel
theorem d_M_readCore_112 : decode b_M_readCore 112 = .ok (.iconst 1, 1) := by decide +kernel
theorem d_M_readCore_113 : decode b_M_readCore 113 = .ok (.iastore, 1) := by decide +kernel
theorem d_M_readCore_114 : decode b_M_readCore 114 = .ok (.aload_n 0, 1) := by decide +kernel
theorem d_M_readCore_115 : decode b_M_readCore 115 = .ok (.getfield 68, 3) := by decide +kernel
theorem d_M_readCore_118 : decode b_M_readCore 118 = .ok (.iload_n 1, 1) := by decide +kernel
theorem d_M_readCore_119 : decode b_M_readCore 119 = .ok (.iload_n 2, 1) := by decide +kernel
theorem d_M_readCore_120 : decode b_M_readCore 120 = .ok (.iastore, 1) := by decide +kernel
theorem d_M_readCore_121 : decode b_M_readCore 121 = .ok (.aload_n 0, 1) := by decide +kernel
theorem d_M_readCore_122 : decode b_M_readCore 122 = .ok (.getfield 71, 3) := by decide +kernel
theorem d_M_readCore_125 : decode b_M_readCore 125 = .ok (.iload_n 1, 1) := by decide +kernel
theorem d_M_readCore_126 : decode b_M_readCore 126 = .ok (.iaload, 1) := by decide +kernel
theorem d_M_readCore_127 : decode b_M_readCore 127 = .ok (.iconst 1, 1) := by decide +kernel
theorem d_M_readCore_128 : decode b_M_readCore 128 = .ok (.ishl, 1) := by decide +kernel
theorem d_M_readCore_129 : decode b_M_readCore 129 = .ok (.sipush 32767, 3) := by decide +kernel
theorem d_M_readCore_132 : decode b_M_readCore 132 = .ok (.iand, 1) := by decide +kernel
theorem d_M_readCore_133 : decode b_M_readCore 133 = .ok (.istore 4, 2) := by decide +kernel
theorem d_M_readCore_135 : decode b_M_readCore 135 = .ok (.aload_n 0, 1) := by decide +kernel
theorem d_M_readCore_136 : decode b_M_readCore 136 = .ok (.getfield 71, 3) := by decide +kernel
theorem d_M_readCore_139 : decode b_M_readCore 139 = .ok (.iload_n 1, 1) := by decide +kernel
theorem d_M_readCore_140 : decode b_M_readCore 140 = .ok (.iload_n 2, 1) := by decide +kernel
theorem d_M_readCore_141 : decode b_M_readCore 141 = .ok (.aload_n 0, 1) := by decide +kernel
theorem d_M_readCore_142 : decode b_M_readCore 142 = .ok (.getfield 71, 3) := by decide +kernel
theorem d_M_readCore_145 : decode b_M_readCore 145 = .ok (.iload_n 1, 1) := by decide +kernel
theorem d_M_readCore_146 : decode b_M_readCore 146 = .ok (.iaload, 1) := by decide +kernel
theorem d_M_readCore_147 : decode b_M_readCore 147 = .ok (.bipush 14, 2) := by decide +kernel
theorem d_M_readCore_149 : decode b_M_readCore 149 = .ok (.ishr, 1) := by decide +kernel
theorem d_M_readCore_150 : decode b_M_readCore 150 = .ok (.iconst 1, 1) := by decide +kernel
theorem d_M_readCore_151 : decode b_M_readCore 151 = .ok (.iand, 1) := by decide +kernel
theorem d_M_readCore_152 : decode b_M_readCore 152 = .ok (.if_icmp .eq 12, 3) := by decide +kernel
theorem d_M_readCore_155 : decode b_M_readCore 155 = .ok (.iload 4, 2) := by decide +kernel
theorem d_M_readCore_157 : decode b_M_readCore 157 = .ok (.sipush 17817, 3) := by decide +kernel
theorem d_M_readCore_160 : decode b_M_readCore 160 = .ok (.ixor, 1) := by decide +kernel
theorem d_M_readCore_161 : decode b_M_readCore 161 = .ok (.goto 5, 3) := by decide +kernel
theorem d_M_readCore_164 : decode b_M_readCore 164 = .ok (.iload 4, 2) := by decide +kernel
theorem d_M_readCore_166 : decode b_M_readCore 166 = .ok (.iastore, 1) := by decide +kernel
theorem d_M_readCore_167 : decode b_M_readCore 167 = .ok (.iload_n 3, 1) := by decide +kernel
theorem d_M_readCore_168 : decode b_M_readCore 168 = .ok (.ifCond .le 28, 3) := by decide +kernel
theorem d_M_readCore_171 : decode b_M_readCore 171 = .ok (.iload_n 3, 1) := by decide +kernel
theorem d_M_readCore_172 : decode b_M_readCore 172 = .ok (.bipush 12, 2) := by decide +kernel
theorem d_M_readCore_174 : decode b_M_readCore 174 = .ok (.if_icmp .ge 22, 3) := by decide +kernel
theorem d_M_readCore_177 : decode b_M_readCore 177 = .ok (.aload_n 0, 1) := by decide +kernel
theorem d_M_readCore_178 : decode b_M_readCore 178 = .ok (.getfield 74, 3) := by decide +kernel
theorem d_M_readCore_181 : decode b_M_readCore 181 = .ok (.iload_n 1, 1) := by decide +kernel
theorem d_M_readCore_182 : decode b_M_readCore 182 = .ok (.iconst 2, 1) := by decide +kernel
theorem d_M_readCore_183 : decode b_M_readCore 183 = .ok (.aload_n 0, 1) := by decide +kernel
theorem d_M_readCore_184 : decode b_M_readCore 184 = .ok (.getfield 74, 3) := by decide +kernel
theorem d_M_readCore_187 : decode b_M_readCore 187 = .ok (.iload_n 1, 1) := by decide +kernel
theorem d_M_readCore_188 : decode b_M_readCore 188 = .ok (.iaload, 1) := by decide +kernel
theorem d_M_readCore_189 : decode b_M_readCore 189 = .ok (.imul, 1) := by decide +kernel
theorem d_M_readCore_190 : decode b_M_readCore 190 = .ok (.iload_n 2, 1) := by decide +kernel
theorem d_M_readCore_191 : decode b_M_readCore 191 = .ok (.iadd, 1) := by decide +kernel
theorem d_M_readCore_192 : decode b_M_readCore 192 = .ok (.iastore, 1) := by decide +kernel
theorem d_M_readCore_193 : decode b_M_readCore 193 = .ok (.goto 94, 3) := by decide +kernel
theorem d_M_readCore_196 : decode b_M_readCore 196 = .ok (.iload_n 3, 1) := by decide +kernel
theorem d_M_readCore_197 : decode b_M_readCore 197 = .ok (.bipush 14, 2) := by decide +kernel
theorem d_M_readCore_199 : decode b_M_readCore 199 = .ok (.if_icmp .le 28, 3) := by decide +kernel
theorem d_M_readCore_202 : decode b_M_readCore 202 = .ok (.iload_n 3, 1) := by decide +kernel
theorem d_M_readCore_203 : decode b_M_readCore 203 = .ok (.bipush 19, 2) := by decide +kernel
theorem d_M_readCore_205 : decode b_M_readCore 205 = .ok (.if_icmp .ge 22, 3) := by decide +kernel
theorem d_M_readCore_208 : decode b_M_readCore 208 = .ok (.aload_n 0, 1) := by decide +kernel
theorem d_M_readCore_209 : decode b_M_readCore 209 = .ok (.getfield 77, 3) := by decide +kernel
theorem d_M_readCore_212 : decode b_M_readCore 212 = .ok (.iload_n 1, 1) := by decide +kernel
theorem d_M_readCore_213 : decode b_M_readCore 213 = .ok (.iconst 2, 1) := by decide +kernel
theorem d_M_readCore_214 : decode b_M_readCore 214 = .ok (.aload_n 0, 1) := by decide +kernel
theorem d_M_readCore_215 : decode b_M_readCore 215 = .ok (.getfield 77, 3) := by decide +kernel
theorem d_M_readCore_218 : decode b_M_readCore 218 = .ok (.iload_n 1, 1) := by decide +kernel
theorem d_M_readCore_219 : decode b_M_readCore 219 = .ok (.iaload, 1) := by decide +kernel
theorem d_M_readCore_220 : decode b_M_readCore 220 = .ok (.imul, 1) := by decide +kernel
theorem d_M_readCore_221 : decode b_M_readCore 221 = .ok (.iload_n 2, 1) := by decide +kernel
theorem d_M_readCore_222 : decode b_M_readCore 222 = .ok (.iadd, 1) := by decide +kernel
theorem d_M_readCore_223 : decode b_M_readCore 223 = .ok (.iastore, 1) := by decide +kernel
theorem d_M_readCore_224 : decode b_M_readCore 224 = .ok (.goto 63, 3) := by decide +kernel
theorem d_M_readCore_227 : decode b_M_readCore 227 = .ok (.iload_n 3, 1) := by decide +kernel
theorem d_M_readCore_228 : decode b_M_readCore 228 = .ok (.bipush 18, 2) := by decide +kernel
theorem d_M_readCore_230 : decode b_M_readCore 230 = .ok (.if_icmp .le 57, 3) := by decide +kernel
theorem d_M_readCore_233 : decode b_M_readCore 233 = .ok (.iload_n 3, 1) := by decide +kernel
theorem d_M_readCore_234 : decode b_M_readCore 234 = .ok (.bipush 19, 2) := by decide +kernel
theorem d_M_readCore_236 : decode b_M_readCore 236 = .ok (.bipush 8, 2) := by decide +kernel
theorem d_M_readCore_238 : decode b_M_readCore 238 = .ok (.aload_n 0, 1) := by decide +kernel
theorem d_M_readCore_239 : decode b_M_readCore 239 = .ok (.getfield 77, 3) := by decide +kernel
theorem d_M_readCore_242 : decode b_M_readCore 242 = .ok (.iload_n 1, 1) := by decide +kernel
theorem d_M_readCore_243 : decode b_M_readCore 243 = .ok (.iaload, 1) := by decide +kernel
theorem d_M_readCore_244 : decode b_M_readCore 244 = .ok (.imul, 1) := by decide +kernel
theorem d_M_readCore_245 : decode b_M_readCore 245 = .ok (.iadd, 1) := by decide +kernel
theorem d_M_readCore_246 : decode b_M_readCore 246 = .ok (.if_icmp .ge 41, 3) := by decide +kernel
theorem d_M_readCore_249 : decode b_M_readCore 249 = .ok (.iload_n 3, 1) := by decide +kernel
theorem d_M_readCore_250 : decode b_M_readCore 250 = .ok (.bipush 19, 2) := by decide +kernel
theorem d_M_readCore_252 : decode b_M_readCore 252 = .ok (.isub, 1) := by decide +kernel
theorem d_M_readCore_253 : decode b_M_readCore 253 = .ok (.istore 5, 2) := by decide +kernel
theorem d_M_readCore_255 : decode b_M_readCore 255 = .ok (.aload_n 0, 1) := by decide +kernel
theorem d_M_readCore_256 : decode b_M_readCore 256 = .ok (.getfield 80, 3) := by decide +kernel
theorem d_M_readCore_259 : decode b_M_readCore 259 = .ok (.iload_n 1, 1) := by decide +kernel
theorem d_M_readCore_260 : decode b_M_readCore 260 = .ok (.aload_n 0, 1) := by decide +kernel
theorem d_M_readCore_261 : decode b_M_readCore 261 = .ok (.getfield 80, 3) := by decide +kernel
theorem d_M_readCore_264 : decode b_M_readCore 264 = .ok (.iload_n 1, 1) := by decide +kernel
theorem d_M_readCore_265 : decode b_M_readCore 265 = .ok (.iaload, 1) := by decide +kernel
theorem d_M_readCore_266 : decode b_M_readCore 266 = .ok (.iload_n 2, 1) := by decide +kernel
theorem d_M_readCore_267 : decode b_M_readCore 267 = .ok (.bipush 8, 2) := by decide +kernel
theorem d_M_readCore_269 : decode b_M_readCore 269 = .ok (.iload 5, 2) := by decide +kernel
theorem d_M_readCore_271 : decode b_M_readCore 271 = .ok (.bipush 8, 2) := by decide +kernel
theorem d_M_readCore_273 : decode b_M_readCore 273 = .ok (.idiv, 1) := by decide +kernel
theorem d_M_readCore_274 : decode b_M_readCore 274 = .ok (.imul, 1) := by decide +kernel
theorem d_M_readCore_275 : decode b_M_readCore 275 = .ok (.bipush 7, 2) := by decide +kernel
theorem d_M_readCore_277 : decode b_M_readCore 277 = .ok (.iadd, 1) := by decide +kernel
theorem d_M_readCore_278 : decode b_M_readCore 278 = .ok (.iload 5, 2) := by decide +kernel
theorem d_M_readCore_280 : decode b_M_readCore 280 = .ok (.bipush 8, 2) := by decide +kernel
theorem d_M_readCore_282 : decode b_M_readCore 282 = .ok (.irem, 1) := by decide +kernel
theorem d_M_readCore_283 : decode b_M_readCore 283 = .ok (.isub, 1) := by decide +kernel
theorem d_M_readCore_284 : decode b_M_readCore 284 = .ok (.ishl, 1) := by decide +kernel
theorem d_M_readCore_285 : decode b_M_readCore 285 = .ok (.ior, 1) := by decide +kernel
theorem d_M_readCore_286 : decode b_M_readCore 286 = .ok (.iastore, 1) := by decide +kernel
theorem d_M_readCore_287 : decode b_M_readCore 287 = .ok (.aload_n 0, 1) := by decide +kernel
theorem d_M_readCore_288 : decode b_M_readCore 288 = .ok (.getfield 62, 3) := by decide +kernel
theorem d_M_readCore_291 : decode b_M_readCore 291 = .ok (.iload_n 1, 1) := by decide +kernel
theorem d_M_readCore_292 : decode b_M_readCore 292 = .ok (.dup2, 1) := by decide +kernel
theorem d_M_readCore_293 : decode b_M_readCore 293 = .ok (.iaload, 1) := by decide +kernel
theorem d_M_readCore_294 : decode b_M_readCore 294 = .ok (.iconst 1, 1) := by decide +kernel
theorem d_M_readCore_295 : decode b_M_readCore 295 = .ok (.iadd, 1) := by decide +kernel
theorem d_M_readCore_296 : decode b_M_readCore 296 = .ok (.iastore, 1) := by decide +kernel
theorem d_M_readCore_297 : decode b_M_readCore 297 = .ok (.iload_n 3, 1) := by decide +kernel
theorem d_M_readCore_298 : decode b_M_readCore 298 = .ok (.bipush 11, 2) := by decide +kernel
theorem d_M_readCore_300 : decode b_M_readCore 300 = .ok (.if_icmp .le 14, 3) := by decide +kernel
theorem d_M_readCore_303 : decode b_M_readCore 303 = .ok (.iload_n 3, 1) := by decide +kernel
theorem d_M_readCore_304 : decode b_M_readCore 304 = .ok (.bipush 15, 2) := by decide +kernel
theorem d_M_readCore_306 : decode b_M_readCore 306 = .ok (.if_icmp .ge 8, 3) := by decide +kernel
theorem d_M_readCore_309 : decode b_M_readCore 309 = .ok (.iload_n 2, 1) := by decide +kernel
theorem d_M_readCore_310 : decode b_M_readCore 310 = .ok (.iconst 1, 1) := by decide +kernel
theorem d_M_readCore_311 : decode b_M_readCore 311 = .ok (.if_icmp .eq 19, 3) := by decide +kernel
theorem d_M_readCore_314 : decode b_M_readCore 314 = .ok (.iload_n 3, 1) := by decide +kernel
theorem d_M_readCore_315 : decode b_M_readCore 315 = .ok (.bipush 18, 2) := by decide +kernel
theorem d_M_readCore_317 : decode b_M_readCore 317 = .ok (.if_icmp .ne 15, 3) := by decide +kernel
theorem d_M_readCore_320 : decode b_M_readCore 320 = .ok (.aload_n 0, 1) := by decide +kernel
theorem d_M_readCore_321 : decode b_M_readCore 321 = .ok (.getfield 77, 3) := by decide +kernel
theorem d_M_readCore_324 : decode b_M_readCore 324 = .ok (.iload_n 1, 1) := by decide +kernel
theorem d_M_readCore_325 : decode b_M_readCore 325 = .ok (.iaload, 1) := by decide +kernel
theorem d_M_readCore_326 : decode b_M_readCore 326 = .ok (.iconst 2, 1) := by decide +kernel
theorem d_M_readCore_327 : decode b_M_readCore 327 = .ok (.if_icmp .le 5, 3) := by decide +kernel
theorem d_M_readCore_330 : decode b_M_readCore 330 = .ok (.iconst 4, 1) := by decide +kernel
theorem d_M_readCore_331 : decode b_M_readCore 331 = .ok (.ireturn, 1) := by decide +kernel
theorem d_M_readCore_332 : decode b_M_readCore 332 = .ok (.aload_n 0, 1) := by decide +kernel
theorem d_M_readCore_333 : decode b_M_readCore 333 = .ok (.getfield 59, 3) := by decide +kernel
theorem d_M_readCore_336 : decode b_M_readCore 336 = .ok (.iload_n 1, 1) := by decide +kernel
theorem d_M_readCore_337 : decode b_M_readCore 337 = .ok (.aload_n 0, 1) := by decide +kernel
theorem d_M_readCore_338 : decode b_M_readCore 338 = .ok (.getfield 62, 3) := by decide +kernel
theorem d_M_readCore_341 : decode b_M_readCore 341 = .ok (.iload_n 1, 1) := by decide +kernel
theorem d_M_readCore_342 : decode b_M_readCore 342 = .ok (.iaload, 1) := by decide +kernel
theorem d_M_readCore_343 : decode b_M_readCore 343 = .ok (.aload_n 0, 1) := by decide +kernel
theorem d_M_readCore_344 : decode b_M_readCore 344 = .ok (.iload_n 1, 1) := by decide +kernel
theorem d_M_readCore_345 : decode b_M_readCore 345 = .ok (.invokevirtual 120, 3) := by decide +kernel
theorem d_M_readCore_348 : decode b_M_readCore 348 = .ok (.if_icmp .ne 17, 3) := by decide +kernel
theorem d_M_readCore_351 : decode b_M_readCore 351 = .ok (.aload_n 0, 1) := by decide +kernel
theorem d_M_readCore_352 : decode b_M_readCore 352 = .ok (.getfield 65, 3) := by decide +kernel
theorem d_M_readCore_355 : decode b_M_readCore 355 = .ok (.iload_n 1, 1) := by decide +kernel
theorem d_M_readCore_356 : decode b_M_readCore 356 = .ok (.iaload, 1) := by decide +kernel
theorem d_M_readCore_357 : decode b_M_readCore 357 = .ok (.iconst 5, 1) := by decide +kernel
theorem d_M_readCore_358 : decode b_M_readCore 358 = .ok (.if_icmp .ge 7, 3) := by decide +kernel
theorem d_M_readCore_361 : decode b_M_readCore 361 = .ok (.iconst 1, 1) := by decide +kernel
theorem d_M_readCore_362 : decode b_M_readCore 362 = .ok (.goto 4, 3) := by decide +kernel
theorem d_M_readCore_365 : decode b_M_readCore 365 = .ok (.iconst 0, 1) := by decide +kernel
theorem d_M_readCore_366 : decode b_M_readCore 366 = .ok (.iastore, 1) := by decide +kernel
theorem d_M_readCore_367 : decode b_M_readCore 367 = .ok (.iconst 0, 1) := by decide +kernel
theorem d_M_readCore_368 : decode b_M_readCore 368 = .ok (.ireturn, 1) := by decide +kernel
theorem d_M_coreLength_0 : decode b_M_coreLength 0 = .ok (.aload_n 0, 1) := by decide +kernel
theorem d_M_coreLength_1 : decode b_M_coreLength 1 = .ok (.getfield 62, 3) := by decide +kernel
theorem d_M_coreLength_4 : decode b_M_coreLength 4 = .ok (.iload_n 1, 1) := by decide +kernel
theorem d_M_coreLength_5 : decode b_M_coreLength 5 = .ok (.iaload, 1) := by decide +kernel
theorem d_M_coreLength_6 : decode b_M_coreLength 6 = .ok (.bipush 19, 2) := by decide +kernel
theorem d_M_coreLength_8 : decode b_M_coreLength 8 = .ok (.if_icmp .ge 9, 3) := by decide +kernel
theorem d_M_coreLength_11 : decode b_M_coreLength 11 = .ok (.sipush 999, 3) := by decide +kernel
theorem d_M_coreLength_14 : decode b_M_coreLength 14 = .ok (.goto 15, 3) := by decide +kernel
theorem d_M_coreLength_17 : decode b_M_coreLength 17 = .ok (.bipush 34, 2) := by decide +kernel
theorem d_M_coreLength_19 : decode b_M_coreLength 19 = .ok (.bipush 8, 2) := by decide +kernel
theorem d_M_coreLength_21 : decode b_M_coreLength 21 = .ok (.aload_n 0, 1) := by decide +kernel
theorem d_M_coreLength_22 : decode b_M_coreLength 22 = .ok (.getfield 77, 3) := by decide +kernel
theorem d_M_coreLength_25 : decode b_M_coreLength 25 = .ok (.iload_n 1, 1) := by decide +kernel
theorem d_M_coreLength_26 : decode b_M_coreLength 26 = .ok (.iaload, 1) := by decide +kernel
theorem d_M_coreLength_27 : decode b_M_coreLength 27 = .ok (.imul, 1) := by decide +kernel
theorem d_M_coreLength_28 : decode b_M_coreLength 28 = .ok (.iadd, 1) := by decide +kernel
theorem d_M_coreLength_29 : decode b_M_coreLength 29 = .ok (.ireturn, 1) := by decide +kernel
theorem d_M_err_0 : decode b_M_err 0 = .ok (.aload_n 0, 1) := by decide +kernel
theorem d_M_err_1 : decode b_M_err 1 = .ok (.getfield 7, 3) := by decide +kernel
theorem d_M_err_4 : decode b_M_err 4 = .ok (.iload_n 2, 1) := by decide +kernel
theorem d_M_err_5 : decode b_M_err 5 = .ok (.dup2, 1) := by decide +kernel
theorem d_M_err_6 : decode b_M_err 6 = .ok (.iaload, 1) := by decide +kernel
theorem d_M_err_7 : decode b_M_err 7 = .ok (.iconst 1, 1) := by decide +kernel
theorem d_M_err_8 : decode b_M_err 8 = .ok (.iadd, 1) := by decide +kernel
theorem d_M_err_9 : decode b_M_err 9 = .ok (.iastore, 1) := by decide +kernel
theorem d_M_err_10 : decode b_M_err 10 = .ok (.iload_n 3, 1) := by decide +kernel
theorem d_M_err_11 : decode b_M_err 11 = .ok (.iconst 1, 1) := by decide +kernel
theorem d_M_err_12 : decode b_M_err 12 = .ok (.if_icmp .ne 35, 3) := by decide +kernel
theorem d_M_err_15 : decode b_M_err 15 = .ok (.aload_n 0, 1) := by decide +kernel
theorem d_M_err_16 : decode b_M_err 16 = .ok (.getfield 23, 3) := by decide +kernel
theorem d_M_err_19 : decode b_M_err 19 = .ok (.iload_n 1, 1) := by decide +kernel
theorem d_M_err_20 : decode b_M_err 20 = .ok (.dup2, 1) := by decide +kernel
theorem d_M_err_21 : decode b_M_err 21 = .ok (.iaload, 1) := by decide +kernel
theorem d_M_err_22 : decode b_M_err 22 = .ok (.iload_n 2, 1) := by decide +kernel
theorem d_M_err_23 : decode b_M_err 23 = .ok (.bipush 6, 2) := by decide +kernel
theorem d_M_err_25 : decode b_M_err 25 = .ok (.if_icmp .ne 15, 3) := by decide +kernel
theorem d_M_err_28 : decode b_M_err 28 = .ok (.aload_n 0, 1) := by decide +kernel
theorem d_M_err_29 : decode b_M_err 29 = .ok (.iload_n 1, 1) := by decide +kernel
theorem d_M_err_30 : decode b_M_err 30 = .ok (.invokevirtual 123, 3) := by decide +kernel
theorem d_M_err_33 : decode b_M_err 33 = .ok (.ifCond .eq 7, 3) := by decide +kernel
theorem d_M_err_36 : decode b_M_err 36 = .ok (.iconst 0, 1) := by decide +kernel
theorem d_M_err_37 : decode b_M_err 37 = .ok (.goto 5, 3) := by decide +kernel
theorem d_M_err_40 : decode b_M_err 40 = .ok (.bipush 8, 2) := by decide +kernel
theorem d_M_err_42 : decode b_M_err 42 = .ok (.iadd, 1) := by decide +kernel
theorem d_M_err_43 : decode b_M_err 43 = .ok (.iastore, 1) := by decide +kernel
theorem d_M_err_44 : decode b_M_err 44 = .ok (.goto 13, 3) := by decide +kernel
theorem d_M_err_47 : decode b_M_err 47 = .ok (.aload_n 0, 1) := by decide +kernel
theorem d_M_err_48 : decode b_M_err 48 = .ok (.getfield 26, 3) := by decide +kernel
theorem d_M_err_51 : decode b_M_err 51 = .ok (.iload_n 1, 1) := by decide +kernel
theorem d_M_err_52 : decode b_M_err 52 = .ok (.dup2, 1) := by decide +kernel
theorem d_M_err_53 : decode b_M_err 53 = .ok (.iaload, 1) := by decide +kernel
theorem d_M_err_54 : decode b_M_err 54 = .ok (.iconst 1, 1) := by decide +kernel
theorem d_M_err_55 : decode b_M_err 55 = .ok (.iadd, 1) := by decide +kernel
theorem d_M_err_56 : decode b_M_err 56 = .ok (.iastore, 1) := by decide +kernel
theorem d_M_err_57 : decode b_M_err 57 = .ok (.aload_n 0, 1) := by decide +kernel
theorem d_M_err_58 : decode b_M_err 58 = .ok (.iload_n 1, 1) := by decide +kernel
theorem d_M_err_59 : decode b_M_err 59 = .ok (.invokevirtual 126, 3) := by decide +kernel
theorem d_M_err_62 : decode b_M_err 62 = .ok (.ifCond .ne 14, 3) := by decide +kernel
theorem d_M_err_65 : decode b_M_err 65 = .ok (.aload_n 0, 1) := by decide +kernel
theorem d_M_err_66 : decode b_M_err 66 = .ok (.iload_n 1, 1) := by decide +kernel
theorem d_M_err_67 : decode b_M_err 67 = .ok (.iload_n 3, 1) := by decide +kernel
theorem d_M_err_68 : decode b_M_err 68 = .ok (.aload_n 0, 1) := by decide +kernel
theorem d_M_err_69 : decode b_M_err 69 = .ok (.iload_n 1, 1) := by decide +kernel
theorem d_M_err_70 : decode b_M_err 70 = .ok (.invokevirtual 123, 3) := by decide +kernel
theorem d_M_err_73 : decode b_M_err 73 = .ok (.invokevirtual 129, 3) := by decide +kernel
theorem d_M_err_76 : decode b_M_err 76 = .ok (.return_, 1) := by decide +kernel
theorem d_M_isPassive_0 : decode b_M_isPassive 0 = .ok (.aload_n 0, 1) := by decide +kernel
theorem d_M_isPassive_1 : decode b_M_isPassive 1 = .ok (.getfield 23, 3) := by decide +kernel
theorem d_M_isPassive_4 : decode b_M_isPassive 4 = .ok (.iload_n 1, 1) := by decide +kernel
theorem d_M_isPassive_5 : decode b_M_isPassive 5 = .ok (.iaload, 1) := by decide +kernel
theorem d_M_isPassive_6 : decode b_M_isPassive 6 = .ok (.bipush 127, 2) := by decide +kernel
theorem d_M_isPassive_8 : decode b_M_isPassive 8 = .ok (.if_icmp .gt 14, 3) := by decide +kernel
theorem d_M_isPassive_11 : decode b_M_isPassive 11 = .ok (.aload_n 0, 1) := by decide +kernel
theorem d_M_isPassive_12 : decode b_M_isPassive 12 = .ok (.getfield 26, 3) := by decide +kernel
theorem d_M_isPassive_15 : decode b_M_isPassive 15 = .ok (.iload_n 1, 1) := by decide +kernel
theorem d_M_isPassive_16 : decode b_M_isPassive 16 = .ok (.iaload, 1) := by decide +kernel
theorem d_M_isPassive_17 : decode b_M_isPassive 17 = .ok (.bipush 127, 2) := by decide +kernel
theorem d_M_isPassive_19 : decode b_M_isPassive 19 = .ok (.if_icmp .le 7, 3) := by decide +kernel
theorem d_M_isPassive_22 : decode b_M_isPassive 22 = .ok (.iconst 1, 1) := by decide +kernel
theorem d_M_isPassive_23 : decode b_M_isPassive 23 = .ok (.goto 4, 3) := by decide +kernel
theorem d_M_isPassive_26 : decode b_M_isPassive 26 = .ok (.iconst 0, 1) := by decide +kernel
theorem d_M_isPassive_27 : decode b_M_isPassive 27 = .ok (.ireturn, 1) := by decide +kernel
theorem d_M_goesOff_0 : decode b_M_goesOff 0 = .ok (.aload_n 0, 1) := by decide +kernel
theorem d_M_goesOff_1 : decode b_M_goesOff 1 = .ok (.getfield 23, 3) := by decide +kernel
theorem d_M_goesOff_4 : decode b_M_goesOff 4 = .ok (.iload_n 1, 1) := by decide +kernel
theorem d_M_goesOff_5 : decode b_M_goesOff 5 = .ok (.iaload, 1) := by decide +kernel
theorem d_M_goesOff_6 : decode b_M_goesOff 6 = .ok (.sipush 256, 3) := by decide +kernel
theorem d_M_goesOff_9 : decode b_M_goesOff 9 = .ok (.if_icmp .ge 5, 3) := by decide +kernel
theorem d_M_goesOff_12 : decode b_M_goesOff 12 = .ok (.iconst 0, 1) := by decide +kernel
theorem d_M_goesOff_13 : decode b_M_goesOff 13 = .ok (.ireturn, 1) := by decide +kernel
theorem d_M_goesOff_14 : decode b_M_goesOff 14 = .ok (.aload_n 0, 1) := by decide +kernel
theorem d_M_goesOff_15 : decode b_M_goesOff 15 = .ok (.getfield 20, 3) := by decide +kernel
theorem d_M_goesOff_18 : decode b_M_goesOff 18 = .ok (.iload_n 1, 1) := by decide +kernel
theorem d_M_goesOff_19 : decode b_M_goesOff 19 = .ok (.bipush 7, 2) := by decide +kernel
theorem d_M_goesOff_21 : decode b_M_goesOff 21 = .ok (.iastore, 1) := by decide +kernel
theorem d_M_goesOff_22 : decode b_M_goesOff 22 = .ok (.aload_n 0, 1) := by decide +kernel
theorem d_M_goesOff_23 : decode b_M_goesOff 23 = .ok (.getfield 38, 3) := by decide +kernel
theorem d_M_goesOff_26 : decode b_M_goesOff 26 = .ok (.iload_n 1, 1) := by decide +kernel
theorem d_M_goesOff_27 : decode b_M_goesOff 27 = .ok (.iconst 0, 1) := by decide +kernel
theorem d_M_goesOff_28 : decode b_M_goesOff 28 = .ok (.iastore, 1) := by decide +kernel
theorem d_M_goesOff_29 : decode b_M_goesOff 29 = .ok (.aload_n 0, 1) := by decide +kernel
theorem d_M_goesOff_30 : decode b_M_goesOff 30 = .ok (.getfield 92, 3) := by decide +kernel
theorem d_M_goesOff_33 : decode b_M_goesOff 33 = .ok (.iload_n 1, 1) := by decide +kernel
theorem d_M_goesOff_34 : decode b_M_goesOff 34 = .ok (.iconst 0, 1) := by decide +kernel
theorem d_M_goesOff_35 : decode b_M_goesOff 35 = .ok (.iastore, 1) := by decide +kernel
theorem d_M_goesOff_36 : decode b_M_goesOff 36 = .ok (.aload_n 0, 1) := by decide +kernel
theorem d_M_goesOff_37 : decode b_M_goesOff 37 = .ok (.getfield 89, 3) := by decide +kernel
theorem d_M_goesOff_40 : decode b_M_goesOff 40 = .ok (.iload_n 1, 1) := by decide +kernel
theorem d_M_goesOff_41 : decode b_M_goesOff 41 = .ok (.iconst 0, 1) := by decide +kernel
theorem d_M_goesOff_42 : decode b_M_goesOff 42 = .ok (.iastore, 1) := by decide +kernel
theorem d_M_goesOff_43 : decode b_M_goesOff 43 = .ok (.iconst 1, 1) := by decide +kernel
theorem d_M_goesOff_44 : decode b_M_goesOff 44 = .ok (.ireturn, 1) := by decide +kernel
theorem d_M_flag_0 : decode b_M_flag 0 = .ok (.aload_n 0, 1) := by decide +kernel
theorem d_M_flag_1 : decode b_M_flag 1 = .ok (.getfield 83, 3) := by decide +kernel
theorem d_M_flag_4 : decode b_M_flag 4 = .ok (.iload_n 1, 1) := by decide +kernel
theorem d_M_flag_5 : decode b_M_flag 5 = .ok (.iload_n 2, 1) := by decide +kernel
theorem d_M_flag_6 : decode b_M_flag 6 = .ok (.iastore, 1) := by decide +kernel
theorem d_M_flag_7 : decode b_M_flag 7 = .ok (.aload_n 0, 1) := by decide +kernel
theorem d_M_flag_8 : decode b_M_flag 8 = .ok (.getfield 86, 3) := by decide +kernel
theorem d_M_flag_11 : decode b_M_flag 11 = .ok (.iload_n 1, 1) := by decide +kernel
theorem d_M_flag_12 : decode b_M_flag 12 = .ok (.iload_n 3, 1) := by decide +kernel
theorem d_M_flag_13 : decode b_M_flag 13 = .ok (.bastore, 1) := by decide +kernel
theorem d_M_flag_14 : decode b_M_flag 14 = .ok (.aload_n 0, 1) := by decide +kernel
theorem d_M_flag_15 : decode b_M_flag 15 = .ok (.getfield 20, 3) := by decide +kernel
theorem d_M_flag_18 : decode b_M_flag 18 = .ok (.iload_n 1, 1) := by decide +kernel
theorem d_M_flag_19 : decode b_M_flag 19 = .ok (.iconst 3, 1) := by decide +kernel
theorem d_M_flag_20 : decode b_M_flag 20 = .ok (.iastore, 1) := by decide +kernel
theorem d_M_flag_21 : decode b_M_flag 21 = .ok (.aload_n 0, 1) := by decide +kernel
theorem d_M_flag_22 : decode b_M_flag 22 = .ok (.getfield 89, 3) := by decide +kernel
theorem d_M_flag_25 : decode b_M_flag 25 = .ok (.iload_n 1, 1) := by decide +kernel
theorem d_M_flag_26 : decode b_M_flag 26 = .ok (.iconst 0, 1) := by decide +kernel
theorem d_M_flag_27 : decode b_M_flag 27 = .ok (.iastore, 1) := by decide +kernel
theorem d_M_flag_28 : decode b_M_flag 28 = .ok (.return_, 1) := by decide +kernel
theorem d_M_heardFrame_0 : decode b_M_heardFrame 0 = .ok (.aload_n 0, 1) := by decide +kernel
theorem d_M_heardFrame_1 : decode b_M_heardFrame 1 = .ok (.getfield 26, 3) := by decide +kernel
theorem d_M_heardFrame_4 : decode b_M_heardFrame 4 = .ok (.iload_n 1, 1) := by decide +kernel
theorem d_M_heardFrame_5 : decode b_M_heardFrame 5 = .ok (.aload_n 0, 1) := by decide +kernel
theorem d_M_heardFrame_6 : decode b_M_heardFrame 6 = .ok (.getfield 26, 3) := by decide +kernel
theorem d_M_heardFrame_9 : decode b_M_heardFrame 9 = .ok (.iload_n 1, 1) := by decide +kernel
theorem d_M_heardFrame_10 : decode b_M_heardFrame 10 = .ok (.iaload, 1) := by decide +kernel
theorem d_M_heardFrame_11 : decode b_M_heardFrame 11 = .ok (.bipush 127, 2) := by decide +kernel
theorem d_M_heardFrame_13 : decode b_M_heardFrame 13 = .ok (.if_icmp .le 8, 3) := by decide +kernel
theorem d_M_heardFrame_16 : decode b_M_heardFrame 16 = .ok (.bipush 127, 2) := by decide +kernel
theorem d_M_heardFrame_18 : decode b_M_heardFrame 18 = .ok (.goto 24, 3) := by decide +kernel
theorem d_M_heardFrame_21 : decode b_M_heardFrame 21 = .ok (.aload_n 0, 1) := by decide +kernel
theorem d_M_heardFrame_22 : decode b_M_heardFrame 22 = .ok (.getfield 26, 3) := by decide +kernel
theorem d_M_heardFrame_25 : decode b_M_heardFrame 25 = .ok (.iload_n 1, 1) := by decide +kernel
theorem d_M_heardFrame_26 : decode b_M_heardFrame 26 = .ok (.iaload, 1) := by decide +kernel
theorem d_M_heardFrame_27 : decode b_M_heardFrame 27 = .ok (.ifCond .le 14, 3) := by decide +kernel
theorem d_M_heardFrame_30 : decode b_M_heardFrame 30 = .ok (.aload_n 0, 1) := by decide +kernel
theorem d_M_heardFrame_31 : decode b_M_heardFrame 31 = .ok (.getfield 26, 3) := by decide +kernel
theorem d_M_heardFrame_34 : decode b_M_heardFrame 34 = .ok (.iload_n 1, 1) := by decide +kernel
theorem d_M_heardFrame_35 : decode b_M_heardFrame 35 = .ok (.iaload, 1) := by decide +kernel
theorem d_M_heardFrame_36 : decode b_M_heardFrame 36 = .ok (.iconst 1, 1) := by decide +kernel
theorem d_M_heardFrame_37 : decode b_M_heardFrame 37 = .ok (.isub, 1) := by decide +kernel
theorem d_M_heardFrame_38 : decode b_M_heardFrame 38 = .ok (.goto 4, 3) := by decide +kernel
theorem d_M_heardFrame_41 : decode b_M_heardFrame 41 = .ok (.iconst 0, 1) := by decide +kernel
theorem d_M_heardFrame_42 : decode b_M_heardFrame 42 = .ok (.iastore, 1) := by decide +kernel
theorem d_M_heardFrame_43 : decode b_M_heardFrame 43 = .ok (.aload_n 0, 1) := by decide +kernel
theorem d_M_heardFrame_44 : decode b_M_heardFrame 44 = .ok (.getfield 74, 3) := by decide +kernel
theorem d_M_heardFrame_47 : decode b_M_heardFrame 47 = .ok (.iload_n 1, 1) := by decide +kernel
theorem d_M_heardFrame_48 : decode b_M_heardFrame 48 = .ok (.iaload, 1) := by decide +kernel
theorem d_M_heardFrame_49 : decode b_M_heardFrame 49 = .ok (.aload_n 0, 1) := by decide +kernel
theorem d_M_heardFrame_50 : decode b_M_heardFrame 50 = .ok (.getfield 29, 3) := by decide +kernel
theorem d_M_heardFrame_53 : decode b_M_heardFrame 53 = .ok (.iload_n 1, 1) := by decide +kernel
theorem d_M_heardFrame_54 : decode b_M_heardFrame 54 = .ok (.iaload, 1) := by decide +kernel
theorem d_M_heardFrame_55 : decode b_M_heardFrame 55 = .ok (.iand, 1) := by decide +kernel
theorem d_M_heardFrame_56 : decode b_M_heardFrame 56 = .ok (.aload_n 0, 1) := by decide +kernel
theorem d_M_heardFrame_57 : decode b_M_heardFrame 57 = .ok (.getfield 32, 3) := by decide +kernel
theorem d_M_heardFrame_60 : decode b_M_heardFrame 60 = .ok (.iload_n 1, 1) := by decide +kernel
theorem d_M_heardFrame_61 : decode b_M_heardFrame 61 = .ok (.iaload, 1) := by decide +kernel
theorem d_M_heardFrame_62 : decode b_M_heardFrame 62 = .ok (.if_icmp .ne 79, 3) := by decide +kernel
theorem d_M_heardFrame_65 : decode b_M_heardFrame 65 = .ok (.aload_n 0, 1) := by decide +kernel
theorem d_M_heardFrame_66 : decode b_M_heardFrame 66 = .ok (.getfield 53, 3) := by decide +kernel
theorem d_M_heardFrame_69 : decode b_M_heardFrame 69 = .ok (.iload_n 1, 1) := by decide +kernel
theorem d_M_heardFrame_70 : decode b_M_heardFrame 70 = .ok (.iaload, 1) := by decide +kernel
theorem d_M_heardFrame_71 : decode b_M_heardFrame 71 = .ok (.iconst 4, 1) := by decide +kernel
theorem d_M_heardFrame_72 : decode b_M_heardFrame 72 = .ok (.if_icmp .ne 16, 3) := by decide +kernel
theorem d_M_heardFrame_75 : decode b_M_heardFrame 75 = .ok (.aload_n 0, 1) := by decide +kernel
theorem d_M_heardFrame_76 : decode b_M_heardFrame 76 = .ok (.getfield 35, 3) := by decide +kernel
theorem d_M_heardFrame_79 : decode b_M_heardFrame 79 = .ok (.iload_n 1, 1) := by decide +kernel
theorem d_M_heardFrame_80 : decode b_M_heardFrame 80 = .ok (.dup2, 1) := by decide +kernel
theorem d_M_heardFrame_81 : decode b_M_heardFrame 81 = .ok (.iaload, 1) := by decide +kernel
theorem d_M_heardFrame_82 : decode b_M_heardFrame 82 = .ok (.iconst 1, 1) := by decide +kernel
theorem d_M_heardFrame_83 : decode b_M_heardFrame 83 = .ok (.iadd, 1) := by decide +kernel
theorem d_M_heardFrame_84 : decode b_M_heardFrame 84 = .ok (.iastore, 1) := by decide +kernel
theorem d_M_heardFrame_85 : decode b_M_heardFrame 85 = .ok (.goto 56, 3) := by decide +kernel
theorem d_M_heardFrame_88 : decode b_M_heardFrame 88 = .ok (.aload_n 0, 1) := by decide +kernel
theorem d_M_heardFrame_89 : decode b_M_heardFrame 89 = .ok (.getfield 56, 3) := by decide +kernel
theorem d_M_heardFrame_92 : decode b_M_heardFrame 92 = .ok (.iconst 4, 1) := by decide +kernel
theorem d_M_heardFrame_93 : decode b_M_heardFrame 93 = .ok (.iload_n 1, 1) := by decide +kernel
theorem d_M_heardFrame_94 : decode b_M_heardFrame 94 = .ok (.imul, 1) := by decide +kernel
theorem d_M_heardFrame_95 : decode b_M_heardFrame 95 = .ok (.aload_n 0, 1) := by decide +kernel
theorem d_M_heardFrame_96 : decode b_M_heardFrame 96 = .ok (.getfield 53, 3) := by decide +kernel
theorem d_M_heardFrame_99 : decode b_M_heardFrame 99 = .ok (.iload_n 1, 1) := by decide +kernel
theorem d_M_heardFrame_100 : decode b_M_heardFrame 100 = .ok (.iaload, 1) := by decide +kernel
theorem d_M_heardFrame_101 : decode b_M_heardFrame 101 = .ok (.iadd, 1) := by decide +kernel
theorem d_M_heardFrame_102 : decode b_M_heardFrame 102 = .ok (.aload_n 0, 1) := by decide +kernel
theorem d_M_heardFrame_103 : decode b_M_heardFrame 103 = .ok (.getfield 74, 3) := by decide +kernel
theorem d_M_heardFrame_106 : decode b_M_heardFrame 106 = .ok (.iload_n 1, 1) := by decide +kernel
theorem d_M_heardFrame_107 : decode b_M_heardFrame 107 = .ok (.iaload, 1) := by decide +kernel
theorem d_M_heardFrame_108 : decode b_M_heardFrame 108 = .ok (.sipush 2048, 3) := by decide +kernel
theorem d_M_heardFrame_111 : decode b_M_heardFrame 111 = .ok (.aload_n 0, 1) := by decide +kernel
theorem d_M_heardFrame_112 : decode b_M_heardFrame 112 = .ok (.getfield 77, 3) := by decide +kernel
theorem d_M_heardFrame_115 : decode b_M_heardFrame 115 = .ok (.iload_n 1, 1) := by decide +kernel
theorem d_M_heardFrame_116 : decode b_M_heardFrame 116 = .ok (.iaload, 1) := by decide +kernel
theorem d_M_heardFrame_117 : decode b_M_heardFrame 117 = .ok (.imul, 1) := by decide +kernel
theorem d_M_heardFrame_118 : decode b_M_heardFrame 118 = .ok (.iadd, 1) := by decide +kernel
theorem d_M_heardFrame_119 : decode b_M_heardFrame 119 = .ok (.sipush 8192, 3) := by decide +kernel
theorem d_M_heardFrame_122 : decode b_M_heardFrame 122 = .ok (.aload_n 0, 1) := by decide +kernel
theorem d_M_heardFrame_123 : decode b_M_heardFrame 123 = .ok (.getfield 80, 3) := by decide +kernel
theorem d_M_heardFrame_126 : decode b_M_heardFrame 126 = .ok (.iload_n 1, 1) := by decide +kernel
theorem d_M_heardFrame_127 : decode b_M_heardFrame 127 = .ok (.iaload, 1) := by decide +kernel
theorem d_M_heardFrame_128 : decode b_M_heardFrame 128 = .ok (.imul, 1) := by decide +kernel
theorem d_M_heardFrame_129 : decode b_M_heardFrame 129 = .ok (.iadd, 1) := by decide +kernel
theorem d_M_heardFrame_130 : decode b_M_heardFrame 130 = .ok (.iastore, 1) := by decide +kernel
theorem d_M_heardFrame_131 : decode b_M_heardFrame 131 = .ok (.aload_n 0, 1) := by decide +kernel
theorem d_M_heardFrame_132 : decode b_M_heardFrame 132 = .ok (.getfield 53, 3) := by decide +kernel
theorem d_M_heardFrame_135 : decode b_M_heardFrame 135 = .ok (.iload_n 1, 1) := by decide +kernel
theorem d_M_heardFrame_136 : decode b_M_heardFrame 136 = .ok (.dup2, 1) := by decide +kernel
theorem d_M_heardFrame_137 : decode b_M_heardFrame 137 = .ok (.iaload, 1) := by decide +kernel
theorem d_M_heardFrame_138 : decode b_M_heardFrame 138 = .ok (.iconst 1, 1) := by decide +kernel
theorem d_M_heardFrame_139 : decode b_M_heardFrame 139 = .ok (.iadd, 1) := by decide +kernel
theorem d_M_heardFrame_140 : decode b_M_heardFrame 140 = .ok (.iastore, 1) := by decide +kernel
theorem d_M_heardFrame_141 : decode b_M_heardFrame 141 = .ok (.iload_n 2, 1) := by decide +kernel
theorem d_M_heardFrame_142 : decode b_M_heardFrame 142 = .ok (.ifCond .ne 11, 3) := by decide +kernel
theorem d_M_heardFrame_145 : decode b_M_heardFrame 145 = .ok (.aload_n 0, 1) := by decide +kernel
theorem d_M_heardFrame_146 : decode b_M_heardFrame 146 = .ok (.iload_n 1, 1) := by decide +kernel
theorem d_M_heardFrame_147 : decode b_M_heardFrame 147 = .ok (.invokevirtual 137, 3) := by decide +kernel
theorem d_M_heardFrame_150 : decode b_M_heardFrame 150 = .ok (.goto 8, 3) := by decide +kernel
theorem d_M_heardFrame_153 : decode b_M_heardFrame 153 = .ok (.aload_n 0, 1) := by decide +kernel
theorem d_M_heardFrame_154 : decode b_M_heardFrame 154 = .ok (.iload_n 1, 1) := by decide +kernel
theorem d_M_heardFrame_155 : decode b_M_heardFrame 155 = .ok (.invokevirtual 133, 3) := by decide +kernel
theorem d_M_heardFrame_158 : decode b_M_heardFrame 158 = .ok (.return_, 1) := by decide +kernel
theorem d_M_overload_0 : decode b_M_overload 0 = .ok (.aload_n 0, 1) := by decide +kernel
theorem d_M_overload_1 : decode b_M_overload 1 = .ok (.getfield 7, 3) := by decide +kernel
theorem d_M_overload_4 : decode b_M_overload 4 = .ok (.bipush 7, 2) := by decide +kernel
theorem d_M_overload_6 : decode b_M_overload 6 = .ok (.dup2, 1) := by decide +kernel
theorem d_M_overload_7 : decode b_M_overload 7 = .ok (.iaload, 1) := by decide +kernel
theorem d_M_overload_8 : decode b_M_overload 8 = .ok (.iconst 1, 1) := by decide +kernel
theorem d_M_overload_9 : decode b_M_overload 9 = .ok (.iadd, 1) := by decide +kernel
theorem d_M_overload_10 : decode b_M_overload 10 = .ok (.iastore, 1) := by decide +kernel
theorem d_M_overload_11 : decode b_M_overload 11 = .ok (.aload_n 0, 1) := by decide +kernel
theorem d_M_overload_12 : decode b_M_overload 12 = .ok (.getfield 95, 3) := by decide +kernel
theorem d_M_overload_15 : decode b_M_overload 15 = .ok (.iload_n 1, 1) := by decide +kernel
theorem d_M_overload_16 : decode b_M_overload 16 = .ok (.iconst 0, 1) := by decide +kernel
theorem d_M_overload_17 : decode b_M_overload 17 = .ok (.iastore, 1) := by decide +kernel
theorem d_M_overload_18 : decode b_M_overload 18 = .ok (.aload_n 0, 1) := by decide +kernel
theorem d_M_overload_19 : decode b_M_overload 19 = .ok (.iload_n 1, 1) := by decide +kernel
theorem d_M_overload_20 : decode b_M_overload 20 = .ok (.iconst 0, 1) := by decide +kernel
theorem d_M_overload_21 : decode b_M_overload 21 = .ok (.iconst 0, 1) := by decide +kernel
theorem d_M_overload_22 : decode b_M_overload 22 = .ok (.invokevirtual 129, 3) := by decide +kernel
theorem d_M_overload_25 : decode b_M_overload 25 = .ok (.return_, 1) := by decide +kernel
theorem d_M_rest_0 : decode b_M_rest 0 = .ok (.aload_n 0, 1) := by decide +kernel
theorem d_M_rest_1 : decode b_M_rest 1 = .ok (.getfield 20, 3) := by decide +kernel
theorem d_M_rest_4 : decode b_M_rest 4 = .ok (.iload_n 1, 1) := by decide +kernel
theorem d_M_rest_5 : decode b_M_rest 5 = .ok (.iconst 5, 1) := by decide +kernel
theorem d_M_rest_6 : decode b_M_rest 6 = .ok (.iastore, 1) := by decide +kernel
theorem d_M_rest_7 : decode b_M_rest 7 = .ok (.aload_n 0, 1) := by decide +kernel
theorem d_M_rest_8 : decode b_M_rest 8 = .ok (.getfield 89, 3) := by decide +kernel
theorem d_M_rest_11 : decode b_M_rest 11 = .ok (.iload_n 1, 1) := by decide +kernel
theorem d_M_rest_12 : decode b_M_rest 12 = .ok (.iconst 0, 1) := by decide +kernel
theorem d_M_rest_13 : decode b_M_rest 13 = .ok (.iastore, 1) := by decide +kernel
theorem d_M_rest_14 : decode b_M_rest 14 = .ok (.return_, 1) := by decide +kernel
theorem d_M_sentFrame_0 : decode b_M_sentFrame 0 = .ok (.aload_n 0, 1) := by decide +kernel
theorem d_M_sentFrame_1 : decode b_M_sentFrame 1 = .ok (.getfield 7, 3) := by decide +kernel
theorem d_M_sentFrame_4 : decode b_M_sentFrame 4 = .ok (.iconst 1, 1) := by decide +kernel
theorem d_M_sentFrame_5 : decode b_M_sentFrame 5 = .ok (.dup2, 1) := by decide +kernel
theorem d_M_sentFrame_6 : decode b_M_sentFrame 6 = .ok (.iaload, 1) := by decide +kernel
theorem d_M_sentFrame_7 : decode b_M_sentFrame 7 = .ok (.iconst 1, 1) := by decide +kernel
theorem d_M_sentFrame_8 : decode b_M_sentFrame 8 = .ok (.iadd, 1) := by decide +kernel
theorem d_M_sentFrame_9 : decode b_M_sentFrame 9 = .ok (.iastore, 1) := by decide +kernel
theorem d_M_sentFrame_10 : decode b_M_sentFrame 10 = .ok (.aload_n 0, 1) := by decide +kernel
theorem d_M_sentFrame_11 : decode b_M_sentFrame 11 = .ok (.getfield 23, 3) := by decide +kernel
theorem d_M_sentFrame_14 : decode b_M_sentFrame 14 = .ok (.iload_n 1, 1) := by decide +kernel
theorem d_M_sentFrame_15 : decode b_M_sentFrame 15 = .ok (.dup2, 1) := by decide +kernel
theorem d_M_sentFrame_16 : decode b_M_sentFrame 16 = .ok (.iaload, 1) := by decide +kernel
theorem d_M_sentFrame_17 : decode b_M_sentFrame 17 = .ok (.aload_n 0, 1) := by decide +kernel
theorem d_M_sentFrame_18 : decode b_M_sentFrame 18 = .ok (.getfield 23, 3) := by decide +kernel
theorem d_M_sentFrame_21 : decode b_M_sentFrame 21 = .ok (.iload_n 1, 1) := by decide +kernel
theorem d_M_sentFrame_22 : decode b_M_sentFrame 22 = .ok (.iaload, 1) := by decide +kernel
theorem d_M_sentFrame_23 : decode b_M_sentFrame 23 = .ok (.ifCond .le 7, 3) := by decide +kernel
theorem d_M_sentFrame_26 : decode b_M_sentFrame 26 = .ok (.iconst 1, 1) := by decide +kernel
theorem d_M_sentFrame_27 : decode b_M_sentFrame 27 = .ok (.goto 4, 3) := by decide +kernel
theorem d_M_sentFrame_30 : decode b_M_sentFrame 30 = .ok (.iconst 0, 1) := by decide +kernel
theorem d_M_sentFrame_31 : decode b_M_sentFrame 31 = .ok (.isub, 1) := by decide +kernel
theorem d_M_sentFrame_32 : decode b_M_sentFrame 32 = .ok (.iastore, 1) := by decide +kernel
theorem d_M_sentFrame_33 : decode b_M_sentFrame 33 = .ok (.aload_n 0, 1) := by decide +kernel
theorem d_M_sentFrame_34 : decode b_M_sentFrame 34 = .ok (.getfield 38, 3) := by decide +kernel
theorem d_M_sentFrame_37 : decode b_M_sentFrame 37 = .ok (.iload_n 1, 1) := by decide +kernel
theorem d_M_sentFrame_38 : decode b_M_sentFrame 38 = .ok (.dup2, 1) := by decide +kernel
theorem d_M_sentFrame_39 : decode b_M_sentFrame 39 = .ok (.iaload, 1) := by decide +kernel
theorem d_M_sentFrame_40 : decode b_M_sentFrame 40 = .ok (.iconst 1, 1) := by decide +kernel
theorem d_M_sentFrame_41 : decode b_M_sentFrame 41 = .ok (.isub, 1) := by decide +kernel
theorem d_M_sentFrame_42 : decode b_M_sentFrame 42 = .ok (.iastore, 1) := by decide +kernel
theorem d_M_sentFrame_43 : decode b_M_sentFrame 43 = .ok (.iconst 4, 1) := by decide +kernel
theorem d_M_sentFrame_44 : decode b_M_sentFrame 44 = .ok (.iload_n 1, 1) := by decide +kernel
theorem d_M_sentFrame_45 : decode b_M_sentFrame 45 = .ok (.imul, 1) := by decide +kernel
theorem d_M_sentFrame_46 : decode b_M_sentFrame 46 = .ok (.aload_n 0, 1) := by decide +kernel
theorem d_M_sentFrame_47 : decode b_M_sentFrame 47 = .ok (.getfield 50, 3) := by decide +kernel
theorem d_M_sentFrame_50 : decode b_M_sentFrame 50 = .ok (.iload_n 1, 1) := by decide +kernel
theorem d_M_sentFrame_51 : decode b_M_sentFrame 51 = .ok (.iaload, 1) := by decide +kernel
theorem d_M_sentFrame_52 : decode b_M_sentFrame 52 = .ok (.iadd, 1) := by decide +kernel
theorem d_M_sentFrame_53 : decode b_M_sentFrame 53 = .ok (.istore_n 2, 1) := by decide +kernel
theorem d_M_sentFrame_54 : decode b_M_sentFrame 54 = .ok (.iload_n 2, 1) := by decide +kernel
theorem d_M_sentFrame_55 : decode b_M_sentFrame 55 = .ok (.iconst 4, 1) := by decide +kernel
theorem d_M_sentFrame_56 : decode b_M_sentFrame 56 = .ok (.iload_n 1, 1) := by decide +kernel
theorem d_M_sentFrame_57 : decode b_M_sentFrame 57 = .ok (.imul, 1) := by decide +kernel
theorem d_M_sentFrame_58 : decode b_M_sentFrame 58 = .ok (.aload_n 0, 1) := by decide +kernel
theorem d_M_sentFrame_59 : decode b_M_sentFrame 59 = .ok (.getfield 38, 3) := by decide +kernel
theorem d_M_sentFrame_62 : decode b_M_sentFrame 62 = .ok (.iload_n 1, 1) := by decide +kernel
theorem d_M_sentFrame_63 : decode b_M_sentFrame 63 = .ok (.iaload, 1) := by decide +kernel
theorem d_M_sentFrame_64 : decode b_M_sentFrame 64 = .ok (.iadd, 1) := by decide +kernel
theorem d_M_sentFrame_65 : decode b_M_sentFrame 65 = .ok (.if_icmp .ge 51, 3) := by decide +kernel
theorem d_M_sentFrame_68 : decode b_M_sentFrame 68 = .ok (.aload_n 0, 1) := by decide +kernel
theorem d_M_sentFrame_69 : decode b_M_sentFrame 69 = .ok (.getfield 41, 3) := by decide +kernel
theorem d_M_sentFrame_72 : decode b_M_sentFrame 72 = .ok (.iload_n 2, 1) := by decide +kernel
theorem d_M_sentFrame_73 : decode b_M_sentFrame 73 = .ok (.aload_n 0, 1) := by decide +kernel
theorem d_M_sentFrame_74 : decode b_M_sentFrame 74 = .ok (.getfield 41, 3) := by decide +kernel
theorem d_M_sentFrame_77 : decode b_M_sentFrame 77 = .ok (.iload_n 2, 1) := by decide +kernel
theorem d_M_sentFrame_78 : decode b_M_sentFrame 78 = .ok (.iconst 1, 1) := by decide +kernel
theorem d_M_sentFrame_79 : decode b_M_sentFrame 79 = .ok (.iadd, 1) := by decide +kernel
theorem d_M_sentFrame_80 : decode b_M_sentFrame 80 = .ok (.iaload, 1) := by decide +kernel
theorem d_M_sentFrame_81 : decode b_M_sentFrame 81 = .ok (.iastore, 1) := by decide +kernel
theorem d_M_sentFrame_82 : decode b_M_sentFrame 82 = .ok (.aload_n 0, 1) := by decide +kernel
theorem d_M_sentFrame_83 : decode b_M_sentFrame 83 = .ok (.getfield 44, 3) := by decide +kernel
theorem d_M_sentFrame_86 : decode b_M_sentFrame 86 = .ok (.iload_n 2, 1) := by decide +kernel
theorem d_M_sentFrame_87 : decode b_M_sentFrame 87 = .ok (.aload_n 0, 1) := by decide +kernel
theorem d_M_sentFrame_88 : decode b_M_sentFrame 88 = .ok (.getfield 44, 3) := by decide +kernel
theorem d_M_sentFrame_91 : decode b_M_sentFrame 91 = .ok (.iload_n 2, 1) := by decide +kernel
theorem d_M_sentFrame_92 : decode b_M_sentFrame 92 = .ok (.iconst 1, 1) := by decide +kernel
theorem d_M_sentFrame_93 : decode b_M_sentFrame 93 = .ok (.iadd, 1) := by decide +kernel
theorem d_M_sentFrame_94 : decode b_M_sentFrame 94 = .ok (.iaload, 1) := by decide +kernel
theorem d_M_sentFrame_95 : decode b_M_sentFrame 95 = .ok (.iastore, 1) := by decide +kernel
theorem d_M_sentFrame_96 : decode b_M_sentFrame 96 = .ok (.aload_n 0, 1) := by decide +kernel
theorem d_M_sentFrame_97 : decode b_M_sentFrame 97 = .ok (.getfield 47, 3) := by decide +kernel
theorem d_M_sentFrame_100 : decode b_M_sentFrame 100 = .ok (.iload_n 2, 1) := by decide +kernel
theorem d_M_sentFrame_101 : decode b_M_sentFrame 101 = .ok (.aload_n 0, 1) := by decide +kernel
theorem d_M_sentFrame_102 : decode b_M_sentFrame 102 = .ok (.getfield 47, 3) := by decide +kernel
theorem d_M_sentFrame_105 : decode b_M_sentFrame 105 = .ok (.iload_n 2, 1) := by decide +kernel
theorem d_M_sentFrame_106 : decode b_M_sentFrame 106 = .ok (.iconst 1, 1) := by decide +kernel
theorem d_M_sentFrame_107 : decode b_M_sentFrame 107 = .ok (.iadd, 1) := by decide +kernel
theorem d_M_sentFrame_108 : decode b_M_sentFrame 108 = .ok (.iaload, 1) := by decide +kernel
theorem d_M_sentFrame_109 : decode b_M_sentFrame 109 = .ok (.iastore, 1) := by decide +kernel
theorem d_M_sentFrame_110 : decode b_M_sentFrame 110 = .ok (.iinc 2 1, 3) := by decide +kernel
theorem d_M_sentFrame_113 : decode b_M_sentFrame 113 = .ok (.goto (-59), 3) := by decide +kernel
theorem d_M_sentFrame_116 : decode b_M_sentFrame 116 = .ok (.aload_n 0, 1) := by decide +kernel
theorem d_M_sentFrame_117 : decode b_M_sentFrame 117 = .ok (.iload_n 1, 1) := by decide +kernel
theorem d_M_sentFrame_118 : decode b_M_sentFrame 118 = .ok (.invokevirtual 133, 3) := by decide +kernel
theorem d_M_sentFrame_121 : decode b_M_sentFrame 121 = .ok (.return_, 1) := by decide +kernel
theorem d_M_flagging_0 : decode b_M_flagging 0 = .ok (.aload_n 0, 1) := by decide +kernel
theorem d_M_flagging_1 : decode b_M_flagging 1 = .ok (.getfield 98, 3) := by decide +kernel
theorem d_M_flagging_4 : decode b_M_flagging 4 = .ok (.iload_n 1, 1) := by decide +kernel
theorem d_M_flagging_5 : decode b_M_flagging 5 = .ok (.iaload, 1) := by decide +kernel
theorem d_M_flagging_6 : decode b_M_flagging 6 = .ok (.ifCond .ne 17, 3) := by decide +kernel
theorem d_M_flagging_9 : decode b_M_flagging 9 = .ok (.iload_n 2, 1) := by decide +kernel
theorem d_M_flagging_10 : decode b_M_flagging 10 = .ok (.iconst 1, 1) := by decide +kernel
theorem d_M_flagging_11 : decode b_M_flagging 11 = .ok (.if_icmp .ne 12, 3) := by decide +kernel
theorem d_M_flagging_14 : decode b_M_flagging 14 = .ok (.aload_n 0, 1) := by decide +kernel
theorem d_M_flagging_15 : decode b_M_flagging 15 = .ok (.iload_n 1, 1) := by decide +kernel
theorem d_M_flagging_16 : decode b_M_flagging 16 = .ok (.invokevirtual 157, 3) := by decide +kernel
theorem d_M_flagging_19 : decode b_M_flagging 19 = .ok (.ifCond .eq 4, 3) := by decide +kernel
theorem d_M_flagging_22 : decode b_M_flagging 22 = .ok (.return_, 1) := by decide +kernel
theorem d_M_flagging_23 : decode b_M_flagging 23 = .ok (.aload_n 0, 1) := by decide +kernel
theorem d_M_flagging_24 : decode b_M_flagging 24 = .ok (.getfield 89, 3) := by decide +kernel
theorem d_M_flagging_27 : decode b_M_flagging 27 = .ok (.iload_n 1, 1) := by decide +kernel
theorem d_M_flagging_28 : decode b_M_flagging 28 = .ok (.dup2, 1) := by decide +kernel
theorem d_M_flagging_29 : decode b_M_flagging 29 = .ok (.iaload, 1) := by decide +kernel
theorem d_M_flagging_30 : decode b_M_flagging 30 = .ok (.iconst 1, 1) := by decide +kernel
theorem d_M_flagging_31 : decode b_M_flagging 31 = .ok (.iadd, 1) := by decide +kernel
theorem d_M_flagging_32 : decode b_M_flagging 32 = .ok (.iastore, 1) := by decide +kernel
theorem d_M_flagging_33 : decode b_M_flagging 33 = .ok (.aload_n 0, 1) := by decide +kernel
theorem d_M_flagging_34 : decode b_M_flagging 34 = .ok (.getfield 89, 3) := by decide +kernel
theorem d_M_flagging_37 : decode b_M_flagging 37 = .ok (.iload_n 1, 1) := by decide +kernel
theorem d_M_flagging_38 : decode b_M_flagging 38 = .ok (.iaload, 1) := by decide +kernel
theorem d_M_flagging_39 : decode b_M_flagging 39 = .ok (.bipush 6, 2) := by decide +kernel
theorem d_M_flagging_41 : decode b_M_flagging 41 = .ok (.if_icmp .ne 24, 3) := by decide +kernel
theorem d_M_flagging_44 : decode b_M_flagging 44 = .ok (.aload_n 0, 1) := by decide +kernel
theorem d_M_flagging_45 : decode b_M_flagging 45 = .ok (.getfield 20, 3) := by decide +kernel
theorem d_M_flagging_48 : decode b_M_flagging 48 = .ok (.iload_n 1, 1) := by decide +kernel
theorem d_M_flagging_49 : decode b_M_flagging 49 = .ok (.iconst 4, 1) := by decide +kernel
theorem d_M_flagging_50 : decode b_M_flagging 50 = .ok (.iastore, 1) := by decide +kernel
theorem d_M_flagging_51 : decode b_M_flagging 51 = .ok (.aload_n 0, 1) := by decide +kernel
theorem d_M_flagging_52 : decode b_M_flagging 52 = .ok (.getfield 89, 3) := by decide +kernel
theorem d_M_flagging_55 : decode b_M_flagging 55 = .ok (.iload_n 1, 1) := by decide +kernel
theorem d_M_flagging_56 : decode b_M_flagging 56 = .ok (.iconst 0, 1) := by decide +kernel
theorem d_M_flagging_57 : decode b_M_flagging 57 = .ok (.iastore, 1) := by decide +kernel
theorem d_M_flagging_58 : decode b_M_flagging 58 = .ok (.aload_n 0, 1) := by decide +kernel
theorem d_M_flagging_59 : decode b_M_flagging 59 = .ok (.getfield 92, 3) := by decide +kernel
theorem d_M_flagging_62 : decode b_M_flagging 62 = .ok (.iload_n 1, 1) := by decide +kernel
theorem d_M_flagging_63 : decode b_M_flagging 63 = .ok (.iconst 0, 1) := by decide +kernel
theorem d_M_flagging_64 : decode b_M_flagging 64 = .ok (.iastore, 1) := by decide +kernel
theorem d_M_flagging_65 : decode b_M_flagging 65 = .ok (.return_, 1) := by decide +kernel
theorem d_M_eightMore_0 : decode b_M_eightMore 0 = .ok (.aload_n 0, 1) := by decide +kernel
theorem d_M_eightMore_1 : decode b_M_eightMore 1 = .ok (.getfield 23, 3) := by decide +kernel
theorem d_M_eightMore_4 : decode b_M_eightMore 4 = .ok (.iload_n 1, 1) := by decide +kernel
theorem d_M_eightMore_5 : decode b_M_eightMore 5 = .ok (.dup2, 1) := by decide +kernel
theorem d_M_eightMore_6 : decode b_M_eightMore 6 = .ok (.iaload, 1) := by decide +kernel
theorem d_M_eightMore_7 : decode b_M_eightMore 7 = .ok (.aload_n 0, 1) := by decide +kernel
theorem d_M_eightMore_8 : decode b_M_eightMore 8 = .ok (.getfield 83, 3) := by decide +kernel
theorem d_M_eightMore_11 : decode b_M_eightMore 11 = .ok (.iload_n 1, 1) := by decide +kernel
theorem d_M_eightMore_12 : decode b_M_eightMore 12 = .ok (.iaload, 1) := by decide +kernel
theorem d_M_eightMore_13 : decode b_M_eightMore 13 = .ok (.iconst 1, 1) := by decide +kernel
theorem d_M_eightMore_14 : decode b_M_eightMore 14 = .ok (.if_icmp .ne 8, 3) := by decide +kernel
theorem d_M_eightMore_17 : decode b_M_eightMore 17 = .ok (.bipush 8, 2) := by decide +kernel
theorem d_M_eightMore_19 : decode b_M_eightMore 19 = .ok (.goto 4, 3) := by decide +kernel
theorem d_M_eightMore_22 : decode b_M_eightMore 22 = .ok (.iconst 0, 1) := by decide +kernel
theorem d_M_eightMore_23 : decode b_M_eightMore 23 = .ok (.iadd, 1) := by decide +kernel
theorem d_M_eightMore_24 : decode b_M_eightMore 24 = .ok (.iastore, 1) := by decide +kernel
theorem d_M_eightMore_25 : decode b_M_eightMore 25 = .ok (.aload_n 0, 1) := by decide +kernel
theorem d_M_eightMore_26 : decode b_M_eightMore 26 = .ok (.getfield 26, 3) := by decide +kernel
theorem d_M_eightMore_29 : decode b_M_eightMore 29 = .ok (.iload_n 1, 1) := by decide +kernel
theorem d_M_eightMore_30 : decode b_M_eightMore 30 = .ok (.dup2, 1) := by decide +kernel
theorem d_M_eightMore_31 : decode b_M_eightMore 31 = .ok (.iaload, 1) := by decide +kernel
theorem d_M_eightMore_32 : decode b_M_eightMore 32 = .ok (.aload_n 0, 1) := by decide +kernel
theorem d_M_eightMore_33 : decode b_M_eightMore 33 = .ok (.getfield 83, 3) := by decide +kernel
theorem d_M_eightMore_36 : decode b_M_eightMore 36 = .ok (.iload_n 1, 1) := by decide +kernel
theorem d_M_eightMore_37 : decode b_M_eightMore 37 = .ok (.iaload, 1) := by decide +kernel
theorem d_M_eightMore_38 : decode b_M_eightMore 38 = .ok (.iconst 2, 1) := by decide +kernel
theorem d_M_eightMore_39 : decode b_M_eightMore 39 = .ok (.if_icmp .ne 8, 3) := by decide +kernel
theorem d_M_eightMore_42 : decode b_M_eightMore 42 = .ok (.bipush 8, 2) := by decide +kernel
theorem d_M_eightMore_44 : decode b_M_eightMore 44 = .ok (.goto 4, 3) := by decide +kernel
theorem d_M_eightMore_47 : decode b_M_eightMore 47 = .ok (.iconst 0, 1) := by decide +kernel
theorem d_M_eightMore_48 : decode b_M_eightMore 48 = .ok (.iadd, 1) := by decide +kernel
theorem d_M_eightMore_49 : decode b_M_eightMore 49 = .ok (.iastore, 1) := by decide +kernel
theorem d_M_eightMore_50 : decode b_M_eightMore 50 = .ok (.aload_n 0, 1) := by decide +kernel
theorem d_M_eightMore_51 : decode b_M_eightMore 51 = .ok (.iload_n 1, 1) := by decide +kernel
theorem d_M_eightMore_52 : decode b_M_eightMore 52 = .ok (.invokevirtual 126, 3) := by decide +kernel
theorem d_M_eightMore_55 : decode b_M_eightMore 55 = .ok (.ireturn, 1) := by decide +kernel
theorem d_M_goAfter_0 : decode b_M_goAfter 0 = .ok (.iload_n 2, 1) := by decide +kernel
theorem d_M_goAfter_1 : decode b_M_goAfter 1 = .ok (.iconst 1, 1) := by decide +kernel
theorem d_M_goAfter_2 : decode b_M_goAfter 2 = .ok (.if_icmp .ne 32, 3) := by decide +kernel
theorem d_M_goAfter_5 : decode b_M_goAfter 5 = .ok (.aload_n 0, 1) := by decide +kernel
theorem d_M_goAfter_6 : decode b_M_goAfter 6 = .ok (.getfield 92, 3) := by decide +kernel
theorem d_M_goAfter_9 : decode b_M_goAfter 9 = .ok (.iload_n 1, 1) := by decide +kernel
theorem d_M_goAfter_10 : decode b_M_goAfter 10 = .ok (.dup2, 1) := by decide +kernel
theorem d_M_goAfter_11 : decode b_M_goAfter 11 = .ok (.iaload, 1) := by decide +kernel
theorem d_M_goAfter_12 : decode b_M_goAfter 12 = .ok (.iconst 1, 1) := by decide +kernel
theorem d_M_goAfter_13 : decode b_M_goAfter 13 = .ok (.iadd, 1) := by decide +kernel
theorem d_M_goAfter_14 : decode b_M_goAfter 14 = .ok (.iastore, 1) := by decide +kernel
theorem d_M_goAfter_15 : decode b_M_goAfter 15 = .ok (.aload_n 0, 1) := by decide +kernel
theorem d_M_goAfter_16 : decode b_M_goAfter 16 = .ok (.getfield 92, 3) := by decide +kernel
theorem d_M_goAfter_19 : decode b_M_goAfter 19 = .ok (.iload_n 1, 1) := by decide +kernel
theorem d_M_goAfter_20 : decode b_M_goAfter 20 = .ok (.iaload, 1) := by decide +kernel
theorem d_M_goAfter_21 : decode b_M_goAfter 21 = .ok (.bipush 8, 2) := by decide +kernel
theorem d_M_goAfter_23 : decode b_M_goAfter 23 = .ok (.if_icmp .ne 123, 3) := by decide +kernel
theorem d_M_goAfter_26 : decode b_M_goAfter 26 = .ok (.aload_n 0, 1) := by decide +kernel
theorem d_M_goAfter_27 : decode b_M_goAfter 27 = .ok (.iload_n 1, 1) := by decide +kernel
theorem d_M_goAfter_28 : decode b_M_goAfter 28 = .ok (.invokevirtual 133, 3) := by decide +kernel
theorem d_M_goAfter_31 : decode b_M_goAfter 31 = .ok (.goto 115, 3) := by decide +kernel
theorem d_M_goAfter_34 : decode b_M_goAfter 34 = .ok (.aload_n 0, 1) := by decide +kernel
theorem d_M_goAfter_35 : decode b_M_goAfter 35 = .ok (.getfield 92, 3) := by decide +kernel
theorem d_M_goAfter_38 : decode b_M_goAfter 38 = .ok (.iload_n 1, 1) := by decide +kernel
theorem d_M_goAfter_39 : decode b_M_goAfter 39 = .ok (.iaload, 1) := by decide +kernel
theorem d_M_goAfter_40 : decode b_M_goAfter 40 = .ok (.ifCond .le 35, 3) := by decide +kernel
theorem d_M_goAfter_43 : decode b_M_goAfter 43 = .ok (.aload_n 0, 1) := by decide +kernel
theorem d_M_goAfter_44 : decode b_M_goAfter 44 = .ok (.getfield 83, 3) := by decide +kernel
theorem d_M_goAfter_47 : decode b_M_goAfter 47 = .ok (.iload_n 1, 1) := by decide +kernel
theorem d_M_goAfter_48 : decode b_M_goAfter 48 = .ok (.iaload, 1) := by decide +kernel
theorem d_M_goAfter_49 : decode b_M_goAfter 49 = .ok (.ifCond .ne 11, 3) := by decide +kernel
theorem d_M_goAfter_52 : decode b_M_goAfter 52 = .ok (.aload_n 0, 1) := by decide +kernel
theorem d_M_goAfter_53 : decode b_M_goAfter 53 = .ok (.iload_n 1, 1) := by decide +kernel
theorem d_M_goAfter_54 : decode b_M_goAfter 54 = .ok (.invokevirtual 137, 3) := by decide +kernel
theorem d_M_goAfter_57 : decode b_M_goAfter 57 = .ok (.goto 89, 3) := by decide +kernel
theorem d_M_goAfter_60 : decode b_M_goAfter 60 = .ok (.aload_n 0, 1) := by decide +kernel
theorem d_M_goAfter_61 : decode b_M_goAfter 61 = .ok (.iload_n 1, 1) := by decide +kernel
theorem d_M_goAfter_62 : decode b_M_goAfter 62 = .ok (.iconst 4, 1) := by decide +kernel
theorem d_M_goAfter_63 : decode b_M_goAfter 63 = .ok (.aload_n 0, 1) := by decide +kernel
theorem d_M_goAfter_64 : decode b_M_goAfter 64 = .ok (.getfield 83, 3) := by decide +kernel
theorem d_M_goAfter_67 : decode b_M_goAfter 67 = .ok (.iload_n 1, 1) := by decide +kernel
theorem d_M_goAfter_68 : decode b_M_goAfter 68 = .ok (.iaload, 1) := by decide +kernel
theorem d_M_goAfter_69 : decode b_M_goAfter 69 = .ok (.invokevirtual 143, 3) := by decide +kernel
theorem d_M_goAfter_72 : decode b_M_goAfter 72 = .ok (.goto 74, 3) := by decide +kernel
theorem d_M_goAfter_75 : decode b_M_goAfter 75 = .ok (.aload_n 0, 1) := by decide +kernel
theorem d_M_goAfter_76 : decode b_M_goAfter 76 = .ok (.getfield 89, 3) := by decide +kernel
theorem d_M_goAfter_79 : decode b_M_goAfter 79 = .ok (.iload_n 1, 1) := by decide +kernel
theorem d_M_goAfter_80 : decode b_M_goAfter 80 = .ok (.dup2, 1) := by decide +kernel
theorem d_M_goAfter_81 : decode b_M_goAfter 81 = .ok (.iaload, 1) := by decide +kernel
theorem d_M_goAfter_82 : decode b_M_goAfter 82 = .ok (.iconst 1, 1) := by decide +kernel
theorem d_M_goAfter_83 : decode b_M_goAfter 83 = .ok (.iadd, 1) := by decide +kernel
theorem d_M_goAfter_84 : decode b_M_goAfter 84 = .ok (.iastore, 1) := by decide +kernel
theorem d_M_goAfter_85 : decode b_M_goAfter 85 = .ok (.aload_n 0, 1) := by decide +kernel
theorem d_M_goAfter_86 : decode b_M_goAfter 86 = .ok (.getfield 26, 3) := by decide +kernel
theorem d_M_goAfter_89 : decode b_M_goAfter 89 = .ok (.iload_n 1, 1) := by decide +kernel
theorem d_M_goAfter_90 : decode b_M_goAfter 90 = .ok (.dup2, 1) := by decide +kernel
theorem d_M_goAfter_91 : decode b_M_goAfter 91 = .ok (.iaload, 1) := by decide +kernel
theorem d_M_goAfter_92 : decode b_M_goAfter 92 = .ok (.aload_n 0, 1) := by decide +kernel
theorem d_M_goAfter_93 : decode b_M_goAfter 93 = .ok (.getfield 89, 3) := by decide +kernel
theorem d_M_goAfter_96 : decode b_M_goAfter 96 = .ok (.iload_n 1, 1) := by decide +kernel
theorem d_M_goAfter_97 : decode b_M_goAfter 97 = .ok (.iaload, 1) := by decide +kernel
theorem d_M_goAfter_98 : decode b_M_goAfter 98 = .ok (.iconst 1, 1) := by decide +kernel
theorem d_M_goAfter_99 : decode b_M_goAfter 99 = .ok (.if_icmp .ne 18, 3) := by decide +kernel
theorem d_M_goAfter_102 : decode b_M_goAfter 102 = .ok (.aload_n 0, 1) := by decide +kernel
theorem d_M_goAfter_103 : decode b_M_goAfter 103 = .ok (.getfield 83, 3) := by decide +kernel
theorem d_M_goAfter_106 : decode b_M_goAfter 106 = .ok (.iload_n 1, 1) := by decide +kernel
theorem d_M_goAfter_107 : decode b_M_goAfter 107 = .ok (.iaload, 1) := by decide +kernel
theorem d_M_goAfter_108 : decode b_M_goAfter 108 = .ok (.iconst 2, 1) := by decide +kernel
theorem d_M_goAfter_109 : decode b_M_goAfter 109 = .ok (.if_icmp .ne 8, 3) := by decide +kernel
theorem d_M_goAfter_112 : decode b_M_goAfter 112 = .ok (.bipush 8, 2) := by decide +kernel
theorem d_M_goAfter_114 : decode b_M_goAfter 114 = .ok (.goto 4, 3) := by decide +kernel
theorem d_M_goAfter_117 : decode b_M_goAfter 117 = .ok (.iconst 0, 1) := by decide +kernel
theorem d_M_goAfter_118 : decode b_M_goAfter 118 = .ok (.iadd, 1) := by decide +kernel
theorem d_M_goAfter_119 : decode b_M_goAfter 119 = .ok (.iastore, 1) := by decide +kernel
theorem d_M_goAfter_120 : decode b_M_goAfter 120 = .ok (.aload_n 0, 1) := by decide +kernel
theorem d_M_goAfter_121 : decode b_M_goAfter 121 = .ok (.getfield 89, 3) := by decide +kernel
theorem d_M_goAfter_124 : decode b_M_goAfter 124 = .ok (.iload_n 1, 1) := by decide +kernel
theorem d_M_goAfter_125 : decode b_M_goAfter 125 = .ok (.iaload, 1) := by decide +kernel
theorem d_M_goAfter_126 : decode b_M_goAfter 126 = .ok (.bipush 8, 2) := by decide +kernel
theorem d_M_goAfter_128 : decode b_M_goAfter 128 = .ok (.irem, 1) := by decide +kernel
theorem d_M_goAfter_129 : decode b_M_goAfter 129 = .ok (.ifCond .ne 15, 3) := by decide +kernel
theorem d_M_goAfter_132 : decode b_M_goAfter 132 = .ok (.aload_n 0, 1) := by decide +kernel
theorem d_M_goAfter_133 : decode b_M_goAfter 133 = .ok (.iload_n 1, 1) := by decide +kernel
theorem d_M_goAfter_134 : decode b_M_goAfter 134 = .ok (.invokevirtual 157, 3) := by decide +kernel
theorem d_M_goAfter_137 : decode b_M_goAfter 137 = .ok (.ifCond .eq 7, 3) := by decide +kernel
theorem d_M_goAfter_140 : decode b_M_goAfter 140 = .ok (.iconst 1, 1) := by decide +kernel
theorem d_M_goAfter_141 : decode b_M_goAfter 141 = .ok (.goto 4, 3) := by decide +kernel
theorem d_M_goAfter_144 : decode b_M_goAfter 144 = .ok (.iconst 0, 1) := by decide +kernel
theorem d_M_goAfter_145 : decode b_M_goAfter 145 = .ok (.istore_n 3, 1) := by decide +kernel
theorem d_M_goAfter_146 : decode b_M_goAfter 146 = .ok (.return_, 1) := by decide +kernel
theorem d_M_pausing_0 : decode b_M_pausing 0 = .ok (.aload_n 0, 1) := by decide +kernel
theorem d_M_pausing_1 : decode b_M_pausing 1 = .ok (.getfield 89, 3) := by decide +kernel
theorem d_M_pausing_4 : decode b_M_pausing 4 = .ok (.iload_n 1, 1) := by decide +kernel
theorem d_M_pausing_5 : decode b_M_pausing 5 = .ok (.dup2, 1) := by decide +kernel
theorem d_M_pausing_6 : decode b_M_pausing 6 = .ok (.iaload, 1) := by decide +kernel
theorem d_M_pausing_7 : decode b_M_pausing 7 = .ok (.iconst 1, 1) := by decide +kernel
theorem d_M_pausing_8 : decode b_M_pausing 8 = .ok (.iadd, 1) := by decide +kernel
theorem d_M_pausing_9 : decode b_M_pausing 9 = .ok (.iastore, 1) := by decide +kernel
theorem d_M_pausing_10 : decode b_M_pausing 10 = .ok (.iload_n 2, 1) := by decide +kernel
theorem d_M_pausing_11 : decode b_M_pausing 11 = .ok (.ifCond .ne 29, 3) := by decide +kernel
theorem d_M_pausing_14 : decode b_M_pausing 14 = .ok (.aload_n 0, 1) := by decide +kernel
theorem d_M_pausing_15 : decode b_M_pausing 15 = .ok (.getfield 89, 3) := by decide +kernel
theorem d_M_pausing_18 : decode b_M_pausing 18 = .ok (.iload_n 1, 1) := by decide +kernel
theorem d_M_pausing_19 : decode b_M_pausing 19 = .ok (.iaload, 1) := by decide +kernel
theorem d_M_pausing_20 : decode b_M_pausing 20 = .ok (.iconst 3, 1) := by decide +kernel
theorem d_M_pausing_21 : decode b_M_pausing 21 = .ok (.if_icmp .ge 11, 3) := by decide +kernel
theorem d_M_pausing_24 : decode b_M_pausing 24 = .ok (.aload_n 0, 1) := by decide +kernel
theorem d_M_pausing_25 : decode b_M_pausing 25 = .ok (.iload_n 1, 1) := by decide +kernel
theorem d_M_pausing_26 : decode b_M_pausing 26 = .ok (.invokevirtual 137, 3) := by decide +kernel
theorem d_M_pausing_29 : decode b_M_pausing 29 = .ok (.goto 58, 3) := by decide +kernel
theorem d_M_pausing_32 : decode b_M_pausing 32 = .ok (.aload_n 0, 1) := by decide +kernel
theorem d_M_pausing_33 : decode b_M_pausing 33 = .ok (.iload_n 1, 1) := by decide +kernel
theorem d_M_pausing_34 : decode b_M_pausing 34 = .ok (.invokevirtual 160, 3) := by decide +kernel
theorem d_M_pausing_37 : decode b_M_pausing 37 = .ok (.goto 50, 3) := by decide +kernel
theorem d_M_pausing_40 : decode b_M_pausing 40 = .ok (.aload_n 0, 1) := by decide +kernel
theorem d_M_pausing_41 : decode b_M_pausing 41 = .ok (.getfield 89, 3) := by decide +kernel
theorem d_M_pausing_44 : decode b_M_pausing 44 = .ok (.iload_n 1, 1) := by decide +kernel
theorem d_M_pausing_45 : decode b_M_pausing 45 = .ok (.iaload, 1) := by decide +kernel
theorem d_M_pausing_46 : decode b_M_pausing 46 = .ok (.iconst 3, 1) := by decide +kernel
theorem d_M_pausing_47 : decode b_M_pausing 47 = .ok (.if_icmp .ne 40, 3) := by decide +kernel
theorem d_M_pausing_50 : decode b_M_pausing 50 = .ok (.aload_n 0, 1) := by decide +kernel
theorem d_M_pausing_51 : decode b_M_pausing 51 = .ok (.getfield 20, 3) := by decide +kernel
theorem d_M_pausing_54 : decode b_M_pausing 54 = .ok (.iload_n 1, 1) := by decide +kernel
theorem d_M_pausing_55 : decode b_M_pausing 55 = .ok (.aload_n 0, 1) := by decide +kernel
theorem d_M_pausing_56 : decode b_M_pausing 56 = .ok (.iload_n 1, 1) := by decide +kernel
theorem d_M_pausing_57 : decode b_M_pausing 57 = .ok (.invokevirtual 123, 3) := by decide +kernel
theorem d_M_pausing_60 : decode b_M_pausing 60 = .ok (.ifCond .eq 18, 3) := by decide +kernel
theorem d_M_pausing_63 : decode b_M_pausing 63 = .ok (.aload_n 0, 1) := by decide +kernel
theorem d_M_pausing_64 : decode b_M_pausing 64 = .ok (.getfield 95, 3) := by decide +kernel
theorem d_M_pausing_67 : decode b_M_pausing 67 = .ok (.iload_n 1, 1) := by decide +kernel
theorem d_M_pausing_68 : decode b_M_pausing 68 = .ok (.iaload, 1) := by decide +kernel
theorem d_M_pausing_69 : decode b_M_pausing 69 = .ok (.iconst 1, 1) := by decide +kernel
theorem d_M_pausing_70 : decode b_M_pausing 70 = .ok (.if_icmp .ne 8, 3) := by decide +kernel
theorem d_M_pausing_73 : decode b_M_pausing 73 = .ok (.bipush 6, 2) := by decide +kernel
theorem d_M_pausing_75 : decode b_M_pausing 75 = .ok (.goto 4, 3) := by decide +kernel
theorem d_M_pausing_78 : decode b_M_pausing 78 = .ok (.iconst 0, 1) := by decide +kernel
theorem d_M_pausing_79 : decode b_M_pausing 79 = .ok (.iastore, 1) := by decide +kernel
theorem d_M_pausing_80 : decode b_M_pausing 80 = .ok (.aload_n 0, 1) := by decide +kernel
theorem d_M_pausing_81 : decode b_M_pausing 81 = .ok (.getfield 89, 3) := by decide +kernel
theorem d_M_pausing_84 : decode b_M_pausing 84 = .ok (.iload_n 1, 1) := by decide +kernel
theorem d_M_pausing_85 : decode b_M_pausing 85 = .ok (.iconst 0, 1) := by decide +kernel
theorem d_M_pausing_86 : decode b_M_pausing 86 = .ok (.iastore, 1) := by decide +kernel
theorem d_M_pausing_87 : decode b_M_pausing 87 = .ok (.return_, 1) := by decide +kernel
theorem d_M_start_0 : decode b_M_start 0 = .ok (.aload_n 0, 1) := by decide +kernel
theorem d_M_start_1 : decode b_M_start 1 = .ok (.iload_n 1, 1) := by decide +kernel
theorem d_M_start_2 : decode b_M_start 2 = .ok (.iconst 2, 1) := by decide +kernel
theorem d_M_start_3 : decode b_M_start 3 = .ok (.invokevirtual 112, 3) := by decide +kernel
theorem d_M_start_6 : decode b_M_start 6 = .ok (.aload_n 0, 1) := by decide +kernel
theorem d_M_start_7 : decode b_M_start 7 = .ok (.iload_n 1, 1) := by decide +kernel
theorem d_M_start_8 : decode b_M_start 8 = .ok (.iconst 0, 1) := by decide +kernel
theorem d_M_start_9 : decode b_M_start 9 = .ok (.invokevirtual 140, 3) := by decide +kernel
theorem d_M_start_12 : decode b_M_start 12 = .ok (.return_, 1) := by decide +kernel
theorem d_M_offTime_0 : decode b_M_offTime 0 = .ok (.aload_n 0, 1) := by decide +kernel
theorem d_M_offTime_1 : decode b_M_offTime 1 = .ok (.getfield 92, 3) := by decide +kernel
theorem d_M_offTime_4 : decode b_M_offTime 4 = .ok (.iload_n 1, 1) := by decide +kernel
theorem d_M_offTime_5 : decode b_M_offTime 5 = .ok (.iload_n 2, 1) := by decide +kernel
theorem d_M_offTime_6 : decode b_M_offTime 6 = .ok (.iconst 1, 1) := by decide +kernel
theorem d_M_offTime_7 : decode b_M_offTime 7 = .ok (.if_icmp .ne 14, 3) := by decide +kernel
theorem d_M_offTime_10 : decode b_M_offTime 10 = .ok (.aload_n 0, 1) := by decide +kernel
theorem d_M_offTime_11 : decode b_M_offTime 11 = .ok (.getfield 92, 3) := by decide +kernel
theorem d_M_offTime_14 : decode b_M_offTime 14 = .ok (.iload_n 1, 1) := by decide +kernel
theorem d_M_offTime_15 : decode b_M_offTime 15 = .ok (.iaload, 1) := by decide +kernel
theorem d_M_offTime_16 : decode b_M_offTime 16 = .ok (.iconst 1, 1) := by decide +kernel
theorem d_M_offTime_17 : decode b_M_offTime 17 = .ok (.iadd, 1) := by decide +kernel
theorem d_M_offTime_18 : decode b_M_offTime 18 = .ok (.goto 4, 3) := by decide +kernel
theorem d_M_offTime_21 : decode b_M_offTime 21 = .ok (.iconst 0, 1) := by decide +kernel
theorem d_M_offTime_22 : decode b_M_offTime 22 = .ok (.iastore, 1) := by decide +kernel
theorem d_M_offTime_23 : decode b_M_offTime 23 = .ok (.aload_n 0, 1) := by decide +kernel
theorem d_M_offTime_24 : decode b_M_offTime 24 = .ok (.getfield 92, 3) := by decide +kernel
theorem d_M_offTime_27 : decode b_M_offTime 27 = .ok (.iload_n 1, 1) := by decide +kernel
theorem d_M_offTime_28 : decode b_M_offTime 28 = .ok (.iaload, 1) := by decide +kernel
theorem d_M_offTime_29 : decode b_M_offTime 29 = .ok (.bipush 11, 2) := by decide +kernel
theorem d_M_offTime_31 : decode b_M_offTime 31 = .ok (.if_icmp .ne 20, 3) := by decide +kernel
theorem d_M_offTime_34 : decode b_M_offTime 34 = .ok (.aload_n 0, 1) := by decide +kernel
theorem d_M_offTime_35 : decode b_M_offTime 35 = .ok (.getfield 92, 3) := by decide +kernel
theorem d_M_offTime_38 : decode b_M_offTime 38 = .ok (.iload_n 1, 1) := by decide +kernel
theorem d_M_offTime_39 : decode b_M_offTime 39 = .ok (.iconst 0, 1) := by decide +kernel
theorem d_M_offTime_40 : decode b_M_offTime 40 = .ok (.iastore, 1) := by decide +kernel
theorem d_M_offTime_41 : decode b_M_offTime 41 = .ok (.aload_n 0, 1) := by decide +kernel
theorem d_M_offTime_42 : decode b_M_offTime 42 = .ok (.getfield 89, 3) := by decide +kernel
theorem d_M_offTime_45 : decode b_M_offTime 45 = .ok (.iload_n 1, 1) := by decide +kernel
theorem d_M_offTime_46 : decode b_M_offTime 46 = .ok (.dup2, 1) := by decide +kernel
theorem d_M_offTime_47 : decode b_M_offTime 47 = .ok (.iaload, 1) := by decide +kernel
theorem d_M_offTime_48 : decode b_M_offTime 48 = .ok (.iconst 1, 1) := by decide +kernel
theorem d_M_offTime_49 : decode b_M_offTime 49 = .ok (.iadd, 1) := by decide +kernel
theorem d_M_offTime_50 : decode b_M_offTime 50 = .ok (.iastore, 1) := by decide +kernel
theorem d_M_offTime_51 : decode b_M_offTime 51 = .ok (.aload_n 0, 1) := by decide +kernel
theorem d_M_offTime_52 : decode b_M_offTime 52 = .ok (.getfield 89, 3) := by decide +kernel
theorem d_M_offTime_55 : decode b_M_offTime 55 = .ok (.iload_n 1, 1) := by decide +kernel
theorem d_M_offTime_56 : decode b_M_offTime 56 = .ok (.iaload, 1) := by decide +kernel
theorem d_M_offTime_57 : decode b_M_offTime 57 = .ok (.bipush 8, 2) := by decide +kernel
theorem d_M_offTime_59 : decode b_M_offTime 59 = .ok (.if_icmp .ne 31, 3) := by decide +kernel
theorem d_M_offTime_62 : decode b_M_offTime 62 = .ok (.aload_n 0, 1) := by decide +kernel
theorem d_M_offTime_63 : decode b_M_offTime 63 = .ok (.getfield 23, 3) := by decide +kernel
theorem d_M_offTime_66 : decode b_M_offTime 66 = .ok (.iload_n 1, 1) := by decide +kernel
theorem d_M_offTime_67 : decode b_M_offTime 67 = .ok (.iconst 0, 1) := by decide +kernel
theorem d_M_offTime_68 : decode b_M_offTime 68 = .ok (.iastore, 1) := by decide +kernel
theorem d_M_offTime_69 : decode b_M_offTime 69 = .ok (.aload_n 0, 1) := by decide +kernel
theorem d_M_offTime_70 : decode b_M_offTime 70 = .ok (.getfield 26, 3) := by decide +kernel
theorem d_M_offTime_73 : decode b_M_offTime 73 = .ok (.iload_n 1, 1) := by decide +kernel
theorem d_M_offTime_74 : decode b_M_offTime 74 = .ok (.iconst 0, 1) := by decide +kernel
theorem d_M_offTime_75 : decode b_M_offTime 75 = .ok (.iastore, 1) := by decide +kernel
theorem d_M_offTime_76 : decode b_M_offTime 76 = .ok (.aload_n 0, 1) := by decide +kernel
theorem d_M_offTime_77 : decode b_M_offTime 77 = .ok (.getfield 20, 3) := by decide +kernel
theorem d_M_offTime_80 : decode b_M_offTime 80 = .ok (.iload_n 1, 1) := by decide +kernel
theorem d_M_offTime_81 : decode b_M_offTime 81 = .ok (.iconst 0, 1) := by decide +kernel
theorem d_M_offTime_82 : decode b_M_offTime 82 = .ok (.iastore, 1) := by decide +kernel
theorem d_M_offTime_83 : decode b_M_offTime 83 = .ok (.aload_n 0, 1) := by decide +kernel
theorem d_M_offTime_84 : decode b_M_offTime 84 = .ok (.getfield 89, 3) := by decide +kernel
theorem d_M_offTime_87 : decode b_M_offTime 87 = .ok (.iload_n 1, 1) := by decide +kernel
theorem d_M_offTime_88 : decode b_M_offTime 88 = .ok (.iconst 0, 1) := by decide +kernel
theorem d_M_offTime_89 : decode b_M_offTime 89 = .ok (.iastore, 1) := by decide +kernel
theorem d_M_offTime_90 : decode b_M_offTime 90 = .ok (.return_, 1) := by decide +kernel
theorem d_M_level_0 : decode b_M_level 0 = .ok (.aload_n 0, 1) := by decide +kernel
theorem d_M_level_1 : decode b_M_level 1 = .ok (.iconst 0, 1) := by decide +kernel
theorem d_M_level_2 : decode b_M_level 2 = .ok (.putfield 105, 3) := by decide +kernel
theorem d_M_level_5 : decode b_M_level 5 = .ok (.iload_n 1, 1) := by decide +kernel
theorem d_M_level_6 : decode b_M_level 6 = .ok (.ifCond .lt 19, 3) := by decide +kernel
theorem d_M_level_9 : decode b_M_level 9 = .ok (.iload_n 1, 1) := by decide +kernel
theorem d_M_level_10 : decode b_M_level 10 = .ok (.bipush 63, 2) := by decide +kernel
theorem d_M_level_12 : decode b_M_level 12 = .ok (.if_icmp .gt 13, 3) := by decide +kernel
theorem d_M_level_15 : decode b_M_level 15 = .ok (.iload_n 1, 1) := by decide +kernel
theorem d_M_level_16 : decode b_M_level 16 = .ok (.aload_n 0, 1) := by decide +kernel
theorem d_M_level_17 : decode b_M_level 17 = .ok (.getfield 7, 3) := by decide +kernel
theorem d_M_level_20 : decode b_M_level 20 = .ok (.iconst 0, 1) := by decide +kernel
theorem d_M_level_21 : decode b_M_level 21 = .ok (.iaload, 1) := by decide +kernel
theorem d_M_level_22 : decode b_M_level 22 = .ok (.if_icmp .lt 7, 3) := by decide +kernel
theorem d_M_level_25 : decode b_M_level 25 = .ok (.iconst (-1), 1) := by decide +kernel
theorem d_M_level_26 : decode b_M_level 26 = .ok (.goto 19, 3) := by decide +kernel
theorem d_M_level_29 : decode b_M_level 29 = .ok (.aload_n 0, 1) := by decide +kernel
theorem d_M_level_30 : decode b_M_level 30 = .ok (.getfield 13, 3) := by decide +kernel
theorem d_M_level_33 : decode b_M_level 33 = .ok (.aload_n 0, 1) := by decide +kernel
theorem d_M_level_34 : decode b_M_level 34 = .ok (.getfield 7, 3) := by decide +kernel
theorem d_M_level_37 : decode b_M_level 37 = .ok (.iconst 0, 1) := by decide +kernel
theorem d_M_level_38 : decode b_M_level 38 = .ok (.iaload, 1) := by decide +kernel
theorem d_M_level_39 : decode b_M_level 39 = .ok (.iload_n 1, 1) := by decide +kernel
theorem d_M_level_40 : decode b_M_level 40 = .ok (.isub, 1) := by decide +kernel
theorem d_M_level_41 : decode b_M_level 41 = .ok (.bipush 64, 2) := by decide +kernel
theorem d_M_level_43 : decode b_M_level 43 = .ok (.irem, 1) := by decide +kernel
theorem d_M_level_44 : decode b_M_level 44 = .ok (.iaload, 1) := by decide +kernel
theorem d_M_level_45 : decode b_M_level 45 = .ok (.ireturn, 1) := by decide +kernel
theorem d_M_state_0 : decode b_M_state 0 = .ok (.aload_n 0, 1) := by decide +kernel
theorem d_M_state_1 : decode b_M_state 1 = .ok (.aload_n 0, 1) := by decide +kernel
theorem d_M_state_2 : decode b_M_state 2 = .ok (.iload_n 1, 1) := by decide +kernel
theorem d_M_state_3 : decode b_M_state 3 = .ok (.invokevirtual 108, 3) := by decide +kernel
theorem d_M_state_6 : decode b_M_state 6 = .ok (.ifCond .eq 7, 3) := by decide +kernel
theorem d_M_state_9 : decode b_M_state 9 = .ok (.iconst 1, 1) := by decide +kernel
theorem d_M_state_10 : decode b_M_state 10 = .ok (.goto 4, 3) := by decide +kernel
theorem d_M_state_13 : decode b_M_state 13 = .ok (.iconst 0, 1) := by decide +kernel
theorem d_M_state_14 : decode b_M_state 14 = .ok (.putfield 105, 3) := by decide +kernel
theorem d_M_state_17 : decode b_M_state 17 = .ok (.aload_n 0, 1) := by decide +kernel
theorem d_M_state_18 : decode b_M_state 18 = .ok (.getfield 105, 3) := by decide +kernel
theorem d_M_state_21 : decode b_M_state 21 = .ok (.ifCond .ne 12, 3) := by decide +kernel
theorem d_M_state_24 : decode b_M_state 24 = .ok (.aload_n 0, 1) := by decide +kernel
theorem d_M_state_25 : decode b_M_state 25 = .ok (.getfield 20, 3) := by decide +kernel
theorem d_M_state_28 : decode b_M_state 28 = .ok (.iload_n 1, 1) := by decide +kernel
theorem d_M_state_29 : decode b_M_state 29 = .ok (.iaload, 1) := by decide +kernel
theorem d_M_state_30 : decode b_M_state 30 = .ok (.goto 4, 3) := by decide +kernel
theorem d_M_state_33 : decode b_M_state 33 = .ok (.iconst 0, 1) := by decide +kernel
theorem d_M_state_34 : decode b_M_state 34 = .ok (.ireturn, 1) := by decide +kernel
theorem d_M_count_0 : decode b_M_count 0 = .ok (.aload_n 0, 1) := by decide +kernel
theorem d_M_count_1 : decode b_M_count 1 = .ok (.aload_n 0, 1) := by decide +kernel
theorem d_M_count_2 : decode b_M_count 2 = .ok (.iload_n 1, 1) := by decide +kernel
theorem d_M_count_3 : decode b_M_count 3 = .ok (.invokevirtual 108, 3) := by decide +kernel
theorem d_M_count_6 : decode b_M_count 6 = .ok (.ifCond .ne 12, 3) := by decide +kernel
theorem d_M_count_9 : decode b_M_count 9 = .ok (.iload_n 2, 1) := by decide +kernel
theorem d_M_count_10 : decode b_M_count 10 = .ok (.ifCond .lt 8, 3) := by decide +kernel
theorem d_M_count_13 : decode b_M_count 13 = .ok (.iload_n 2, 1) := by decide +kernel
theorem d_M_count_14 : decode b_M_count 14 = .ok (.iconst 4, 1) := by decide +kernel
theorem d_M_count_15 : decode b_M_count 15 = .ok (.if_icmp .le 7, 3) := by decide +kernel
theorem d_M_count_18 : decode b_M_count 18 = .ok (.iconst 1, 1) := by decide +kernel
theorem d_M_count_19 : decode b_M_count 19 = .ok (.goto 4, 3) := by decide +kernel
theorem d_M_count_22 : decode b_M_count 22 = .ok (.iconst 0, 1) := by decide +kernel
theorem d_M_count_23 : decode b_M_count 23 = .ok (.putfield 105, 3) := by decide +kernel
theorem d_M_count_26 : decode b_M_count 26 = .ok (.aload_n 0, 1) := by decide +kernel
theorem d_M_count_27 : decode b_M_count 27 = .ok (.getfield 105, 3) := by decide +kernel
theorem d_M_count_30 : decode b_M_count 30 = .ok (.ifCond .eq 5, 3) := by decide +kernel
theorem d_M_count_33 : decode b_M_count 33 = .ok (.iconst 0, 1) := by decide +kernel
theorem d_M_count_34 : decode b_M_count 34 = .ok (.ireturn, 1) := by decide +kernel
theorem d_M_count_35 : decode b_M_count 35 = .ok (.iload_n 2, 1) := by decide +kernel
theorem d_M_count_36 : decode b_M_count 36 = .ok (.ifCond .ne 12, 3) := by decide +kernel
theorem d_M_count_39 : decode b_M_count 39 = .ok (.aload_n 0, 1) := by decide +kernel
theorem d_M_count_40 : decode b_M_count 40 = .ok (.getfield 23, 3) := by decide +kernel
theorem d_M_count_43 : decode b_M_count 43 = .ok (.iload_n 1, 1) := by decide +kernel
theorem d_M_count_44 : decode b_M_count 44 = .ok (.iaload, 1) := by decide +kernel
theorem d_M_count_45 : decode b_M_count 45 = .ok (.goto 51, 3) := by decide +kernel
theorem d_M_count_48 : decode b_M_count 48 = .ok (.iload_n 2, 1) := by decide +kernel
theorem d_M_count_49 : decode b_M_count 49 = .ok (.iconst 1, 1) := by decide +kernel
theorem d_M_count_50 : decode b_M_count 50 = .ok (.if_icmp .ne 12, 3) := by decide +kernel
theorem d_M_count_53 : decode b_M_count 53 = .ok (.aload_n 0, 1) := by decide +kernel
theorem d_M_count_54 : decode b_M_count 54 = .ok (.getfield 26, 3) := by decide +kernel
theorem d_M_count_57 : decode b_M_count 57 = .ok (.iload_n 1, 1) := by decide +kernel
theorem d_M_count_58 : decode b_M_count 58 = .ok (.iaload, 1) := by decide +kernel
theorem d_M_count_59 : decode b_M_count 59 = .ok (.goto 37, 3) := by decide +kernel
theorem d_M_count_62 : decode b_M_count 62 = .ok (.iload_n 2, 1) := by decide +kernel
theorem d_M_count_63 : decode b_M_count 63 = .ok (.iconst 2, 1) := by decide +kernel
theorem d_M_count_64 : decode b_M_count 64 = .ok (.if_icmp .ne 12, 3) := by decide +kernel
theorem d_M_count_67 : decode b_M_count 67 = .ok (.aload_n 0, 1) := by decide +kernel
theorem d_M_count_68 : decode b_M_count 68 = .ok (.getfield 38, 3) := by decide +kernel
theorem d_M_count_71 : decode b_M_count 71 = .ok (.iload_n 1, 1) := by decide +kernel
theorem d_M_count_72 : decode b_M_count 72 = .ok (.iaload, 1) := by decide +kernel
theorem d_M_count_73 : decode b_M_count 73 = .ok (.goto 23, 3) := by decide +kernel
theorem d_M_count_76 : decode b_M_count 76 = .ok (.iload_n 2, 1) := by decide +kernel
theorem d_M_count_77 : decode b_M_count 77 = .ok (.iconst 3, 1) := by decide +kernel
theorem d_M_count_78 : decode b_M_count 78 = .ok (.if_icmp .ne 12, 3) := by decide +kernel
theorem d_M_count_81 : decode b_M_count 81 = .ok (.aload_n 0, 1) := by decide +kernel
theorem d_M_count_82 : decode b_M_count 82 = .ok (.getfield 53, 3) := by decide +kernel
theorem d_M_count_85 : decode b_M_count 85 = .ok (.iload_n 1, 1) := by decide +kernel
theorem d_M_count_86 : decode b_M_count 86 = .ok (.iaload, 1) := by decide +kernel
theorem d_M_count_87 : decode b_M_count 87 = .ok (.goto 9, 3) := by decide +kernel
theorem d_M_count_90 : decode b_M_count 90 = .ok (.aload_n 0, 1) := by decide +kernel
theorem d_M_count_91 : decode b_M_count 91 = .ok (.getfield 35, 3) := by decide +kernel
theorem d_M_count_94 : decode b_M_count 94 = .ok (.iload_n 1, 1) := by decide +kernel
theorem d_M_count_95 : decode b_M_count 95 = .ok (.iaload, 1) := by decide +kernel
theorem d_M_count_96 : decode b_M_count 96 = .ok (.ireturn, 1) := by decide +kernel
theorem d_M_take_0 : decode b_M_take 0 = .ok (.aload_n 0, 1) := by decide +kernel
theorem d_M_take_1 : decode b_M_take 1 = .ok (.aload_n 0, 1) := by decide +kernel
theorem d_M_take_2 : decode b_M_take 2 = .ok (.iload_n 1, 1) := by decide +kernel
theorem d_M_take_3 : decode b_M_take 3 = .ok (.invokevirtual 108, 3) := by decide +kernel
theorem d_M_take_6 : decode b_M_take 6 = .ok (.ifCond .eq 7, 3) := by decide +kernel
theorem d_M_take_9 : decode b_M_take 9 = .ok (.iconst 1, 1) := by decide +kernel
theorem d_M_take_10 : decode b_M_take 10 = .ok (.goto 17, 3) := by decide +kernel
theorem d_M_take_13 : decode b_M_take 13 = .ok (.aload_n 0, 1) := by decide +kernel
theorem d_M_take_14 : decode b_M_take 14 = .ok (.getfield 53, 3) := by decide +kernel
theorem d_M_take_17 : decode b_M_take 17 = .ok (.iload_n 1, 1) := by decide +kernel
theorem d_M_take_18 : decode b_M_take 18 = .ok (.iaload, 1) := by decide +kernel
theorem d_M_take_19 : decode b_M_take 19 = .ok (.ifCond .ne 7, 3) := by decide +kernel
theorem d_M_take_22 : decode b_M_take 22 = .ok (.iconst 2, 1) := by decide +kernel
theorem d_M_take_23 : decode b_M_take 23 = .ok (.goto 4, 3) := by decide +kernel
theorem d_M_take_26 : decode b_M_take 26 = .ok (.iconst 0, 1) := by decide +kernel
theorem d_M_take_27 : decode b_M_take 27 = .ok (.putfield 105, 3) := by decide +kernel
theorem d_M_take_30 : decode b_M_take 30 = .ok (.aload_n 0, 1) := by decide +kernel
theorem d_M_take_31 : decode b_M_take 31 = .ok (.getfield 105, 3) := by decide +kernel
theorem d_M_take_34 : decode b_M_take 34 = .ok (.ifCond .eq 5, 3) := by decide +kernel
theorem d_M_take_37 : decode b_M_take 37 = .ok (.iconst 0, 1) := by decide +kernel
theorem d_M_take_38 : decode b_M_take 38 = .ok (.ireturn, 1) := by decide +kernel
theorem d_M_take_39 : decode b_M_take 39 = .ok (.aload_n 0, 1) := by decide +kernel
theorem d_M_take_40 : decode b_M_take 40 = .ok (.getfield 56, 3) := by decide +kernel
theorem d_M_take_43 : decode b_M_take 43 = .ok (.iconst 4, 1) := by decide +kernel
theorem d_M_take_44 : decode b_M_take 44 = .ok (.iload_n 1, 1) := by decide +kernel
theorem d_M_take_45 : decode b_M_take 45 = .ok (.imul, 1) := by decide +kernel
theorem d_M_take_46 : decode b_M_take 46 = .ok (.iaload, 1) := by decide +kernel
theorem d_M_take_47 : decode b_M_take 47 = .ok (.istore_n 2, 1) := by decide +kernel
theorem d_M_take_48 : decode b_M_take 48 = .ok (.aload_n 0, 1) := by decide +kernel
theorem d_M_take_49 : decode b_M_take 49 = .ok (.getfield 53, 3) := by decide +kernel
theorem d_M_take_52 : decode b_M_take 52 = .ok (.iload_n 1, 1) := by decide +kernel
theorem d_M_take_53 : decode b_M_take 53 = .ok (.dup2, 1) := by decide +kernel
theorem d_M_take_54 : decode b_M_take 54 = .ok (.iaload, 1) := by decide +kernel
theorem d_M_take_55 : decode b_M_take 55 = .ok (.iconst 1, 1) := by decide +kernel
theorem d_M_take_56 : decode b_M_take 56 = .ok (.isub, 1) := by decide +kernel
theorem d_M_take_57 : decode b_M_take 57 = .ok (.iastore, 1) := by decide +kernel
theorem d_M_take_58 : decode b_M_take 58 = .ok (.iconst 4, 1) := by decide +kernel
theorem d_M_take_59 : decode b_M_take 59 = .ok (.iload_n 1, 1) := by decide +kernel
theorem d_M_take_60 : decode b_M_take 60 = .ok (.imul, 1) := by decide +kernel
theorem d_M_take_61 : decode b_M_take 61 = .ok (.istore_n 3, 1) := by decide +kernel
theorem d_M_take_62 : decode b_M_take 62 = .ok (.iload_n 3, 1) := by decide +kernel
theorem d_M_take_63 : decode b_M_take 63 = .ok (.iconst 4, 1) := by decide +kernel
theorem d_M_take_64 : decode b_M_take 64 = .ok (.iload_n 1, 1) := by decide +kernel
theorem d_M_take_65 : decode b_M_take 65 = .ok (.imul, 1) := by decide +kernel
theorem d_M_take_66 : decode b_M_take 66 = .ok (.aload_n 0, 1) := by decide +kernel
theorem d_M_take_67 : decode b_M_take 67 = .ok (.getfield 53, 3) := by decide +kernel
theorem d_M_take_70 : decode b_M_take 70 = .ok (.iload_n 1, 1) := by decide +kernel
theorem d_M_take_71 : decode b_M_take 71 = .ok (.iaload, 1) := by decide +kernel
theorem d_M_take_72 : decode b_M_take 72 = .ok (.iadd, 1) := by decide +kernel
theorem d_M_take_73 : decode b_M_take 73 = .ok (.if_icmp .ge 23, 3) := by decide +kernel
theorem d_M_take_76 : decode b_M_take 76 = .ok (.aload_n 0, 1) := by decide +kernel
theorem d_M_take_77 : decode b_M_take 77 = .ok (.getfield 56, 3) := by decide +kernel
theorem d_M_take_80 : decode b_M_take 80 = .ok (.iload_n 3, 1) := by decide +kernel
theorem d_M_take_81 : decode b_M_take 81 = .ok (.aload_n 0, 1) := by decide +kernel
theorem d_M_take_82 : decode b_M_take 82 = .ok (.getfield 56, 3) := by decide +kernel
theorem d_M_take_85 : decode b_M_take 85 = .ok (.iload_n 3, 1) := by decide +kernel
theorem d_M_take_86 : decode b_M_take 86 = .ok (.iconst 1, 1) := by decide +kernel
theorem d_M_take_87 : decode b_M_take 87 = .ok (.iadd, 1) := by decide +kernel
theorem d_M_take_88 : decode b_M_take 88 = .ok (.iaload, 1) := by decide +kernel
theorem d_M_take_89 : decode b_M_take 89 = .ok (.iastore, 1) := by decide +kernel
theorem d_M_take_90 : decode b_M_take 90 = .ok (.iinc 3 1, 3) := by decide +kernel
theorem d_M_take_93 : decode b_M_take 93 = .ok (.goto (-31), 3) := by decide +kernel
theorem d_M_take_96 : decode b_M_take 96 = .ok (.iload_n 2, 1) := by decide +kernel
theorem d_M_take_97 : decode b_M_take 97 = .ok (.ireturn, 1) := by decide +kernel
theorem d_M_total_0 : decode b_M_total 0 = .ok (.aload_n 0, 1) := by decide +kernel
theorem d_M_total_1 : decode b_M_total 1 = .ok (.iload_n 1, 1) := by decide +kernel
theorem d_M_total_2 : decode b_M_total 2 = .ok (.ifCond .lt 9, 3) := by decide +kernel
theorem d_M_total_5 : decode b_M_total 5 = .ok (.iload_n 1, 1) := by decide +kernel
theorem d_M_total_6 : decode b_M_total 6 = .ok (.bipush 7, 2) := by decide +kernel
theorem d_M_total_8 : decode b_M_total 8 = .ok (.if_icmp .le 7, 3) := by decide +kernel
theorem d_M_total_11 : decode b_M_total 11 = .ok (.iconst 1, 1) := by decide +kernel
theorem d_M_total_12 : decode b_M_total 12 = .ok (.goto 4, 3) := by decide +kernel
theorem d_M_total_15 : decode b_M_total 15 = .ok (.iconst 0, 1) := by decide +kernel
theorem d_M_total_16 : decode b_M_total 16 = .ok (.putfield 105, 3) := by decide +kernel
theorem d_M_total_19 : decode b_M_total 19 = .ok (.aload_n 0, 1) := by decide +kernel
theorem d_M_total_20 : decode b_M_total 20 = .ok (.getfield 105, 3) := by decide +kernel
theorem d_M_total_23 : decode b_M_total 23 = .ok (.ifCond .ne 12, 3) := by decide +kernel
theorem d_M_total_26 : decode b_M_total 26 = .ok (.aload_n 0, 1) := by decide +kernel
theorem d_M_total_27 : decode b_M_total 27 = .ok (.getfield 7, 3) := by decide +kernel
theorem d_M_total_30 : decode b_M_total 30 = .ok (.iload_n 1, 1) := by decide +kernel
theorem d_M_total_31 : decode b_M_total 31 = .ok (.iaload, 1) := by decide +kernel
theorem d_M_total_32 : decode b_M_total 32 = .ok (.goto 4, 3) := by decide +kernel
theorem d_M_total_35 : decode b_M_total 35 = .ok (.iconst 0, 1) := by decide +kernel
theorem d_M_total_36 : decode b_M_total 36 = .ok (.ireturn, 1) := by decide +kernel
end
section
/-! The leaf constructors: an object at b, its arrays right behind it. -/
abbrev TY (cI cZ cN cJ : ClassId) : List (ClassId × FieldType) := [(cI, .int), (cZ, .boolean), (cN, .object "StrongBus$Node"), (cJ, .long)]
theorem oi_inst : Cond.instanceMethod objectInit ∈ TB := by decide +kernel
set_option maxRecDepth 100000 in
theorem oi_code : Cond.code objectInit ⟨#[0xb1]⟩ 1 none ∈ TB := tb_at 49 rfl rfl
theorem oi_Co : Cond.methodLink R_Co 5 objectInit ∈ TB := by decide +kernel
theorem oi_Di : Cond.methodLink R_Di 3 objectInit ∈ TB := by decide +kernel
theorem oi_Fr : Cond.methodLink R_Fr 3 objectInit ∈ TB := by decide +kernel
theorem oi_No : Cond.methodLink R_No 3 objectInit ∈ TB := by decide +kernel
theorem oi_Re : Cond.methodLink R_Re 3 objectInit ∈ TB := by decide +kernel
theorem oi_X : Cond.methodLink R_X 1 objectInit ∈ TB := by decide +kernel
theorem oi_M : Cond.methodLink R_M 1 objectInit ∈ TB := by decide +kernel
def bk_Fr (cI cZ : ClassId) (b : Nat) : Nat → va_E := fun j => match j with
  | 0 => .inr (2, [.ref (b + 1), .int (0)])
  | _ => .inl (cI, 4, .inl (fun _ => 0))
def bk_Di (cI cZ : ClassId) (b : Nat) : Nat → va_E := fun j => match j with
  | 0 => .inr (1, [.ref (b + 1), .int (0)])
  | _ => .inl (cZ, 201, .inl (fun _ => 0))
def bk_Co (cI cZ : ClassId) (b : Nat) : Nat → va_E := fun j => match j with
  | 0 => .inr (0, [.ref (b + 1), .int (0), .int (0)])
  | _ => .inl (cI, 50, .inl (fun _ => 0))
def bk_Re (cI cZ : ClassId) (b : Nat) : Nat → va_E := fun j => match j with
  | _ => .inr (4, [.int (0), .int (50), .int (1), .int (0), .int (0), .int (0), .int (0), .int (0)])
set_option maxHeartbeats 4000000 in
set_option maxRecDepth 100000 in
theorem c_Fr_init (l : Launch) (D : va_G) (cI cZ cN cJ : ClassId) (lo : Nat) (b : Nat) (hlo : lo ≤ b) : hq_M l y_Fr_init b_Fr_init 1 none TB { frames := 1, cells := 1, slots := 4, locals := 12 } lo D vwCl (TY cI cZ cN cJ) [.ref b] (fun U => U.heap.size = b + 1 ∧ va_at D vwCl (b, .inr (2, [.null, .int (0)])) U.heap) (fun H v H' => v = none ∧ H'.size = b + 2 ∧ hq_B D vwCl b 2 (bk_Fr cI cZ b) H' ∧ hq_O b H H') := by
  refine hq_ofW (by decide) (Nat.le_of_ble_eq_true rfl) ?_
  intro p e s m below meth c ls C hml hret hlk hnm hl hP
  obtain ⟨hz, k0⟩ := hP
  have hL : hq_L lo [] := hq_L0
  have hl : lv_has ls 1 [(0, .ref b)] := hl
  refine lv_aload_n C.1 C.2.1 d_Fr_init_0 rfl (lv_at hl 0 rfl) ?_
  refine W.objInit C.1 C.2.1 C.2.2.1 (C.2.2.2.1 _ oi_Fr) (C.2.2.2.1 _ oi_inst) (C.2.2.2.1 _ oi_code) rfl (by rw [hml]; exact hl.1) rfl d_Fr_init_1 (Nat.le_of_ble_eq_true rfl) (Nat.le_of_ble_eq_true rfl) ?_
  refine W.eq (g2 := F0 m 4 ls []) rfl ?_
  refine lv_aload_n C.1 C.2.1 d_Fr_init_4 rfl (lv_at hl 0 rfl) ?_
  refine lv_iconst (v := 4) C.1 C.2.1 d_Fr_init_5 (by decide) ?_
  refine hq_newa C (by decide +kernel) 0 rfl (a0 := (4, .inl (fun _ => 0))) (N' := 4) (h := b + 1) (by first | rfl | exact vp_cell_i _ _ _) (by decide) (by decide) (by decide) (Nat.le_of_ble_eq_true rfl) (Nat.le_of_ble_eq_true rfl) hz d_Fr_init_6 (fun H1 n2 => ?_)
  have k3 : va_at D vwCl (b + 1, .inl (cI, 4, .inl (fun _ => 0))) H1 := n2.2.2
  have k4 := hq_an k0 n2 (by omega)
  refine hq_putF (lo := lo) C f_Fr_9 hnm (fun r hr => by cases hr; rfl) k4 rfl rfl (Nat.le_of_ble_eq_true rfl) hL (by omega) d_Fr_init_8 (fun H5 locs u6 hL => ?_)
  have k7 : va_at D vwCl (b, .inr (2, [.ref (b + 1), .int (0)])) H5 := u6.2.2
  refine lv_aload_n C.1 C.2.1 d_Fr_init_11 rfl (lv_at hl 0 rfl) ?_
  refine lv_iconst (v := 0) C.1 C.2.1 d_Fr_init_12 (by decide) ?_
  refine hq_put (lo := lo) C f_Fr_15 k7 rfl rfl (Nat.le_of_ble_eq_true rfl) hL (by omega) d_Fr_init_13 (fun H8 locs u9 hL => ?_)
  have k10 : va_at D vwCl (b, .inr (2, [.ref (b + 1), .int (0)])) H8 := u9.2.2
  have hO : hq_O b s.heap H8 := by
    intro q hq
    exact ((u9.2.1 q (by omega)).trans ((u6.2.1 q (by omega)).trans (n2.2.1 q (by omega))))
  have k11 := hq_au (hq_au k3 u6 (by omega)) u9 (by omega)
  have hsz : H8.size = b + 2 := by
    have z_n2 := n2.1
    have z_u6 := u6.1
    have z_u9 := u9.1
    omega
  exact hq_vret C hret hlk (Nat.le_of_ble_eq_true rfl) (Nat.le_of_ble_eq_true rfl) hL ⟨rfl, hsz, hq_Ba (hq_Ba hq_B0 k10) k11, hO⟩ d_Fr_init_16
set_option maxHeartbeats 4000000 in
set_option maxRecDepth 100000 in
theorem c_Di_init (l : Launch) (D : va_G) (cI cZ cN cJ : ClassId) (lo : Nat) (b : Nat) (hlo : lo ≤ b) : hq_M l y_Di_init b_Di_init 1 none TB { frames := 1, cells := 1, slots := 201, locals := 12 } lo D vwCl (TY cI cZ cN cJ) [.ref b] (fun U => U.heap.size = b + 1 ∧ va_at D vwCl (b, .inr (1, [.null, .int (0)])) U.heap) (fun H v H' => v = none ∧ H'.size = b + 2 ∧ hq_B D vwCl b 2 (bk_Di cI cZ b) H' ∧ hq_O b H H') := by
  refine hq_ofW (by decide) (Nat.le_of_ble_eq_true rfl) ?_
  intro p e s m below meth c ls C hml hret hlk hnm hl hP
  obtain ⟨hz, k0⟩ := hP
  have hL : hq_L lo [] := hq_L0
  have hl : lv_has ls 1 [(0, .ref b)] := hl
  refine lv_aload_n C.1 C.2.1 d_Di_init_0 rfl (lv_at hl 0 rfl) ?_
  refine W.objInit C.1 C.2.1 C.2.2.1 (C.2.2.2.1 _ oi_Di) (C.2.2.2.1 _ oi_inst) (C.2.2.2.1 _ oi_code) rfl (by rw [hml]; exact hl.1) rfl d_Di_init_1 (Nat.le_of_ble_eq_true rfl) (Nat.le_of_ble_eq_true rfl) ?_
  refine W.eq (g2 := F0 m 4 ls []) rfl ?_
  refine lv_aload_n C.1 C.2.1 d_Di_init_4 rfl (lv_at hl 0 rfl) ?_
  refine lv_sipush (v := 201) C.1 C.2.1 d_Di_init_5 (by decide) ?_
  refine hq_newa C (by decide +kernel) 1 rfl (a0 := (201, .inl (fun _ => 0))) (N' := 201) (h := b + 1) (by first | rfl | exact vp_cell_i _ _ _) (by decide) (by decide) (by decide) (Nat.le_of_ble_eq_true rfl) (Nat.le_of_ble_eq_true rfl) hz d_Di_init_8 (fun H1 n2 => ?_)
  have k3 : va_at D vwCl (b + 1, .inl (cZ, 201, .inl (fun _ => 0))) H1 := n2.2.2
  have k4 := hq_an k0 n2 (by omega)
  refine hq_putF (lo := lo) C f_Di_9 hnm (fun r hr => by cases hr; rfl) k4 rfl rfl (Nat.le_of_ble_eq_true rfl) hL (by omega) d_Di_init_10 (fun H5 locs u6 hL => ?_)
  have k7 : va_at D vwCl (b, .inr (1, [.ref (b + 1), .int (0)])) H5 := u6.2.2
  refine lv_aload_n C.1 C.2.1 d_Di_init_13 rfl (lv_at hl 0 rfl) ?_
  refine lv_iconst (v := 0) C.1 C.2.1 d_Di_init_14 (by decide) ?_
  refine hq_put (lo := lo) C f_Di_15 k7 rfl rfl (Nat.le_of_ble_eq_true rfl) hL (by omega) d_Di_init_15 (fun H8 locs u9 hL => ?_)
  have k10 : va_at D vwCl (b, .inr (1, [.ref (b + 1), .int (0)])) H8 := u9.2.2
  have hO : hq_O b s.heap H8 := by
    intro q hq
    exact ((u9.2.1 q (by omega)).trans ((u6.2.1 q (by omega)).trans (n2.2.1 q (by omega))))
  have k11 := hq_au (hq_au k3 u6 (by omega)) u9 (by omega)
  have hsz : H8.size = b + 2 := by
    have z_n2 := n2.1
    have z_u6 := u6.1
    have z_u9 := u9.1
    omega
  exact hq_vret C hret hlk (Nat.le_of_ble_eq_true rfl) (Nat.le_of_ble_eq_true rfl) hL ⟨rfl, hsz, hq_Ba (hq_Ba hq_B0 k10) k11, hO⟩ d_Di_init_18
set_option maxHeartbeats 4000000 in
set_option maxRecDepth 100000 in
theorem c_Co_init (l : Launch) (D : va_G) (cI cZ cN cJ : ClassId) (lo : Nat) (b : Nat) (hlo : lo ≤ b) : hq_M l y_Co_init b_Co_init 1 none TB { frames := 1, cells := 1, slots := 50, locals := 12 } lo D vwCl (TY cI cZ cN cJ) [.ref b] (fun U => U.heap.size = b + 1 ∧ va_at D vwCl (b, .inr (0, [.null, .int (0), .int (0)])) U.heap) (fun H v H' => v = none ∧ H'.size = b + 2 ∧ hq_B D vwCl b 2 (bk_Co cI cZ b) H' ∧ hq_O b H H') := by
  refine hq_ofW (by decide) (Nat.le_of_ble_eq_true rfl) ?_
  intro p e s m below meth c ls C hml hret hlk hnm hl hP
  obtain ⟨hz, k0⟩ := hP
  have hL : hq_L lo [] := hq_L0
  have hl : lv_has ls 1 [(0, .ref b)] := hl
  refine lv_aload_n C.1 C.2.1 d_Co_init_0 rfl (lv_at hl 0 rfl) ?_
  refine W.objInit C.1 C.2.1 C.2.2.1 (C.2.2.2.1 _ oi_Co) (C.2.2.2.1 _ oi_inst) (C.2.2.2.1 _ oi_code) rfl (by rw [hml]; exact hl.1) rfl d_Co_init_1 (Nat.le_of_ble_eq_true rfl) (Nat.le_of_ble_eq_true rfl) ?_
  refine W.eq (g2 := F0 m 4 ls []) rfl ?_
  refine lv_aload_n C.1 C.2.1 d_Co_init_4 rfl (lv_at hl 0 rfl) ?_
  refine lv_bipush (v := 50) C.1 C.2.1 d_Co_init_5 (by decide) ?_
  refine hq_newa C (by decide +kernel) 0 rfl (a0 := (50, .inl (fun _ => 0))) (N' := 50) (h := b + 1) (by first | rfl | exact vp_cell_i _ _ _) (by decide) (by decide) (by decide) (Nat.le_of_ble_eq_true rfl) (Nat.le_of_ble_eq_true rfl) hz d_Co_init_7 (fun H1 n2 => ?_)
  have k3 : va_at D vwCl (b + 1, .inl (cI, 50, .inl (fun _ => 0))) H1 := n2.2.2
  have k4 := hq_an k0 n2 (by omega)
  refine hq_putF (lo := lo) C f_Co_11 hnm (fun r hr => by cases hr; rfl) k4 rfl rfl (Nat.le_of_ble_eq_true rfl) hL (by omega) d_Co_init_9 (fun H5 locs u6 hL => ?_)
  have k7 : va_at D vwCl (b, .inr (0, [.ref (b + 1), .int (0), .int (0)])) H5 := u6.2.2
  refine lv_aload_n C.1 C.2.1 d_Co_init_12 rfl (lv_at hl 0 rfl) ?_
  refine lv_iconst (v := 0) C.1 C.2.1 d_Co_init_13 (by decide) ?_
  refine hq_put (lo := lo) C f_Co_15 k7 rfl rfl (Nat.le_of_ble_eq_true rfl) hL (by omega) d_Co_init_14 (fun H8 locs u9 hL => ?_)
  have k10 : va_at D vwCl (b, .inr (0, [.ref (b + 1), .int (0), .int (0)])) H8 := u9.2.2
  refine lv_aload_n C.1 C.2.1 d_Co_init_17 rfl (lv_at hl 0 rfl) ?_
  refine lv_iconst (v := 0) C.1 C.2.1 d_Co_init_18 (by decide) ?_
  refine hq_put (lo := lo) C f_Co_19 k10 rfl rfl (Nat.le_of_ble_eq_true rfl) hL (by omega) d_Co_init_19 (fun H11 locs u12 hL => ?_)
  have k13 : va_at D vwCl (b, .inr (0, [.ref (b + 1), .int (0), .int (0)])) H11 := u12.2.2
  have hO : hq_O b s.heap H11 := by
    intro q hq
    exact ((u12.2.1 q (by omega)).trans ((u9.2.1 q (by omega)).trans ((u6.2.1 q (by omega)).trans (n2.2.1 q (by omega)))))
  have k14 := hq_au (hq_au (hq_au k3 u6 (by omega)) u9 (by omega)) u12 (by omega)
  have hsz : H11.size = b + 2 := by
    have z_n2 := n2.1
    have z_u6 := u6.1
    have z_u9 := u9.1
    have z_u12 := u12.1
    omega
  exact hq_vret C hret hlk (Nat.le_of_ble_eq_true rfl) (Nat.le_of_ble_eq_true rfl) hL ⟨rfl, hsz, hq_Ba (hq_Ba hq_B0 k13) k14, hO⟩ d_Co_init_22
set_option maxHeartbeats 4000000 in
set_option maxRecDepth 100000 in
theorem c_Re_init (l : Launch) (D : va_G) (cI cZ cN cJ : ClassId) (lo : Nat) (b : Nat) (hlo : lo ≤ b) : hq_M l y_Re_init b_Re_init 1 none TB { frames := 1, cells := 0, slots := 0, locals := 12 } lo D vwCl (TY cI cZ cN cJ) [.ref b] (fun U => U.heap.size = b + 1 ∧ va_at D vwCl (b, .inr (4, [.int (0), .int (0), .int (0), .int (0), .int (0), .int (0), .int (0), .int (0)])) U.heap) (fun H v H' => v = none ∧ H'.size = b + 1 ∧ hq_B D vwCl b 1 (bk_Re cI cZ b) H' ∧ hq_O b H H') := by
  refine hq_ofW (by decide) (Nat.le_of_ble_eq_true rfl) ?_
  intro p e s m below meth c ls C hml hret hlk hnm hl hP
  obtain ⟨hz, k0⟩ := hP
  have hL : hq_L lo [] := hq_L0
  have hl : lv_has ls 1 [(0, .ref b)] := hl
  refine lv_aload_n C.1 C.2.1 d_Re_init_0 rfl (lv_at hl 0 rfl) ?_
  refine W.objInit C.1 C.2.1 C.2.2.1 (C.2.2.2.1 _ oi_Re) (C.2.2.2.1 _ oi_inst) (C.2.2.2.1 _ oi_code) rfl (by rw [hml]; exact hl.1) rfl d_Re_init_1 (Nat.le_of_ble_eq_true rfl) (Nat.le_of_ble_eq_true rfl) ?_
  refine W.eq (g2 := F0 m 4 ls []) rfl ?_
  refine lv_aload_n C.1 C.2.1 d_Re_init_4 rfl (lv_at hl 0 rfl) ?_
  refine lv_iconst (v := 0) C.1 C.2.1 d_Re_init_5 (by decide) ?_
  refine hq_put (lo := lo) C f_Re_9 k0 rfl rfl (Nat.le_of_ble_eq_true rfl) hL (by omega) d_Re_init_6 (fun H1 locs u2 hL => ?_)
  have k3 : va_at D vwCl (b, .inr (4, [.int (0), .int (0), .int (0), .int (0), .int (0), .int (0), .int (0), .int (0)])) H1 := u2.2.2
  refine lv_aload_n C.1 C.2.1 d_Re_init_9 rfl (lv_at hl 0 rfl) ?_
  refine lv_bipush (v := 50) C.1 C.2.1 d_Re_init_10 (by decide) ?_
  refine hq_put (lo := lo) C f_Re_17 k3 rfl rfl (Nat.le_of_ble_eq_true rfl) hL (by omega) d_Re_init_12 (fun H4 locs u5 hL => ?_)
  have k6 : va_at D vwCl (b, .inr (4, [.int (0), .int (50), .int (0), .int (0), .int (0), .int (0), .int (0), .int (0)])) H4 := u5.2.2
  refine lv_aload_n C.1 C.2.1 d_Re_init_15 rfl (lv_at hl 0 rfl) ?_
  refine lv_iconst (v := 1) C.1 C.2.1 d_Re_init_16 (by decide) ?_
  refine hq_put (lo := lo) C f_Re_20 k6 rfl rfl (Nat.le_of_ble_eq_true rfl) hL (by omega) d_Re_init_17 (fun H7 locs u8 hL => ?_)
  have k9 : va_at D vwCl (b, .inr (4, [.int (0), .int (50), .int (1), .int (0), .int (0), .int (0), .int (0), .int (0)])) H7 := u8.2.2
  refine lv_aload_n C.1 C.2.1 d_Re_init_20 rfl (lv_at hl 0 rfl) ?_
  refine lv_iconst (v := 0) C.1 C.2.1 d_Re_init_21 (by decide) ?_
  refine hq_put (lo := lo) C f_Re_23 k9 rfl rfl (Nat.le_of_ble_eq_true rfl) hL (by omega) d_Re_init_22 (fun H10 locs u11 hL => ?_)
  have k12 : va_at D vwCl (b, .inr (4, [.int (0), .int (50), .int (1), .int (0), .int (0), .int (0), .int (0), .int (0)])) H10 := u11.2.2
  refine lv_aload_n C.1 C.2.1 d_Re_init_25 rfl (lv_at hl 0 rfl) ?_
  refine lv_iconst (v := 0) C.1 C.2.1 d_Re_init_26 (by decide) ?_
  refine hq_put (lo := lo) C f_Re_26 k12 rfl rfl (Nat.le_of_ble_eq_true rfl) hL (by omega) d_Re_init_27 (fun H13 locs u14 hL => ?_)
  have k15 : va_at D vwCl (b, .inr (4, [.int (0), .int (50), .int (1), .int (0), .int (0), .int (0), .int (0), .int (0)])) H13 := u14.2.2
  refine lv_aload_n C.1 C.2.1 d_Re_init_30 rfl (lv_at hl 0 rfl) ?_
  refine lv_iconst (v := 0) C.1 C.2.1 d_Re_init_31 (by decide) ?_
  refine hq_put (lo := lo) C f_Re_29 k15 rfl rfl (Nat.le_of_ble_eq_true rfl) hL (by omega) d_Re_init_32 (fun H16 locs u17 hL => ?_)
  have k18 : va_at D vwCl (b, .inr (4, [.int (0), .int (50), .int (1), .int (0), .int (0), .int (0), .int (0), .int (0)])) H16 := u17.2.2
  refine lv_aload_n C.1 C.2.1 d_Re_init_35 rfl (lv_at hl 0 rfl) ?_
  refine lv_iconst (v := 0) C.1 C.2.1 d_Re_init_36 (by decide) ?_
  refine hq_put (lo := lo) C f_Re_32 k18 rfl rfl (Nat.le_of_ble_eq_true rfl) hL (by omega) d_Re_init_37 (fun H19 locs u20 hL => ?_)
  have k21 : va_at D vwCl (b, .inr (4, [.int (0), .int (50), .int (1), .int (0), .int (0), .int (0), .int (0), .int (0)])) H19 := u20.2.2
  refine lv_aload_n C.1 C.2.1 d_Re_init_40 rfl (lv_at hl 0 rfl) ?_
  refine lv_iconst (v := 0) C.1 C.2.1 d_Re_init_41 (by decide) ?_
  refine hq_put (lo := lo) C f_Re_35 k21 rfl rfl (Nat.le_of_ble_eq_true rfl) hL (by omega) d_Re_init_42 (fun H22 locs u23 hL => ?_)
  have k24 : va_at D vwCl (b, .inr (4, [.int (0), .int (50), .int (1), .int (0), .int (0), .int (0), .int (0), .int (0)])) H22 := u23.2.2
  have hO : hq_O b s.heap H22 := by
    intro q hq
    exact ((u23.2.1 q (by omega)).trans ((u20.2.1 q (by omega)).trans ((u17.2.1 q (by omega)).trans ((u14.2.1 q (by omega)).trans ((u11.2.1 q (by omega)).trans ((u8.2.1 q (by omega)).trans ((u5.2.1 q (by omega)).trans (u2.2.1 q (by omega)))))))))
  have hsz : H22.size = b + 1 := by
    have z_u2 := u2.1
    have z_u5 := u5.1
    have z_u8 := u8.1
    have z_u11 := u11.1
    have z_u14 := u14.1
    have z_u17 := u17.1
    have z_u20 := u20.1
    have z_u23 := u23.1
    omega
  exact hq_vret C hret hlk (Nat.le_of_ble_eq_true rfl) (Nat.le_of_ble_eq_true rfl) hL ⟨rfl, hsz, hq_Ba hq_B0 k24, hO⟩ d_Re_init_45
end
section
/-! A node: ten cells from b on; N: its numbers and those of its parts, R: its four rows. -/
def ndC (cI cZ : ClassId) (b : Nat) (N : Nat → Int32) (R : Nat → Nat → Int32) : Nat → va_E := fun j => match j with
  | 0 => .inr (3, [.ref (b + 1), .ref (b + 3), .ref (b + 5), .ref (b + 7), .ref (b + 9), .int (N 0), .int (N 1), .int (N 2), .int (N 3), .int (N 4), .int (N 5), .int (N 6), .int (N 7), .int (N 8), .int (N 9), .int (N 10), .int (N 11), .int (N 12)])
  | 1 => .inr (2, [.ref (b + 2), .int (N 13)])
  | 2 => .inl (cI, 4, .inl (R 0))
  | 3 => .inr (2, [.ref (b + 4), .int (N 14)])
  | 4 => .inl (cI, 4, .inl (R 1))
  | 5 => .inr (1, [.ref (b + 6), .int (N 15)])
  | 6 => .inl (cZ, 201, .inl (R 2))
  | 7 => .inr (0, [.ref (b + 8), .int (N 16), .int (N 17)])
  | 8 => .inl (cI, 50, .inl (R 3))
  | _ => .inr (4, [.int (N 18), .int (N 19), .int (N 20), .int (N 21), .int (N 22), .int (N 23), .int (N 24), .int (N 25)])
/-- a new node's numbers -/
def N0 : Nat → Int32 := fun k => match k with
  | 8 => 1
  | 19 => 50
  | 20 => 1
  | _ => 0
def R0 : Nat → Nat → Int32 := fun _ _ => 0
/-- the links to nest mates' constructors -/
def hq_NW (U : State) : Prop := va_Nw (.methodLinkNest R_No 11 y_Fr_init R_X) U ∧ va_Nw (.methodLinkNest R_No 23 y_Di_init R_X) U ∧ va_Nw (.methodLinkNest R_No 30 y_Co_init R_X) U ∧ va_Nw (.methodLinkNest R_No 37 y_Re_init R_X) U ∧ va_Nw (.methodLinkNest R_X 31 y_No_init R_X) U
theorem hq_NW.warm {s U : State} (hW : s.WarmedH U.vm) (h : hq_NW s) : hq_NW U := ⟨va_Nw.warmM hW h.1, va_Nw.warmM hW h.2.1, va_Nw.warmM hW h.2.2.1, va_Nw.warmM hW h.2.2.2.1, va_Nw.warmM hW h.2.2.2.2⟩
theorem hq_NW.call {a : Array Value} {U : State} {g : JFrame} {mk : MethodId} (h : hq_NW U) : hq_NW (U.calling g mk a) := ⟨va_Nw.same rfl (rfl : U.vm = (U.calling g mk a).vm) h.1, va_Nw.same rfl (rfl : U.vm = (U.calling g mk a).vm) h.2.1, va_Nw.same rfl (rfl : U.vm = (U.calling g mk a).vm) h.2.2.1, va_Nw.same rfl (rfl : U.vm = (U.calling g mk a).vm) h.2.2.2.1, va_Nw.same rfl (rfl : U.vm = (U.calling g mk a).vm) h.2.2.2.2⟩
set_option maxHeartbeats 4000000 in
set_option maxRecDepth 100000 in
theorem c_No_init (l : Launch) (D : va_G) (cI cZ cN cJ : ClassId) (lo : Nat) (b : Nat) (hlo : lo ≤ b) : hq_M l y_No_init b_No_init 1 none TB { frames := 2, cells := 9, slots := 276, locals := 40 } lo D vwCl (TY cI cZ cN cJ) [.ref b] (fun U => hq_NW U ∧ U.heap.size = b + 1 ∧ va_at D vwCl (b, .inr (3, [.null, .null, .null, .null, .null, .int (0), .int (0), .int (0), .int (0), .int (0), .int (0), .int (0), .int (0), .int (0), .int (0), .int (0), .int (0), .int (0)])) U.heap) (fun H v H' => v = none ∧ H'.size = b + 10 ∧ hq_B D vwCl b 10 (ndC cI cZ b N0 R0) H' ∧ hq_O b H H') := by
  refine hq_ofW (by decide) (Nat.le_of_ble_eq_true rfl) ?_
  intro p e s m below meth c ls C hml hret hlk hnm hl hP
  obtain ⟨⟨w1, w2, w3, w4, w5⟩, hz, k0⟩ := hP
  have hL : hq_L lo [] := hq_L0
  have hl : lv_has ls 1 [(0, .ref b)] := hl
  refine lv_aload_n C.1 C.2.1 d_No_init_0 rfl (lv_at hl 0 rfl) ?_
  refine W.objInit C.1 C.2.1 C.2.2.1 (C.2.2.2.1 _ oi_No) (C.2.2.2.1 _ oi_inst) (C.2.2.2.1 _ oi_code) rfl (by rw [hml]; exact hl.1) rfl d_No_init_1 (Nat.le_of_ble_eq_true rfl) (Nat.le_of_ble_eq_true rfl) ?_
  refine W.eq (g2 := F0 m 4 ls []) rfl ?_
  refine lv_aload_n C.1 C.2.1 d_No_init_4 rfl (lv_at hl 0 rfl) ?_
  refine hq_new C k_Fr (by decide +kernel) (by decide +kernel) (by decide +kernel) (fs := [.null, .int (0)]) (by decide +kernel) (Nat.le_of_ble_eq_true rfl) (Nat.le_of_ble_eq_true rfl) (h := b + 1) hz d_No_init_5 (fun H1 n2 => ?_)
  have k3 : va_at D vwCl (b + 1, .inr (2, [.null, .int (0)])) H1 := n2.2.2
  refine lv_dup C.1 C.2.1 d_No_init_8 rfl ?_
  refine hq_callIN (lo := lo) (As := []) (rest := [.ref (b + 1), .ref (b)]) C tb_good hml Y_No_11 w1 (c_Fr_init l D cI cZ cN cJ lo (b + 1) (by omega)) (fun _ _ _ _ h => h) (fun U hU hW => ⟨by rw [hU]; exact n2.1, by rw [hU]; exact k3⟩) hL hl.1 rfl rfl ⟨⟨Nat.le_of_ble_eq_true rfl, Nat.le_of_ble_eq_true rfl⟩, Nat.le_of_ble_eq_true rfl, Nat.le_of_ble_eq_true rfl⟩ (Nat.le_of_ble_eq_true rfl) d_No_init_9 (fun v H4 locs hp hL => ?_)
  obtain ⟨rfl, z5, B6, o7⟩ := hp
  refine W.eq (g2 := F0 m 12 ls [.ref (b + 1), .ref (b)]) rfl ?_
  have k8 : va_at D vwCl (b + 1, .inr (2, [.ref (b + 2), .int (0)])) H4 := B6 0 (by decide)
  have k9 : va_at D vwCl (b + 2, .inl (cI, 4, .inl (fun _ => 0))) H4 := B6 1 (by decide)
  have k10 := hq_ao (hq_an k0 n2 (by omega)) o7 (by omega)
  refine hq_putF (lo := lo) C f_No_12 hnm (fun r hr => by cases hr; rfl) k10 rfl rfl (Nat.le_of_ble_eq_true rfl) hL (by omega) d_No_init_12 (fun H11 locs u12 hL => ?_)
  have k13 : va_at D vwCl (b, .inr (3, [.ref (b + 1), .null, .null, .null, .null, .int (0), .int (0), .int (0), .int (0), .int (0), .int (0), .int (0), .int (0), .int (0), .int (0), .int (0), .int (0), .int (0)])) H11 := u12.2.2
  have z14 := u12.1
  refine lv_aload_n C.1 C.2.1 d_No_init_15 rfl (lv_at hl 0 rfl) ?_
  refine hq_new C k_Fr (by decide +kernel) (by decide +kernel) (by decide +kernel) (fs := [.null, .int (0)]) (by decide +kernel) (Nat.le_of_ble_eq_true rfl) (Nat.le_of_ble_eq_true rfl) (h := b + 3) (by omega) d_No_init_16 (fun H15 n16 => ?_)
  have k17 : va_at D vwCl (b + 3, .inr (2, [.null, .int (0)])) H15 := n16.2.2
  refine lv_dup C.1 C.2.1 d_No_init_19 rfl ?_
  refine hq_callIN (lo := lo) (As := []) (rest := [.ref (b + 3), .ref (b)]) C tb_good hml Y_No_11 w1 (c_Fr_init l D cI cZ cN cJ lo (b + 3) (by omega)) (fun _ _ _ _ h => h) (fun U hU hW => ⟨by rw [hU]; exact n16.1, by rw [hU]; exact k17⟩) hL hl.1 rfl rfl ⟨⟨Nat.le_of_ble_eq_true rfl, Nat.le_of_ble_eq_true rfl⟩, Nat.le_of_ble_eq_true rfl, Nat.le_of_ble_eq_true rfl⟩ (Nat.le_of_ble_eq_true rfl) d_No_init_20 (fun v H18 locs hp hL => ?_)
  obtain ⟨rfl, z19, B20, o21⟩ := hp
  refine W.eq (g2 := F0 m 23 ls [.ref (b + 3), .ref (b)]) rfl ?_
  have k22 : va_at D vwCl (b + 3, .inr (2, [.ref (b + 4), .int (0)])) H18 := B20 0 (by decide)
  have k23 : va_at D vwCl (b + 4, .inl (cI, 4, .inl (fun _ => 0))) H18 := B20 1 (by decide)
  have k24 := hq_ao (hq_an k13 n16 (by omega)) o21 (by omega)
  refine hq_putF (lo := lo) C f_No_18 hnm (fun r hr => by cases hr; rfl) k24 rfl rfl (Nat.le_of_ble_eq_true rfl) hL (by omega) d_No_init_23 (fun H25 locs u26 hL => ?_)
  have k27 : va_at D vwCl (b, .inr (3, [.ref (b + 1), .ref (b + 3), .null, .null, .null, .int (0), .int (0), .int (0), .int (0), .int (0), .int (0), .int (0), .int (0), .int (0), .int (0), .int (0), .int (0), .int (0)])) H25 := u26.2.2
  have z28 := u26.1
  refine lv_aload_n C.1 C.2.1 d_No_init_26 rfl (lv_at hl 0 rfl) ?_
  refine hq_new C k_Di (by decide +kernel) (by decide +kernel) (by decide +kernel) (fs := [.null, .int (0)]) (by decide +kernel) (Nat.le_of_ble_eq_true rfl) (Nat.le_of_ble_eq_true rfl) (h := b + 5) (by omega) d_No_init_27 (fun H29 n30 => ?_)
  have k31 : va_at D vwCl (b + 5, .inr (1, [.null, .int (0)])) H29 := n30.2.2
  refine lv_dup C.1 C.2.1 d_No_init_30 rfl ?_
  refine hq_callIN (lo := lo) (As := []) (rest := [.ref (b + 5), .ref (b)]) C tb_good hml Y_No_23 w2 (c_Di_init l D cI cZ cN cJ lo (b + 5) (by omega)) (fun _ _ _ _ h => h) (fun U hU hW => ⟨by rw [hU]; exact n30.1, by rw [hU]; exact k31⟩) hL hl.1 rfl rfl ⟨⟨Nat.le_of_ble_eq_true rfl, Nat.le_of_ble_eq_true rfl⟩, Nat.le_of_ble_eq_true rfl, Nat.le_of_ble_eq_true rfl⟩ (Nat.le_of_ble_eq_true rfl) d_No_init_31 (fun v H32 locs hp hL => ?_)
  obtain ⟨rfl, z33, B34, o35⟩ := hp
  refine W.eq (g2 := F0 m 34 ls [.ref (b + 5), .ref (b)]) rfl ?_
  have k36 : va_at D vwCl (b + 5, .inr (1, [.ref (b + 6), .int (0)])) H32 := B34 0 (by decide)
  have k37 : va_at D vwCl (b + 6, .inl (cZ, 201, .inl (fun _ => 0))) H32 := B34 1 (by decide)
  have k38 := hq_ao (hq_an k27 n30 (by omega)) o35 (by omega)
  refine hq_putF (lo := lo) C f_No_24 hnm (fun r hr => by cases hr; rfl) k38 rfl rfl (Nat.le_of_ble_eq_true rfl) hL (by omega) d_No_init_34 (fun H39 locs u40 hL => ?_)
  have k41 : va_at D vwCl (b, .inr (3, [.ref (b + 1), .ref (b + 3), .ref (b + 5), .null, .null, .int (0), .int (0), .int (0), .int (0), .int (0), .int (0), .int (0), .int (0), .int (0), .int (0), .int (0), .int (0), .int (0)])) H39 := u40.2.2
  have z42 := u40.1
  refine lv_aload_n C.1 C.2.1 d_No_init_37 rfl (lv_at hl 0 rfl) ?_
  refine hq_new C k_Co (by decide +kernel) (by decide +kernel) (by decide +kernel) (fs := [.null, .int (0), .int (0)]) (by decide +kernel) (Nat.le_of_ble_eq_true rfl) (Nat.le_of_ble_eq_true rfl) (h := b + 7) (by omega) d_No_init_38 (fun H43 n44 => ?_)
  have k45 : va_at D vwCl (b + 7, .inr (0, [.null, .int (0), .int (0)])) H43 := n44.2.2
  refine lv_dup C.1 C.2.1 d_No_init_41 rfl ?_
  refine hq_callIN (lo := lo) (As := []) (rest := [.ref (b + 7), .ref (b)]) C tb_good hml Y_No_30 w3 (c_Co_init l D cI cZ cN cJ lo (b + 7) (by omega)) (fun _ _ _ _ h => h) (fun U hU hW => ⟨by rw [hU]; exact n44.1, by rw [hU]; exact k45⟩) hL hl.1 rfl rfl ⟨⟨Nat.le_of_ble_eq_true rfl, Nat.le_of_ble_eq_true rfl⟩, Nat.le_of_ble_eq_true rfl, Nat.le_of_ble_eq_true rfl⟩ (Nat.le_of_ble_eq_true rfl) d_No_init_42 (fun v H46 locs hp hL => ?_)
  obtain ⟨rfl, z47, B48, o49⟩ := hp
  refine W.eq (g2 := F0 m 45 ls [.ref (b + 7), .ref (b)]) rfl ?_
  have k50 : va_at D vwCl (b + 7, .inr (0, [.ref (b + 8), .int (0), .int (0)])) H46 := B48 0 (by decide)
  have k51 : va_at D vwCl (b + 8, .inl (cI, 50, .inl (fun _ => 0))) H46 := B48 1 (by decide)
  have k52 := hq_ao (hq_an k41 n44 (by omega)) o49 (by omega)
  refine hq_putF (lo := lo) C f_No_31 hnm (fun r hr => by cases hr; rfl) k52 rfl rfl (Nat.le_of_ble_eq_true rfl) hL (by omega) d_No_init_45 (fun H53 locs u54 hL => ?_)
  have k55 : va_at D vwCl (b, .inr (3, [.ref (b + 1), .ref (b + 3), .ref (b + 5), .ref (b + 7), .null, .int (0), .int (0), .int (0), .int (0), .int (0), .int (0), .int (0), .int (0), .int (0), .int (0), .int (0), .int (0), .int (0)])) H53 := u54.2.2
  have z56 := u54.1
  refine lv_aload_n C.1 C.2.1 d_No_init_48 rfl (lv_at hl 0 rfl) ?_
  refine hq_new C k_Re (by decide +kernel) (by decide +kernel) (by decide +kernel) (fs := [.int (0), .int (0), .int (0), .int (0), .int (0), .int (0), .int (0), .int (0)]) (by decide +kernel) (Nat.le_of_ble_eq_true rfl) (Nat.le_of_ble_eq_true rfl) (h := b + 9) (by omega) d_No_init_49 (fun H57 n58 => ?_)
  have k59 : va_at D vwCl (b + 9, .inr (4, [.int (0), .int (0), .int (0), .int (0), .int (0), .int (0), .int (0), .int (0)])) H57 := n58.2.2
  refine lv_dup C.1 C.2.1 d_No_init_52 rfl ?_
  refine hq_callIN (lo := lo) (As := []) (rest := [.ref (b + 9), .ref (b)]) C tb_good hml Y_No_37 w4 (c_Re_init l D cI cZ cN cJ lo (b + 9) (by omega)) (fun _ _ _ _ h => h) (fun U hU hW => ⟨by rw [hU]; exact n58.1, by rw [hU]; exact k59⟩) hL hl.1 rfl rfl ⟨⟨Nat.le_of_ble_eq_true rfl, Nat.le_of_ble_eq_true rfl⟩, Nat.le_of_ble_eq_true rfl, Nat.le_of_ble_eq_true rfl⟩ (Nat.le_of_ble_eq_true rfl) d_No_init_53 (fun v H60 locs hp hL => ?_)
  obtain ⟨rfl, z61, B62, o63⟩ := hp
  refine W.eq (g2 := F0 m 56 ls [.ref (b + 9), .ref (b)]) rfl ?_
  have k64 : va_at D vwCl (b + 9, .inr (4, [.int (0), .int (50), .int (1), .int (0), .int (0), .int (0), .int (0), .int (0)])) H60 := B62 0 (by decide)
  have k65 := hq_ao (hq_an k55 n58 (by omega)) o63 (by omega)
  refine hq_putF (lo := lo) C f_No_38 hnm (fun r hr => by cases hr; rfl) k65 rfl rfl (Nat.le_of_ble_eq_true rfl) hL (by omega) d_No_init_56 (fun H66 locs u67 hL => ?_)
  have k68 : va_at D vwCl (b, .inr (3, [.ref (b + 1), .ref (b + 3), .ref (b + 5), .ref (b + 7), .ref (b + 9), .int (0), .int (0), .int (0), .int (0), .int (0), .int (0), .int (0), .int (0), .int (0), .int (0), .int (0), .int (0), .int (0)])) H66 := u67.2.2
  have z69 := u67.1
  refine lv_aload_n C.1 C.2.1 d_No_init_59 rfl (lv_at hl 0 rfl) ?_
  refine lv_iconst (v := 0) C.1 C.2.1 d_No_init_60 (by decide) ?_
  refine hq_put (lo := lo) C f_No_42 k68 rfl rfl (Nat.le_of_ble_eq_true rfl) hL (by omega) d_No_init_61 (fun H70 locs u71 hL => ?_)
  have k72 : va_at D vwCl (b, .inr (3, [.ref (b + 1), .ref (b + 3), .ref (b + 5), .ref (b + 7), .ref (b + 9), .int (0), .int (0), .int (0), .int (0), .int (0), .int (0), .int (0), .int (0), .int (0), .int (0), .int (0), .int (0), .int (0)])) H70 := u71.2.2
  refine lv_aload_n C.1 C.2.1 d_No_init_64 rfl (lv_at hl 0 rfl) ?_
  refine lv_iconst (v := 0) C.1 C.2.1 d_No_init_65 (by decide) ?_
  refine hq_put (lo := lo) C f_No_46 k72 rfl rfl (Nat.le_of_ble_eq_true rfl) hL (by omega) d_No_init_66 (fun H73 locs u74 hL => ?_)
  have k75 : va_at D vwCl (b, .inr (3, [.ref (b + 1), .ref (b + 3), .ref (b + 5), .ref (b + 7), .ref (b + 9), .int (0), .int (0), .int (0), .int (0), .int (0), .int (0), .int (0), .int (0), .int (0), .int (0), .int (0), .int (0), .int (0)])) H73 := u74.2.2
  refine lv_aload_n C.1 C.2.1 d_No_init_69 rfl (lv_at hl 0 rfl) ?_
  refine lv_iconst (v := 0) C.1 C.2.1 d_No_init_70 (by decide) ?_
  refine hq_put (lo := lo) C f_No_49 k75 rfl rfl (Nat.le_of_ble_eq_true rfl) hL (by omega) d_No_init_71 (fun H76 locs u77 hL => ?_)
  have k78 : va_at D vwCl (b, .inr (3, [.ref (b + 1), .ref (b + 3), .ref (b + 5), .ref (b + 7), .ref (b + 9), .int (0), .int (0), .int (0), .int (0), .int (0), .int (0), .int (0), .int (0), .int (0), .int (0), .int (0), .int (0), .int (0)])) H76 := u77.2.2
  refine lv_aload_n C.1 C.2.1 d_No_init_74 rfl (lv_at hl 0 rfl) ?_
  refine lv_iconst (v := 0) C.1 C.2.1 d_No_init_75 (by decide) ?_
  refine hq_put (lo := lo) C f_No_52 k78 rfl rfl (Nat.le_of_ble_eq_true rfl) hL (by omega) d_No_init_76 (fun H79 locs u80 hL => ?_)
  have k81 : va_at D vwCl (b, .inr (3, [.ref (b + 1), .ref (b + 3), .ref (b + 5), .ref (b + 7), .ref (b + 9), .int (0), .int (0), .int (0), .int (0), .int (0), .int (0), .int (0), .int (0), .int (0), .int (0), .int (0), .int (0), .int (0)])) H79 := u80.2.2
  refine lv_aload_n C.1 C.2.1 d_No_init_79 rfl (lv_at hl 0 rfl) ?_
  refine lv_iconst (v := 0) C.1 C.2.1 d_No_init_80 (by decide) ?_
  refine hq_put (lo := lo) C f_No_55 k81 rfl rfl (Nat.le_of_ble_eq_true rfl) hL (by omega) d_No_init_81 (fun H82 locs u83 hL => ?_)
  have k84 : va_at D vwCl (b, .inr (3, [.ref (b + 1), .ref (b + 3), .ref (b + 5), .ref (b + 7), .ref (b + 9), .int (0), .int (0), .int (0), .int (0), .int (0), .int (0), .int (0), .int (0), .int (0), .int (0), .int (0), .int (0), .int (0)])) H82 := u83.2.2
  refine lv_aload_n C.1 C.2.1 d_No_init_84 rfl (lv_at hl 0 rfl) ?_
  refine lv_iconst (v := 0) C.1 C.2.1 d_No_init_85 (by decide) ?_
  refine hq_put (lo := lo) C f_No_58 k84 rfl rfl (Nat.le_of_ble_eq_true rfl) hL (by omega) d_No_init_86 (fun H85 locs u86 hL => ?_)
  have k87 : va_at D vwCl (b, .inr (3, [.ref (b + 1), .ref (b + 3), .ref (b + 5), .ref (b + 7), .ref (b + 9), .int (0), .int (0), .int (0), .int (0), .int (0), .int (0), .int (0), .int (0), .int (0), .int (0), .int (0), .int (0), .int (0)])) H85 := u86.2.2
  refine lv_aload_n C.1 C.2.1 d_No_init_89 rfl (lv_at hl 0 rfl) ?_
  refine lv_iconst (v := 0) C.1 C.2.1 d_No_init_90 (by decide) ?_
  refine hq_put (lo := lo) C f_No_61 k87 rfl rfl (Nat.le_of_ble_eq_true rfl) hL (by omega) d_No_init_91 (fun H88 locs u89 hL => ?_)
  have k90 : va_at D vwCl (b, .inr (3, [.ref (b + 1), .ref (b + 3), .ref (b + 5), .ref (b + 7), .ref (b + 9), .int (0), .int (0), .int (0), .int (0), .int (0), .int (0), .int (0), .int (0), .int (0), .int (0), .int (0), .int (0), .int (0)])) H88 := u89.2.2
  refine lv_aload_n C.1 C.2.1 d_No_init_94 rfl (lv_at hl 0 rfl) ?_
  refine lv_iconst (v := 0) C.1 C.2.1 d_No_init_95 (by decide) ?_
  refine hq_put (lo := lo) C f_No_64 k90 rfl rfl (Nat.le_of_ble_eq_true rfl) hL (by omega) d_No_init_96 (fun H91 locs u92 hL => ?_)
  have k93 : va_at D vwCl (b, .inr (3, [.ref (b + 1), .ref (b + 3), .ref (b + 5), .ref (b + 7), .ref (b + 9), .int (0), .int (0), .int (0), .int (0), .int (0), .int (0), .int (0), .int (0), .int (0), .int (0), .int (0), .int (0), .int (0)])) H91 := u92.2.2
  refine lv_aload_n C.1 C.2.1 d_No_init_99 rfl (lv_at hl 0 rfl) ?_
  refine lv_iconst (v := 1) C.1 C.2.1 d_No_init_100 (by decide) ?_
  refine hq_put (lo := lo) C f_No_67 k93 rfl rfl (Nat.le_of_ble_eq_true rfl) hL (by omega) d_No_init_101 (fun H94 locs u95 hL => ?_)
  have k96 : va_at D vwCl (b, .inr (3, [.ref (b + 1), .ref (b + 3), .ref (b + 5), .ref (b + 7), .ref (b + 9), .int (0), .int (0), .int (0), .int (0), .int (0), .int (0), .int (0), .int (0), .int (1), .int (0), .int (0), .int (0), .int (0)])) H94 := u95.2.2
  refine lv_aload_n C.1 C.2.1 d_No_init_104 rfl (lv_at hl 0 rfl) ?_
  refine lv_iconst (v := 0) C.1 C.2.1 d_No_init_105 (by decide) ?_
  refine hq_put (lo := lo) C f_No_70 k96 (by decide) rfl (Nat.le_of_ble_eq_true rfl) hL (by omega) d_No_init_106 (fun H97 locs u98 hL => ?_)
  have k99 : va_at D vwCl (b, .inr (3, [.ref (b + 1), .ref (b + 3), .ref (b + 5), .ref (b + 7), .ref (b + 9), .int (0), .int (0), .int (0), .int (0), .int (0), .int (0), .int (0), .int (0), .int (1), .int (0), .int (0), .int (0), .int (0)])) H97 := u98.2.2
  refine lv_aload_n C.1 C.2.1 d_No_init_109 rfl (lv_at hl 0 rfl) ?_
  refine lv_iconst (v := 0) C.1 C.2.1 d_No_init_110 (by decide) ?_
  refine hq_put (lo := lo) C f_No_74 k99 rfl rfl (Nat.le_of_ble_eq_true rfl) hL (by omega) d_No_init_111 (fun H100 locs u101 hL => ?_)
  have k102 : va_at D vwCl (b, .inr (3, [.ref (b + 1), .ref (b + 3), .ref (b + 5), .ref (b + 7), .ref (b + 9), .int (0), .int (0), .int (0), .int (0), .int (0), .int (0), .int (0), .int (0), .int (1), .int (0), .int (0), .int (0), .int (0)])) H100 := u101.2.2
  refine lv_aload_n C.1 C.2.1 d_No_init_114 rfl (lv_at hl 0 rfl) ?_
  refine lv_iconst (v := 0) C.1 C.2.1 d_No_init_115 (by decide) ?_
  refine hq_put (lo := lo) C f_No_77 k102 rfl rfl (Nat.le_of_ble_eq_true rfl) hL (by omega) d_No_init_116 (fun H103 locs u104 hL => ?_)
  have k105 : va_at D vwCl (b, .inr (3, [.ref (b + 1), .ref (b + 3), .ref (b + 5), .ref (b + 7), .ref (b + 9), .int (0), .int (0), .int (0), .int (0), .int (0), .int (0), .int (0), .int (0), .int (1), .int (0), .int (0), .int (0), .int (0)])) H103 := u104.2.2
  refine lv_aload_n C.1 C.2.1 d_No_init_119 rfl (lv_at hl 0 rfl) ?_
  refine lv_iconst (v := 0) C.1 C.2.1 d_No_init_120 (by decide) ?_
  refine hq_put (lo := lo) C f_No_80 k105 rfl rfl (Nat.le_of_ble_eq_true rfl) hL (by omega) d_No_init_121 (fun H106 locs u107 hL => ?_)
  have k108 : va_at D vwCl (b, .inr (3, [.ref (b + 1), .ref (b + 3), .ref (b + 5), .ref (b + 7), .ref (b + 9), .int (0), .int (0), .int (0), .int (0), .int (0), .int (0), .int (0), .int (0), .int (1), .int (0), .int (0), .int (0), .int (0)])) H106 := u107.2.2
  have hO : hq_O b s.heap H106 := fun q hq => ((u107.2.1 q (by omega)).trans ((u104.2.1 q (by omega)).trans ((u101.2.1 q (by omega)).trans ((u98.2.1 q (by omega)).trans ((u95.2.1 q (by omega)).trans ((u92.2.1 q (by omega)).trans ((u89.2.1 q (by omega)).trans ((u86.2.1 q (by omega)).trans ((u83.2.1 q (by omega)).trans ((u80.2.1 q (by omega)).trans ((u77.2.1 q (by omega)).trans ((u74.2.1 q (by omega)).trans ((u71.2.1 q (by omega)).trans ((u67.2.1 q (by omega)).trans ((o63 q (by omega)).trans ((n58.2.1 q (by omega)).trans ((u54.2.1 q (by omega)).trans ((o49 q (by omega)).trans ((n44.2.1 q (by omega)).trans ((u40.2.1 q (by omega)).trans ((o35 q (by omega)).trans ((n30.2.1 q (by omega)).trans ((u26.2.1 q (by omega)).trans ((o21 q (by omega)).trans ((n16.2.1 q (by omega)).trans ((u12.2.1 q (by omega)).trans ((o7 q (by omega)).trans (n2.2.1 q (by omega)))))))))))))))))))))))))))))
  have hsz : H106.size = b + 10 := by
    have z_n2 := n2.1
    have z_u12 := u12.1
    have z_n16 := n16.1
    have z_u26 := u26.1
    have z_n30 := n30.1
    have z_u40 := u40.1
    have z_n44 := n44.1
    have z_u54 := u54.1
    have z_n58 := n58.1
    have z_u67 := u67.1
    have z_u71 := u71.1
    have z_u74 := u74.1
    have z_u77 := u77.1
    have z_u80 := u80.1
    have z_u83 := u83.1
    have z_u86 := u86.1
    have z_u89 := u89.1
    have z_u92 := u92.1
    have z_u95 := u95.1
    have z_u98 := u98.1
    have z_u101 := u101.1
    have z_u104 := u104.1
    have z_u107 := u107.1
    omega
  have k109 := hq_au (hq_au (hq_au (hq_au (hq_au (hq_au (hq_au (hq_au (hq_au (hq_au (hq_au (hq_au (hq_au (hq_au (hq_ao (hq_an (hq_au (hq_ao (hq_an (hq_au (hq_ao (hq_an (hq_au (hq_ao (hq_an (hq_au k8 u12 (by omega)) n16 (by omega)) o21 (by omega)) u26 (by omega)) n30 (by omega)) o35 (by omega)) u40 (by omega)) n44 (by omega)) o49 (by omega)) u54 (by omega)) n58 (by omega)) o63 (by omega)) u67 (by omega)) u71 (by omega)) u74 (by omega)) u77 (by omega)) u80 (by omega)) u83 (by omega)) u86 (by omega)) u89 (by omega)) u92 (by omega)) u95 (by omega)) u98 (by omega)) u101 (by omega)) u104 (by omega)) u107 (by omega)
  have k110 := hq_au (hq_au (hq_au (hq_au (hq_au (hq_au (hq_au (hq_au (hq_au (hq_au (hq_au (hq_au (hq_au (hq_au (hq_ao (hq_an (hq_au (hq_ao (hq_an (hq_au (hq_ao (hq_an (hq_au (hq_ao (hq_an (hq_au k9 u12 (by omega)) n16 (by omega)) o21 (by omega)) u26 (by omega)) n30 (by omega)) o35 (by omega)) u40 (by omega)) n44 (by omega)) o49 (by omega)) u54 (by omega)) n58 (by omega)) o63 (by omega)) u67 (by omega)) u71 (by omega)) u74 (by omega)) u77 (by omega)) u80 (by omega)) u83 (by omega)) u86 (by omega)) u89 (by omega)) u92 (by omega)) u95 (by omega)) u98 (by omega)) u101 (by omega)) u104 (by omega)) u107 (by omega)
  have k111 := hq_au (hq_au (hq_au (hq_au (hq_au (hq_au (hq_au (hq_au (hq_au (hq_au (hq_au (hq_au (hq_au (hq_au (hq_ao (hq_an (hq_au (hq_ao (hq_an (hq_au (hq_ao (hq_an (hq_au k22 u26 (by omega)) n30 (by omega)) o35 (by omega)) u40 (by omega)) n44 (by omega)) o49 (by omega)) u54 (by omega)) n58 (by omega)) o63 (by omega)) u67 (by omega)) u71 (by omega)) u74 (by omega)) u77 (by omega)) u80 (by omega)) u83 (by omega)) u86 (by omega)) u89 (by omega)) u92 (by omega)) u95 (by omega)) u98 (by omega)) u101 (by omega)) u104 (by omega)) u107 (by omega)
  have k112 := hq_au (hq_au (hq_au (hq_au (hq_au (hq_au (hq_au (hq_au (hq_au (hq_au (hq_au (hq_au (hq_au (hq_au (hq_ao (hq_an (hq_au (hq_ao (hq_an (hq_au (hq_ao (hq_an (hq_au k23 u26 (by omega)) n30 (by omega)) o35 (by omega)) u40 (by omega)) n44 (by omega)) o49 (by omega)) u54 (by omega)) n58 (by omega)) o63 (by omega)) u67 (by omega)) u71 (by omega)) u74 (by omega)) u77 (by omega)) u80 (by omega)) u83 (by omega)) u86 (by omega)) u89 (by omega)) u92 (by omega)) u95 (by omega)) u98 (by omega)) u101 (by omega)) u104 (by omega)) u107 (by omega)
  have k113 := hq_au (hq_au (hq_au (hq_au (hq_au (hq_au (hq_au (hq_au (hq_au (hq_au (hq_au (hq_au (hq_au (hq_au (hq_ao (hq_an (hq_au (hq_ao (hq_an (hq_au k36 u40 (by omega)) n44 (by omega)) o49 (by omega)) u54 (by omega)) n58 (by omega)) o63 (by omega)) u67 (by omega)) u71 (by omega)) u74 (by omega)) u77 (by omega)) u80 (by omega)) u83 (by omega)) u86 (by omega)) u89 (by omega)) u92 (by omega)) u95 (by omega)) u98 (by omega)) u101 (by omega)) u104 (by omega)) u107 (by omega)
  have k114 := hq_au (hq_au (hq_au (hq_au (hq_au (hq_au (hq_au (hq_au (hq_au (hq_au (hq_au (hq_au (hq_au (hq_au (hq_ao (hq_an (hq_au (hq_ao (hq_an (hq_au k37 u40 (by omega)) n44 (by omega)) o49 (by omega)) u54 (by omega)) n58 (by omega)) o63 (by omega)) u67 (by omega)) u71 (by omega)) u74 (by omega)) u77 (by omega)) u80 (by omega)) u83 (by omega)) u86 (by omega)) u89 (by omega)) u92 (by omega)) u95 (by omega)) u98 (by omega)) u101 (by omega)) u104 (by omega)) u107 (by omega)
  have k115 := hq_au (hq_au (hq_au (hq_au (hq_au (hq_au (hq_au (hq_au (hq_au (hq_au (hq_au (hq_au (hq_au (hq_au (hq_ao (hq_an (hq_au k50 u54 (by omega)) n58 (by omega)) o63 (by omega)) u67 (by omega)) u71 (by omega)) u74 (by omega)) u77 (by omega)) u80 (by omega)) u83 (by omega)) u86 (by omega)) u89 (by omega)) u92 (by omega)) u95 (by omega)) u98 (by omega)) u101 (by omega)) u104 (by omega)) u107 (by omega)
  have k116 := hq_au (hq_au (hq_au (hq_au (hq_au (hq_au (hq_au (hq_au (hq_au (hq_au (hq_au (hq_au (hq_au (hq_au (hq_ao (hq_an (hq_au k51 u54 (by omega)) n58 (by omega)) o63 (by omega)) u67 (by omega)) u71 (by omega)) u74 (by omega)) u77 (by omega)) u80 (by omega)) u83 (by omega)) u86 (by omega)) u89 (by omega)) u92 (by omega)) u95 (by omega)) u98 (by omega)) u101 (by omega)) u104 (by omega)) u107 (by omega)
  have k117 := hq_au (hq_au (hq_au (hq_au (hq_au (hq_au (hq_au (hq_au (hq_au (hq_au (hq_au (hq_au (hq_au (hq_au k64 u67 (by omega)) u71 (by omega)) u74 (by omega)) u77 (by omega)) u80 (by omega)) u83 (by omega)) u86 (by omega)) u89 (by omega)) u92 (by omega)) u95 (by omega)) u98 (by omega)) u101 (by omega)) u104 (by omega)) u107 (by omega)
  exact hq_vret C hret hlk (Nat.le_of_ble_eq_true rfl) (Nat.le_of_ble_eq_true rfl) hL ⟨rfl, hsz, hq_Ba (hq_Ba (hq_Ba (hq_Ba (hq_Ba (hq_Ba (hq_Ba (hq_Ba (hq_Ba (hq_Ba hq_B0 k108) k109) k110) k111) k112) k113) k114) k115) k116) k117, hO⟩ d_No_init_124
end
section
/-! The reference: an object at b, its thirty rows right behind it. -/
def mdC (cI cZ : ClassId) (b : Nat) (th nn : Int32) (A : Nat → Nat → Int32) : Nat → va_E := fun j => match j with
  | 0 => .inr (6, [.int th, .int nn, .ref (b + 1), .ref (b + 2), .ref (b + 3), .ref (b + 4), .ref (b + 5), .ref (b + 6), .ref (b + 7), .ref (b + 8), .ref (b + 9), .ref (b + 10), .ref (b + 11), .ref (b + 12), .ref (b + 13), .ref (b + 14), .ref (b + 15), .ref (b + 16), .ref (b + 17), .ref (b + 18), .ref (b + 19), .ref (b + 20), .ref (b + 21), .ref (b + 22), .ref (b + 23), .ref (b + 24), .ref (b + 25), .ref (b + 26), .ref (b + 27), .ref (b + 28), .ref (b + 29), .ref (b + 30)])
  | 1 => .inl (cI, 8, .inl (A 0))
  | 2 => .inl (cI, 64, .inl (A 1))
  | 3 => .inl (cZ, 1024, .inl (A 2))
  | 4 => .inl (cI, 4, .inl (A 3))
  | 5 => .inl (cI, 4, .inl (A 4))
  | 6 => .inl (cI, 4, .inl (A 5))
  | 7 => .inl (cI, 4, .inl (A 6))
  | 8 => .inl (cI, 4, .inl (A 7))
  | 9 => .inl (cI, 4, .inl (A 8))
  | 10 => .inl (cI, 4, .inl (A 9))
  | 11 => .inl (cI, 16, .inl (A 10))
  | 12 => .inl (cI, 16, .inl (A 11))
  | 13 => .inl (cI, 16, .inl (A 12))
  | 14 => .inl (cI, 4, .inl (A 13))
  | 15 => .inl (cI, 4, .inl (A 14))
  | 16 => .inl (cI, 16, .inl (A 15))
  | 17 => .inl (cI, 4, .inl (A 16))
  | 18 => .inl (cI, 4, .inl (A 17))
  | 19 => .inl (cI, 4, .inl (A 18))
  | 20 => .inl (cI, 4, .inl (A 19))
  | 21 => .inl (cI, 4, .inl (A 20))
  | 22 => .inl (cI, 4, .inl (A 21))
  | 23 => .inl (cI, 4, .inl (A 22))
  | 24 => .inl (cI, 4, .inl (A 23))
  | 25 => .inl (cI, 4, .inl (A 24))
  | 26 => .inl (cZ, 4, .inl (A 25))
  | 27 => .inl (cI, 4, .inl (A 26))
  | 28 => .inl (cI, 4, .inl (A 27))
  | 29 => .inl (cI, 4, .inl (A 28))
  | _ => .inl (cI, 4, .inl (A 29))
/-- the number of nodes that is taken -/
def clip (x : Int32) : Int32 := if x < 2 then 2 else if 4 < x then 4 else x
theorem md_ge {x : Int32} (h : (2 : Int32) ≤ x) : ¬ x < 2 := Int32.not_lt.mpr h
theorem md_nge {x : Int32} (h : ¬ (2 : Int32) ≤ x) : x < 2 := Int32.not_le.mp h
theorem md_le {x : Int32} (h : x ≤ 4) : ¬ (4 : Int32) < x := Int32.not_lt.mpr h
theorem md_nle {x : Int32} (h : ¬ x ≤ 4) : (4 : Int32) < x := Int32.not_le.mp h
theorem md_at {D : va_G} {cl : List vw_C} {a a' : Nat} {e : va_E} {H : Heap} (h : a' = a) (k : va_at D cl (a, e) H) : va_at D cl (a', e) H := by rw [h]; exact k
theorem md_tail {cI cZ : ClassId} {b : Nat} {th nn th' nn' : Int32} {A : Nat → Nat → Int32} (j : Nat) (_ : j < 30) : mdC cI cZ b th nn A (j + 1) = mdC cI cZ b th' nn' A (j + 1) := by
  match j with
  | 0 => rfl
  | 1 => rfl
  | 2 => rfl
  | 3 => rfl
  | 4 => rfl
  | 5 => rfl
  | 6 => rfl
  | 7 => rfl
  | 8 => rfl
  | 9 => rfl
  | 10 => rfl
  | 11 => rfl
  | 12 => rfl
  | 13 => rfl
  | 14 => rfl
  | 15 => rfl
  | 16 => rfl
  | 17 => rfl
  | 18 => rfl
  | 19 => rfl
  | 20 => rfl
  | 21 => rfl
  | 22 => rfl
  | 23 => rfl
  | 24 => rfl
  | 25 => rfl
  | 26 => rfl
  | 27 => rfl
  | 28 => rfl
  | _ + 29 => rfl
set_option maxHeartbeats 8000000 in
set_option maxRecDepth 100000 in
theorem c_M_init (l : Launch) (D : va_G) (cI cZ cN cJ : ClassId) (lo : Nat) (b : Nat) (x : Int32) (hlo : lo ≤ b) : hq_M l y_M_init b_M_init 2 none TB { frames := 1, cells := 30, slots := 1252, locals := 12 } lo D vwCl (TY cI cZ cN cJ) [.ref b, .int x] (fun U => U.heap.size = b + 1 ∧ va_at D vwCl (b, .inr (6, [.int (0), .int (0), .null, .null, .null, .null, .null, .null, .null, .null, .null, .null, .null, .null, .null, .null, .null, .null, .null, .null, .null, .null, .null, .null, .null, .null, .null, .null, .null, .null, .null, .null])) U.heap) (fun H v H' => v = none ∧ H'.size = b + 31 ∧ hq_B D vwCl b 31 (mdC cI cZ b 0 (clip x) (fun _ _ => 0)) H' ∧ hq_O b H H') := by
  refine hq_ofW (by decide) (Nat.le_of_ble_eq_true rfl) ?_
  intro p e s m below meth c ls C hml hret hlk hnm hl hP
  obtain ⟨hz, k0⟩ := hP
  have hL : hq_L lo [] := hq_L0
  have hl : lv_has ls 2 [(0, .ref b), (1, .int x)] := hl
  have hO : hq_O b s.heap s.heap := hq_O0
  have hB : hq_B D vwCl (b + 1) 0 (fun j => mdC cI cZ b 0 0 (fun _ _ => 0) (j + 1)) s.heap := hq_B0
  refine lv_aload_n C.1 C.2.1 d_M_init_0 rfl (lv_at hl 0 rfl) ?_
  refine W.objInit C.1 C.2.1 C.2.2.1 (C.2.2.2.1 _ oi_M) (C.2.2.2.1 _ oi_inst) (C.2.2.2.1 _ oi_code) rfl (by rw [hml]; exact hl.1) rfl d_M_init_1 (Nat.le_of_ble_eq_true rfl) (Nat.le_of_ble_eq_true rfl) ?_
  refine W.eq (g2 := F0 m 4 ls []) rfl ?_
  refine lv_aload_n C.1 C.2.1 d_M_init_4 rfl (lv_at hl 0 rfl) ?_
  refine lv_bipush (v := 8) C.1 C.2.1 d_M_init_5 (by decide) ?_
  refine hq_newa C (by decide +kernel) 0 rfl (a0 := (8, .inl (fun _ => 0))) (N' := 8) (h := b + 1) (by first | rfl | exact vp_cell_i _ _ _) (by decide) (by decide) (by decide) (Nat.le_of_ble_eq_true rfl) (Nat.le_of_ble_eq_true rfl) hz d_M_init_7 (fun H1 n2 => ?_)
  have k3 : va_at D vwCl (b + 1, .inl (cI, 8, .inl (fun _ => 0))) H1 := n2.2.2
  replace hO := hq_On hO n2 (by omega)
  replace hB : hq_B D vwCl (b + 1) 1 (fun j => mdC cI cZ b 0 0 (fun _ _ => 0) (j + 1)) H1 := hq_Ba (hq_Bn hB n2 (by omega)) (md_at (a := b + 1) (by omega) k3)
  replace k0 := hq_an k0 n2 (by omega)
  replace hz : H1.size = b + 2 := n2.1
  clear k3 n2
  refine hq_put (lo := lo) C f_M_7 k0 rfl rfl (Nat.le_of_ble_eq_true rfl) hL (by omega) d_M_init_9 (fun H4 locs u5 hL => ?_)
  have k6 : va_at D vwCl (b, .inr (6, [.int (0), .int (0), .ref (b + 1), .null, .null, .null, .null, .null, .null, .null, .null, .null, .null, .null, .null, .null, .null, .null, .null, .null, .null, .null, .null, .null, .null, .null, .null, .null, .null, .null, .null, .null])) H4 := u5.2.2
  replace hO := hq_Ou hO u5 (by omega)
  replace hB : hq_B D vwCl (b + 1) 1 (fun j => mdC cI cZ b 0 0 (fun _ _ => 0) (j + 1)) H4 := hq_Bu hB u5 (by omega)
  replace hz : H4.size = b + 2 := u5.1.trans hz
  replace k0 := k6
  clear k6 u5
  refine lv_aload_n C.1 C.2.1 d_M_init_12 rfl (lv_at hl 0 rfl) ?_
  refine lv_bipush (v := 64) C.1 C.2.1 d_M_init_13 (by decide) ?_
  refine hq_newa C (by decide +kernel) 0 rfl (a0 := (64, .inl (fun _ => 0))) (N' := 64) (h := b + 2) (by first | rfl | exact vp_cell_i _ _ _) (by decide) (by decide) (by decide) (Nat.le_of_ble_eq_true rfl) (Nat.le_of_ble_eq_true rfl) hz d_M_init_15 (fun H7 n8 => ?_)
  have k9 : va_at D vwCl (b + 2, .inl (cI, 64, .inl (fun _ => 0))) H7 := n8.2.2
  replace hO := hq_On hO n8 (by omega)
  replace hB : hq_B D vwCl (b + 1) 2 (fun j => mdC cI cZ b 0 0 (fun _ _ => 0) (j + 1)) H7 := hq_Ba (hq_Bn hB n8 (by omega)) (md_at (a := b + 2) (by omega) k9)
  replace k0 := hq_an k0 n8 (by omega)
  replace hz : H7.size = b + 3 := n8.1
  clear k9 n8
  refine hq_put (lo := lo) C f_M_13 k0 rfl rfl (Nat.le_of_ble_eq_true rfl) hL (by omega) d_M_init_17 (fun H10 locs u11 hL => ?_)
  have k12 : va_at D vwCl (b, .inr (6, [.int (0), .int (0), .ref (b + 1), .ref (b + 2), .null, .null, .null, .null, .null, .null, .null, .null, .null, .null, .null, .null, .null, .null, .null, .null, .null, .null, .null, .null, .null, .null, .null, .null, .null, .null, .null, .null])) H10 := u11.2.2
  replace hO := hq_Ou hO u11 (by omega)
  replace hB : hq_B D vwCl (b + 1) 2 (fun j => mdC cI cZ b 0 0 (fun _ _ => 0) (j + 1)) H10 := hq_Bu hB u11 (by omega)
  replace hz : H10.size = b + 3 := u11.1.trans hz
  replace k0 := k12
  clear k12 u11
  refine lv_aload_n C.1 C.2.1 d_M_init_20 rfl (lv_at hl 0 rfl) ?_
  refine lv_sipush (v := 1024) C.1 C.2.1 d_M_init_21 (by decide) ?_
  refine hq_newa C (by decide +kernel) 1 rfl (a0 := (1024, .inl (fun _ => 0))) (N' := 1024) (h := b + 3) (by first | rfl | exact vp_cell_i _ _ _) (by decide) (by decide) (by decide) (Nat.le_of_ble_eq_true rfl) (Nat.le_of_ble_eq_true rfl) hz d_M_init_24 (fun H13 n14 => ?_)
  have k15 : va_at D vwCl (b + 3, .inl (cZ, 1024, .inl (fun _ => 0))) H13 := n14.2.2
  replace hO := hq_On hO n14 (by omega)
  replace hB : hq_B D vwCl (b + 1) 3 (fun j => mdC cI cZ b 0 0 (fun _ _ => 0) (j + 1)) H13 := hq_Ba (hq_Bn hB n14 (by omega)) (md_at (a := b + 3) (by omega) k15)
  replace k0 := hq_an k0 n14 (by omega)
  replace hz : H13.size = b + 4 := n14.1
  clear k15 n14
  refine hq_put (lo := lo) C f_M_16 k0 rfl rfl (Nat.le_of_ble_eq_true rfl) hL (by omega) d_M_init_26 (fun H16 locs u17 hL => ?_)
  have k18 : va_at D vwCl (b, .inr (6, [.int (0), .int (0), .ref (b + 1), .ref (b + 2), .ref (b + 3), .null, .null, .null, .null, .null, .null, .null, .null, .null, .null, .null, .null, .null, .null, .null, .null, .null, .null, .null, .null, .null, .null, .null, .null, .null, .null, .null])) H16 := u17.2.2
  replace hO := hq_Ou hO u17 (by omega)
  replace hB : hq_B D vwCl (b + 1) 3 (fun j => mdC cI cZ b 0 0 (fun _ _ => 0) (j + 1)) H16 := hq_Bu hB u17 (by omega)
  replace hz : H16.size = b + 4 := u17.1.trans hz
  replace k0 := k18
  clear k18 u17
  refine lv_aload_n C.1 C.2.1 d_M_init_29 rfl (lv_at hl 0 rfl) ?_
  refine lv_iconst (v := 4) C.1 C.2.1 d_M_init_30 (by decide) ?_
  refine hq_newa C (by decide +kernel) 0 rfl (a0 := (4, .inl (fun _ => 0))) (N' := 4) (h := b + 4) (by first | rfl | exact vp_cell_i _ _ _) (by decide) (by decide) (by decide) (Nat.le_of_ble_eq_true rfl) (Nat.le_of_ble_eq_true rfl) hz d_M_init_31 (fun H19 n20 => ?_)
  have k21 : va_at D vwCl (b + 4, .inl (cI, 4, .inl (fun _ => 0))) H19 := n20.2.2
  replace hO := hq_On hO n20 (by omega)
  replace hB : hq_B D vwCl (b + 1) 4 (fun j => mdC cI cZ b 0 0 (fun _ _ => 0) (j + 1)) H19 := hq_Ba (hq_Bn hB n20 (by omega)) (md_at (a := b + 4) (by omega) k21)
  replace k0 := hq_an k0 n20 (by omega)
  replace hz : H19.size = b + 5 := n20.1
  clear k21 n20
  refine hq_put (lo := lo) C f_M_20 k0 rfl rfl (Nat.le_of_ble_eq_true rfl) hL (by omega) d_M_init_33 (fun H22 locs u23 hL => ?_)
  have k24 : va_at D vwCl (b, .inr (6, [.int (0), .int (0), .ref (b + 1), .ref (b + 2), .ref (b + 3), .ref (b + 4), .null, .null, .null, .null, .null, .null, .null, .null, .null, .null, .null, .null, .null, .null, .null, .null, .null, .null, .null, .null, .null, .null, .null, .null, .null, .null])) H22 := u23.2.2
  replace hO := hq_Ou hO u23 (by omega)
  replace hB : hq_B D vwCl (b + 1) 4 (fun j => mdC cI cZ b 0 0 (fun _ _ => 0) (j + 1)) H22 := hq_Bu hB u23 (by omega)
  replace hz : H22.size = b + 5 := u23.1.trans hz
  replace k0 := k24
  clear k24 u23
  refine lv_aload_n C.1 C.2.1 d_M_init_36 rfl (lv_at hl 0 rfl) ?_
  refine lv_iconst (v := 4) C.1 C.2.1 d_M_init_37 (by decide) ?_
  refine hq_newa C (by decide +kernel) 0 rfl (a0 := (4, .inl (fun _ => 0))) (N' := 4) (h := b + 5) (by first | rfl | exact vp_cell_i _ _ _) (by decide) (by decide) (by decide) (Nat.le_of_ble_eq_true rfl) (Nat.le_of_ble_eq_true rfl) hz d_M_init_38 (fun H25 n26 => ?_)
  have k27 : va_at D vwCl (b + 5, .inl (cI, 4, .inl (fun _ => 0))) H25 := n26.2.2
  replace hO := hq_On hO n26 (by omega)
  replace hB : hq_B D vwCl (b + 1) 5 (fun j => mdC cI cZ b 0 0 (fun _ _ => 0) (j + 1)) H25 := hq_Ba (hq_Bn hB n26 (by omega)) (md_at (a := b + 5) (by omega) k27)
  replace k0 := hq_an k0 n26 (by omega)
  replace hz : H25.size = b + 6 := n26.1
  clear k27 n26
  refine hq_put (lo := lo) C f_M_23 k0 rfl rfl (Nat.le_of_ble_eq_true rfl) hL (by omega) d_M_init_40 (fun H28 locs u29 hL => ?_)
  have k30 : va_at D vwCl (b, .inr (6, [.int (0), .int (0), .ref (b + 1), .ref (b + 2), .ref (b + 3), .ref (b + 4), .ref (b + 5), .null, .null, .null, .null, .null, .null, .null, .null, .null, .null, .null, .null, .null, .null, .null, .null, .null, .null, .null, .null, .null, .null, .null, .null, .null])) H28 := u29.2.2
  replace hO := hq_Ou hO u29 (by omega)
  replace hB : hq_B D vwCl (b + 1) 5 (fun j => mdC cI cZ b 0 0 (fun _ _ => 0) (j + 1)) H28 := hq_Bu hB u29 (by omega)
  replace hz : H28.size = b + 6 := u29.1.trans hz
  replace k0 := k30
  clear k30 u29
  refine lv_aload_n C.1 C.2.1 d_M_init_43 rfl (lv_at hl 0 rfl) ?_
  refine lv_iconst (v := 4) C.1 C.2.1 d_M_init_44 (by decide) ?_
  refine hq_newa C (by decide +kernel) 0 rfl (a0 := (4, .inl (fun _ => 0))) (N' := 4) (h := b + 6) (by first | rfl | exact vp_cell_i _ _ _) (by decide) (by decide) (by decide) (Nat.le_of_ble_eq_true rfl) (Nat.le_of_ble_eq_true rfl) hz d_M_init_45 (fun H31 n32 => ?_)
  have k33 : va_at D vwCl (b + 6, .inl (cI, 4, .inl (fun _ => 0))) H31 := n32.2.2
  replace hO := hq_On hO n32 (by omega)
  replace hB : hq_B D vwCl (b + 1) 6 (fun j => mdC cI cZ b 0 0 (fun _ _ => 0) (j + 1)) H31 := hq_Ba (hq_Bn hB n32 (by omega)) (md_at (a := b + 6) (by omega) k33)
  replace k0 := hq_an k0 n32 (by omega)
  replace hz : H31.size = b + 7 := n32.1
  clear k33 n32
  refine hq_put (lo := lo) C f_M_26 k0 rfl rfl (Nat.le_of_ble_eq_true rfl) hL (by omega) d_M_init_47 (fun H34 locs u35 hL => ?_)
  have k36 : va_at D vwCl (b, .inr (6, [.int (0), .int (0), .ref (b + 1), .ref (b + 2), .ref (b + 3), .ref (b + 4), .ref (b + 5), .ref (b + 6), .null, .null, .null, .null, .null, .null, .null, .null, .null, .null, .null, .null, .null, .null, .null, .null, .null, .null, .null, .null, .null, .null, .null, .null])) H34 := u35.2.2
  replace hO := hq_Ou hO u35 (by omega)
  replace hB : hq_B D vwCl (b + 1) 6 (fun j => mdC cI cZ b 0 0 (fun _ _ => 0) (j + 1)) H34 := hq_Bu hB u35 (by omega)
  replace hz : H34.size = b + 7 := u35.1.trans hz
  replace k0 := k36
  clear k36 u35
  refine lv_aload_n C.1 C.2.1 d_M_init_50 rfl (lv_at hl 0 rfl) ?_
  refine lv_iconst (v := 4) C.1 C.2.1 d_M_init_51 (by decide) ?_
  refine hq_newa C (by decide +kernel) 0 rfl (a0 := (4, .inl (fun _ => 0))) (N' := 4) (h := b + 7) (by first | rfl | exact vp_cell_i _ _ _) (by decide) (by decide) (by decide) (Nat.le_of_ble_eq_true rfl) (Nat.le_of_ble_eq_true rfl) hz d_M_init_52 (fun H37 n38 => ?_)
  have k39 : va_at D vwCl (b + 7, .inl (cI, 4, .inl (fun _ => 0))) H37 := n38.2.2
  replace hO := hq_On hO n38 (by omega)
  replace hB : hq_B D vwCl (b + 1) 7 (fun j => mdC cI cZ b 0 0 (fun _ _ => 0) (j + 1)) H37 := hq_Ba (hq_Bn hB n38 (by omega)) (md_at (a := b + 7) (by omega) k39)
  replace k0 := hq_an k0 n38 (by omega)
  replace hz : H37.size = b + 8 := n38.1
  clear k39 n38
  refine hq_put (lo := lo) C f_M_29 k0 rfl rfl (Nat.le_of_ble_eq_true rfl) hL (by omega) d_M_init_54 (fun H40 locs u41 hL => ?_)
  have k42 : va_at D vwCl (b, .inr (6, [.int (0), .int (0), .ref (b + 1), .ref (b + 2), .ref (b + 3), .ref (b + 4), .ref (b + 5), .ref (b + 6), .ref (b + 7), .null, .null, .null, .null, .null, .null, .null, .null, .null, .null, .null, .null, .null, .null, .null, .null, .null, .null, .null, .null, .null, .null, .null])) H40 := u41.2.2
  replace hO := hq_Ou hO u41 (by omega)
  replace hB : hq_B D vwCl (b + 1) 7 (fun j => mdC cI cZ b 0 0 (fun _ _ => 0) (j + 1)) H40 := hq_Bu hB u41 (by omega)
  replace hz : H40.size = b + 8 := u41.1.trans hz
  replace k0 := k42
  clear k42 u41
  refine lv_aload_n C.1 C.2.1 d_M_init_57 rfl (lv_at hl 0 rfl) ?_
  refine lv_iconst (v := 4) C.1 C.2.1 d_M_init_58 (by decide) ?_
  refine hq_newa C (by decide +kernel) 0 rfl (a0 := (4, .inl (fun _ => 0))) (N' := 4) (h := b + 8) (by first | rfl | exact vp_cell_i _ _ _) (by decide) (by decide) (by decide) (Nat.le_of_ble_eq_true rfl) (Nat.le_of_ble_eq_true rfl) hz d_M_init_59 (fun H43 n44 => ?_)
  have k45 : va_at D vwCl (b + 8, .inl (cI, 4, .inl (fun _ => 0))) H43 := n44.2.2
  replace hO := hq_On hO n44 (by omega)
  replace hB : hq_B D vwCl (b + 1) 8 (fun j => mdC cI cZ b 0 0 (fun _ _ => 0) (j + 1)) H43 := hq_Ba (hq_Bn hB n44 (by omega)) (md_at (a := b + 8) (by omega) k45)
  replace k0 := hq_an k0 n44 (by omega)
  replace hz : H43.size = b + 9 := n44.1
  clear k45 n44
  refine hq_put (lo := lo) C f_M_32 k0 rfl rfl (Nat.le_of_ble_eq_true rfl) hL (by omega) d_M_init_61 (fun H46 locs u47 hL => ?_)
  have k48 : va_at D vwCl (b, .inr (6, [.int (0), .int (0), .ref (b + 1), .ref (b + 2), .ref (b + 3), .ref (b + 4), .ref (b + 5), .ref (b + 6), .ref (b + 7), .ref (b + 8), .null, .null, .null, .null, .null, .null, .null, .null, .null, .null, .null, .null, .null, .null, .null, .null, .null, .null, .null, .null, .null, .null])) H46 := u47.2.2
  replace hO := hq_Ou hO u47 (by omega)
  replace hB : hq_B D vwCl (b + 1) 8 (fun j => mdC cI cZ b 0 0 (fun _ _ => 0) (j + 1)) H46 := hq_Bu hB u47 (by omega)
  replace hz : H46.size = b + 9 := u47.1.trans hz
  replace k0 := k48
  clear k48 u47
  refine lv_aload_n C.1 C.2.1 d_M_init_64 rfl (lv_at hl 0 rfl) ?_
  refine lv_iconst (v := 4) C.1 C.2.1 d_M_init_65 (by decide) ?_
  refine hq_newa C (by decide +kernel) 0 rfl (a0 := (4, .inl (fun _ => 0))) (N' := 4) (h := b + 9) (by first | rfl | exact vp_cell_i _ _ _) (by decide) (by decide) (by decide) (Nat.le_of_ble_eq_true rfl) (Nat.le_of_ble_eq_true rfl) hz d_M_init_66 (fun H49 n50 => ?_)
  have k51 : va_at D vwCl (b + 9, .inl (cI, 4, .inl (fun _ => 0))) H49 := n50.2.2
  replace hO := hq_On hO n50 (by omega)
  replace hB : hq_B D vwCl (b + 1) 9 (fun j => mdC cI cZ b 0 0 (fun _ _ => 0) (j + 1)) H49 := hq_Ba (hq_Bn hB n50 (by omega)) (md_at (a := b + 9) (by omega) k51)
  replace k0 := hq_an k0 n50 (by omega)
  replace hz : H49.size = b + 10 := n50.1
  clear k51 n50
  refine hq_put (lo := lo) C f_M_35 k0 rfl rfl (Nat.le_of_ble_eq_true rfl) hL (by omega) d_M_init_68 (fun H52 locs u53 hL => ?_)
  have k54 : va_at D vwCl (b, .inr (6, [.int (0), .int (0), .ref (b + 1), .ref (b + 2), .ref (b + 3), .ref (b + 4), .ref (b + 5), .ref (b + 6), .ref (b + 7), .ref (b + 8), .ref (b + 9), .null, .null, .null, .null, .null, .null, .null, .null, .null, .null, .null, .null, .null, .null, .null, .null, .null, .null, .null, .null, .null])) H52 := u53.2.2
  replace hO := hq_Ou hO u53 (by omega)
  replace hB : hq_B D vwCl (b + 1) 9 (fun j => mdC cI cZ b 0 0 (fun _ _ => 0) (j + 1)) H52 := hq_Bu hB u53 (by omega)
  replace hz : H52.size = b + 10 := u53.1.trans hz
  replace k0 := k54
  clear k54 u53
  refine lv_aload_n C.1 C.2.1 d_M_init_71 rfl (lv_at hl 0 rfl) ?_
  refine lv_iconst (v := 4) C.1 C.2.1 d_M_init_72 (by decide) ?_
  refine hq_newa C (by decide +kernel) 0 rfl (a0 := (4, .inl (fun _ => 0))) (N' := 4) (h := b + 10) (by first | rfl | exact vp_cell_i _ _ _) (by decide) (by decide) (by decide) (Nat.le_of_ble_eq_true rfl) (Nat.le_of_ble_eq_true rfl) hz d_M_init_73 (fun H55 n56 => ?_)
  have k57 : va_at D vwCl (b + 10, .inl (cI, 4, .inl (fun _ => 0))) H55 := n56.2.2
  replace hO := hq_On hO n56 (by omega)
  replace hB : hq_B D vwCl (b + 1) 10 (fun j => mdC cI cZ b 0 0 (fun _ _ => 0) (j + 1)) H55 := hq_Ba (hq_Bn hB n56 (by omega)) (md_at (a := b + 10) (by omega) k57)
  replace k0 := hq_an k0 n56 (by omega)
  replace hz : H55.size = b + 11 := n56.1
  clear k57 n56
  refine hq_put (lo := lo) C f_M_38 k0 rfl rfl (Nat.le_of_ble_eq_true rfl) hL (by omega) d_M_init_75 (fun H58 locs u59 hL => ?_)
  have k60 : va_at D vwCl (b, .inr (6, [.int (0), .int (0), .ref (b + 1), .ref (b + 2), .ref (b + 3), .ref (b + 4), .ref (b + 5), .ref (b + 6), .ref (b + 7), .ref (b + 8), .ref (b + 9), .ref (b + 10), .null, .null, .null, .null, .null, .null, .null, .null, .null, .null, .null, .null, .null, .null, .null, .null, .null, .null, .null, .null])) H58 := u59.2.2
  replace hO := hq_Ou hO u59 (by omega)
  replace hB : hq_B D vwCl (b + 1) 10 (fun j => mdC cI cZ b 0 0 (fun _ _ => 0) (j + 1)) H58 := hq_Bu hB u59 (by omega)
  replace hz : H58.size = b + 11 := u59.1.trans hz
  replace k0 := k60
  clear k60 u59
  refine lv_aload_n C.1 C.2.1 d_M_init_78 rfl (lv_at hl 0 rfl) ?_
  refine lv_bipush (v := 16) C.1 C.2.1 d_M_init_79 (by decide) ?_
  refine hq_newa C (by decide +kernel) 0 rfl (a0 := (16, .inl (fun _ => 0))) (N' := 16) (h := b + 11) (by first | rfl | exact vp_cell_i _ _ _) (by decide) (by decide) (by decide) (Nat.le_of_ble_eq_true rfl) (Nat.le_of_ble_eq_true rfl) hz d_M_init_81 (fun H61 n62 => ?_)
  have k63 : va_at D vwCl (b + 11, .inl (cI, 16, .inl (fun _ => 0))) H61 := n62.2.2
  replace hO := hq_On hO n62 (by omega)
  replace hB : hq_B D vwCl (b + 1) 11 (fun j => mdC cI cZ b 0 0 (fun _ _ => 0) (j + 1)) H61 := hq_Ba (hq_Bn hB n62 (by omega)) (md_at (a := b + 11) (by omega) k63)
  replace k0 := hq_an k0 n62 (by omega)
  replace hz : H61.size = b + 12 := n62.1
  clear k63 n62
  refine hq_put (lo := lo) C f_M_41 k0 rfl rfl (Nat.le_of_ble_eq_true rfl) hL (by omega) d_M_init_83 (fun H64 locs u65 hL => ?_)
  have k66 : va_at D vwCl (b, .inr (6, [.int (0), .int (0), .ref (b + 1), .ref (b + 2), .ref (b + 3), .ref (b + 4), .ref (b + 5), .ref (b + 6), .ref (b + 7), .ref (b + 8), .ref (b + 9), .ref (b + 10), .ref (b + 11), .null, .null, .null, .null, .null, .null, .null, .null, .null, .null, .null, .null, .null, .null, .null, .null, .null, .null, .null])) H64 := u65.2.2
  replace hO := hq_Ou hO u65 (by omega)
  replace hB : hq_B D vwCl (b + 1) 11 (fun j => mdC cI cZ b 0 0 (fun _ _ => 0) (j + 1)) H64 := hq_Bu hB u65 (by omega)
  replace hz : H64.size = b + 12 := u65.1.trans hz
  replace k0 := k66
  clear k66 u65
  refine lv_aload_n C.1 C.2.1 d_M_init_86 rfl (lv_at hl 0 rfl) ?_
  refine lv_bipush (v := 16) C.1 C.2.1 d_M_init_87 (by decide) ?_
  refine hq_newa C (by decide +kernel) 0 rfl (a0 := (16, .inl (fun _ => 0))) (N' := 16) (h := b + 12) (by first | rfl | exact vp_cell_i _ _ _) (by decide) (by decide) (by decide) (Nat.le_of_ble_eq_true rfl) (Nat.le_of_ble_eq_true rfl) hz d_M_init_89 (fun H67 n68 => ?_)
  have k69 : va_at D vwCl (b + 12, .inl (cI, 16, .inl (fun _ => 0))) H67 := n68.2.2
  replace hO := hq_On hO n68 (by omega)
  replace hB : hq_B D vwCl (b + 1) 12 (fun j => mdC cI cZ b 0 0 (fun _ _ => 0) (j + 1)) H67 := hq_Ba (hq_Bn hB n68 (by omega)) (md_at (a := b + 12) (by omega) k69)
  replace k0 := hq_an k0 n68 (by omega)
  replace hz : H67.size = b + 13 := n68.1
  clear k69 n68
  refine hq_put (lo := lo) C f_M_44 k0 rfl rfl (Nat.le_of_ble_eq_true rfl) hL (by omega) d_M_init_91 (fun H70 locs u71 hL => ?_)
  have k72 : va_at D vwCl (b, .inr (6, [.int (0), .int (0), .ref (b + 1), .ref (b + 2), .ref (b + 3), .ref (b + 4), .ref (b + 5), .ref (b + 6), .ref (b + 7), .ref (b + 8), .ref (b + 9), .ref (b + 10), .ref (b + 11), .ref (b + 12), .null, .null, .null, .null, .null, .null, .null, .null, .null, .null, .null, .null, .null, .null, .null, .null, .null, .null])) H70 := u71.2.2
  replace hO := hq_Ou hO u71 (by omega)
  replace hB : hq_B D vwCl (b + 1) 12 (fun j => mdC cI cZ b 0 0 (fun _ _ => 0) (j + 1)) H70 := hq_Bu hB u71 (by omega)
  replace hz : H70.size = b + 13 := u71.1.trans hz
  replace k0 := k72
  clear k72 u71
  refine lv_aload_n C.1 C.2.1 d_M_init_94 rfl (lv_at hl 0 rfl) ?_
  refine lv_bipush (v := 16) C.1 C.2.1 d_M_init_95 (by decide) ?_
  refine hq_newa C (by decide +kernel) 0 rfl (a0 := (16, .inl (fun _ => 0))) (N' := 16) (h := b + 13) (by first | rfl | exact vp_cell_i _ _ _) (by decide) (by decide) (by decide) (Nat.le_of_ble_eq_true rfl) (Nat.le_of_ble_eq_true rfl) hz d_M_init_97 (fun H73 n74 => ?_)
  have k75 : va_at D vwCl (b + 13, .inl (cI, 16, .inl (fun _ => 0))) H73 := n74.2.2
  replace hO := hq_On hO n74 (by omega)
  replace hB : hq_B D vwCl (b + 1) 13 (fun j => mdC cI cZ b 0 0 (fun _ _ => 0) (j + 1)) H73 := hq_Ba (hq_Bn hB n74 (by omega)) (md_at (a := b + 13) (by omega) k75)
  replace k0 := hq_an k0 n74 (by omega)
  replace hz : H73.size = b + 14 := n74.1
  clear k75 n74
  refine hq_put (lo := lo) C f_M_47 k0 rfl rfl (Nat.le_of_ble_eq_true rfl) hL (by omega) d_M_init_99 (fun H76 locs u77 hL => ?_)
  have k78 : va_at D vwCl (b, .inr (6, [.int (0), .int (0), .ref (b + 1), .ref (b + 2), .ref (b + 3), .ref (b + 4), .ref (b + 5), .ref (b + 6), .ref (b + 7), .ref (b + 8), .ref (b + 9), .ref (b + 10), .ref (b + 11), .ref (b + 12), .ref (b + 13), .null, .null, .null, .null, .null, .null, .null, .null, .null, .null, .null, .null, .null, .null, .null, .null, .null])) H76 := u77.2.2
  replace hO := hq_Ou hO u77 (by omega)
  replace hB : hq_B D vwCl (b + 1) 13 (fun j => mdC cI cZ b 0 0 (fun _ _ => 0) (j + 1)) H76 := hq_Bu hB u77 (by omega)
  replace hz : H76.size = b + 14 := u77.1.trans hz
  replace k0 := k78
  clear k78 u77
  refine lv_aload_n C.1 C.2.1 d_M_init_102 rfl (lv_at hl 0 rfl) ?_
  refine lv_iconst (v := 4) C.1 C.2.1 d_M_init_103 (by decide) ?_
  refine hq_newa C (by decide +kernel) 0 rfl (a0 := (4, .inl (fun _ => 0))) (N' := 4) (h := b + 14) (by first | rfl | exact vp_cell_i _ _ _) (by decide) (by decide) (by decide) (Nat.le_of_ble_eq_true rfl) (Nat.le_of_ble_eq_true rfl) hz d_M_init_104 (fun H79 n80 => ?_)
  have k81 : va_at D vwCl (b + 14, .inl (cI, 4, .inl (fun _ => 0))) H79 := n80.2.2
  replace hO := hq_On hO n80 (by omega)
  replace hB : hq_B D vwCl (b + 1) 14 (fun j => mdC cI cZ b 0 0 (fun _ _ => 0) (j + 1)) H79 := hq_Ba (hq_Bn hB n80 (by omega)) (md_at (a := b + 14) (by omega) k81)
  replace k0 := hq_an k0 n80 (by omega)
  replace hz : H79.size = b + 15 := n80.1
  clear k81 n80
  refine hq_put (lo := lo) C f_M_50 k0 rfl rfl (Nat.le_of_ble_eq_true rfl) hL (by omega) d_M_init_106 (fun H82 locs u83 hL => ?_)
  have k84 : va_at D vwCl (b, .inr (6, [.int (0), .int (0), .ref (b + 1), .ref (b + 2), .ref (b + 3), .ref (b + 4), .ref (b + 5), .ref (b + 6), .ref (b + 7), .ref (b + 8), .ref (b + 9), .ref (b + 10), .ref (b + 11), .ref (b + 12), .ref (b + 13), .ref (b + 14), .null, .null, .null, .null, .null, .null, .null, .null, .null, .null, .null, .null, .null, .null, .null, .null])) H82 := u83.2.2
  replace hO := hq_Ou hO u83 (by omega)
  replace hB : hq_B D vwCl (b + 1) 14 (fun j => mdC cI cZ b 0 0 (fun _ _ => 0) (j + 1)) H82 := hq_Bu hB u83 (by omega)
  replace hz : H82.size = b + 15 := u83.1.trans hz
  replace k0 := k84
  clear k84 u83
  refine lv_aload_n C.1 C.2.1 d_M_init_109 rfl (lv_at hl 0 rfl) ?_
  refine lv_iconst (v := 4) C.1 C.2.1 d_M_init_110 (by decide) ?_
  refine hq_newa C (by decide +kernel) 0 rfl (a0 := (4, .inl (fun _ => 0))) (N' := 4) (h := b + 15) (by first | rfl | exact vp_cell_i _ _ _) (by decide) (by decide) (by decide) (Nat.le_of_ble_eq_true rfl) (Nat.le_of_ble_eq_true rfl) hz d_M_init_111 (fun H85 n86 => ?_)
  have k87 : va_at D vwCl (b + 15, .inl (cI, 4, .inl (fun _ => 0))) H85 := n86.2.2
  replace hO := hq_On hO n86 (by omega)
  replace hB : hq_B D vwCl (b + 1) 15 (fun j => mdC cI cZ b 0 0 (fun _ _ => 0) (j + 1)) H85 := hq_Ba (hq_Bn hB n86 (by omega)) (md_at (a := b + 15) (by omega) k87)
  replace k0 := hq_an k0 n86 (by omega)
  replace hz : H85.size = b + 16 := n86.1
  clear k87 n86
  refine hq_put (lo := lo) C f_M_53 k0 rfl rfl (Nat.le_of_ble_eq_true rfl) hL (by omega) d_M_init_113 (fun H88 locs u89 hL => ?_)
  have k90 : va_at D vwCl (b, .inr (6, [.int (0), .int (0), .ref (b + 1), .ref (b + 2), .ref (b + 3), .ref (b + 4), .ref (b + 5), .ref (b + 6), .ref (b + 7), .ref (b + 8), .ref (b + 9), .ref (b + 10), .ref (b + 11), .ref (b + 12), .ref (b + 13), .ref (b + 14), .ref (b + 15), .null, .null, .null, .null, .null, .null, .null, .null, .null, .null, .null, .null, .null, .null, .null])) H88 := u89.2.2
  replace hO := hq_Ou hO u89 (by omega)
  replace hB : hq_B D vwCl (b + 1) 15 (fun j => mdC cI cZ b 0 0 (fun _ _ => 0) (j + 1)) H88 := hq_Bu hB u89 (by omega)
  replace hz : H88.size = b + 16 := u89.1.trans hz
  replace k0 := k90
  clear k90 u89
  refine lv_aload_n C.1 C.2.1 d_M_init_116 rfl (lv_at hl 0 rfl) ?_
  refine lv_bipush (v := 16) C.1 C.2.1 d_M_init_117 (by decide) ?_
  refine hq_newa C (by decide +kernel) 0 rfl (a0 := (16, .inl (fun _ => 0))) (N' := 16) (h := b + 16) (by first | rfl | exact vp_cell_i _ _ _) (by decide) (by decide) (by decide) (Nat.le_of_ble_eq_true rfl) (Nat.le_of_ble_eq_true rfl) hz d_M_init_119 (fun H91 n92 => ?_)
  have k93 : va_at D vwCl (b + 16, .inl (cI, 16, .inl (fun _ => 0))) H91 := n92.2.2
  replace hO := hq_On hO n92 (by omega)
  replace hB : hq_B D vwCl (b + 1) 16 (fun j => mdC cI cZ b 0 0 (fun _ _ => 0) (j + 1)) H91 := hq_Ba (hq_Bn hB n92 (by omega)) (md_at (a := b + 16) (by omega) k93)
  replace k0 := hq_an k0 n92 (by omega)
  replace hz : H91.size = b + 17 := n92.1
  clear k93 n92
  refine hq_put (lo := lo) C f_M_56 k0 rfl rfl (Nat.le_of_ble_eq_true rfl) hL (by omega) d_M_init_121 (fun H94 locs u95 hL => ?_)
  have k96 : va_at D vwCl (b, .inr (6, [.int (0), .int (0), .ref (b + 1), .ref (b + 2), .ref (b + 3), .ref (b + 4), .ref (b + 5), .ref (b + 6), .ref (b + 7), .ref (b + 8), .ref (b + 9), .ref (b + 10), .ref (b + 11), .ref (b + 12), .ref (b + 13), .ref (b + 14), .ref (b + 15), .ref (b + 16), .null, .null, .null, .null, .null, .null, .null, .null, .null, .null, .null, .null, .null, .null])) H94 := u95.2.2
  replace hO := hq_Ou hO u95 (by omega)
  replace hB : hq_B D vwCl (b + 1) 16 (fun j => mdC cI cZ b 0 0 (fun _ _ => 0) (j + 1)) H94 := hq_Bu hB u95 (by omega)
  replace hz : H94.size = b + 17 := u95.1.trans hz
  replace k0 := k96
  clear k96 u95
  refine lv_aload_n C.1 C.2.1 d_M_init_124 rfl (lv_at hl 0 rfl) ?_
  refine lv_iconst (v := 4) C.1 C.2.1 d_M_init_125 (by decide) ?_
  refine hq_newa C (by decide +kernel) 0 rfl (a0 := (4, .inl (fun _ => 0))) (N' := 4) (h := b + 17) (by first | rfl | exact vp_cell_i _ _ _) (by decide) (by decide) (by decide) (Nat.le_of_ble_eq_true rfl) (Nat.le_of_ble_eq_true rfl) hz d_M_init_126 (fun H97 n98 => ?_)
  have k99 : va_at D vwCl (b + 17, .inl (cI, 4, .inl (fun _ => 0))) H97 := n98.2.2
  replace hO := hq_On hO n98 (by omega)
  replace hB : hq_B D vwCl (b + 1) 17 (fun j => mdC cI cZ b 0 0 (fun _ _ => 0) (j + 1)) H97 := hq_Ba (hq_Bn hB n98 (by omega)) (md_at (a := b + 17) (by omega) k99)
  replace k0 := hq_an k0 n98 (by omega)
  replace hz : H97.size = b + 18 := n98.1
  clear k99 n98
  refine hq_put (lo := lo) C f_M_59 k0 rfl rfl (Nat.le_of_ble_eq_true rfl) hL (by omega) d_M_init_128 (fun H100 locs u101 hL => ?_)
  have k102 : va_at D vwCl (b, .inr (6, [.int (0), .int (0), .ref (b + 1), .ref (b + 2), .ref (b + 3), .ref (b + 4), .ref (b + 5), .ref (b + 6), .ref (b + 7), .ref (b + 8), .ref (b + 9), .ref (b + 10), .ref (b + 11), .ref (b + 12), .ref (b + 13), .ref (b + 14), .ref (b + 15), .ref (b + 16), .ref (b + 17), .null, .null, .null, .null, .null, .null, .null, .null, .null, .null, .null, .null, .null])) H100 := u101.2.2
  replace hO := hq_Ou hO u101 (by omega)
  replace hB : hq_B D vwCl (b + 1) 17 (fun j => mdC cI cZ b 0 0 (fun _ _ => 0) (j + 1)) H100 := hq_Bu hB u101 (by omega)
  replace hz : H100.size = b + 18 := u101.1.trans hz
  replace k0 := k102
  clear k102 u101
  refine lv_aload_n C.1 C.2.1 d_M_init_131 rfl (lv_at hl 0 rfl) ?_
  refine lv_iconst (v := 4) C.1 C.2.1 d_M_init_132 (by decide) ?_
  refine hq_newa C (by decide +kernel) 0 rfl (a0 := (4, .inl (fun _ => 0))) (N' := 4) (h := b + 18) (by first | rfl | exact vp_cell_i _ _ _) (by decide) (by decide) (by decide) (Nat.le_of_ble_eq_true rfl) (Nat.le_of_ble_eq_true rfl) hz d_M_init_133 (fun H103 n104 => ?_)
  have k105 : va_at D vwCl (b + 18, .inl (cI, 4, .inl (fun _ => 0))) H103 := n104.2.2
  replace hO := hq_On hO n104 (by omega)
  replace hB : hq_B D vwCl (b + 1) 18 (fun j => mdC cI cZ b 0 0 (fun _ _ => 0) (j + 1)) H103 := hq_Ba (hq_Bn hB n104 (by omega)) (md_at (a := b + 18) (by omega) k105)
  replace k0 := hq_an k0 n104 (by omega)
  replace hz : H103.size = b + 19 := n104.1
  clear k105 n104
  refine hq_put (lo := lo) C f_M_62 k0 rfl rfl (Nat.le_of_ble_eq_true rfl) hL (by omega) d_M_init_135 (fun H106 locs u107 hL => ?_)
  have k108 : va_at D vwCl (b, .inr (6, [.int (0), .int (0), .ref (b + 1), .ref (b + 2), .ref (b + 3), .ref (b + 4), .ref (b + 5), .ref (b + 6), .ref (b + 7), .ref (b + 8), .ref (b + 9), .ref (b + 10), .ref (b + 11), .ref (b + 12), .ref (b + 13), .ref (b + 14), .ref (b + 15), .ref (b + 16), .ref (b + 17), .ref (b + 18), .null, .null, .null, .null, .null, .null, .null, .null, .null, .null, .null, .null])) H106 := u107.2.2
  replace hO := hq_Ou hO u107 (by omega)
  replace hB : hq_B D vwCl (b + 1) 18 (fun j => mdC cI cZ b 0 0 (fun _ _ => 0) (j + 1)) H106 := hq_Bu hB u107 (by omega)
  replace hz : H106.size = b + 19 := u107.1.trans hz
  replace k0 := k108
  clear k108 u107
  refine lv_aload_n C.1 C.2.1 d_M_init_138 rfl (lv_at hl 0 rfl) ?_
  refine lv_iconst (v := 4) C.1 C.2.1 d_M_init_139 (by decide) ?_
  refine hq_newa C (by decide +kernel) 0 rfl (a0 := (4, .inl (fun _ => 0))) (N' := 4) (h := b + 19) (by first | rfl | exact vp_cell_i _ _ _) (by decide) (by decide) (by decide) (Nat.le_of_ble_eq_true rfl) (Nat.le_of_ble_eq_true rfl) hz d_M_init_140 (fun H109 n110 => ?_)
  have k111 : va_at D vwCl (b + 19, .inl (cI, 4, .inl (fun _ => 0))) H109 := n110.2.2
  replace hO := hq_On hO n110 (by omega)
  replace hB : hq_B D vwCl (b + 1) 19 (fun j => mdC cI cZ b 0 0 (fun _ _ => 0) (j + 1)) H109 := hq_Ba (hq_Bn hB n110 (by omega)) (md_at (a := b + 19) (by omega) k111)
  replace k0 := hq_an k0 n110 (by omega)
  replace hz : H109.size = b + 20 := n110.1
  clear k111 n110
  refine hq_put (lo := lo) C f_M_65 k0 rfl rfl (Nat.le_of_ble_eq_true rfl) hL (by omega) d_M_init_142 (fun H112 locs u113 hL => ?_)
  have k114 : va_at D vwCl (b, .inr (6, [.int (0), .int (0), .ref (b + 1), .ref (b + 2), .ref (b + 3), .ref (b + 4), .ref (b + 5), .ref (b + 6), .ref (b + 7), .ref (b + 8), .ref (b + 9), .ref (b + 10), .ref (b + 11), .ref (b + 12), .ref (b + 13), .ref (b + 14), .ref (b + 15), .ref (b + 16), .ref (b + 17), .ref (b + 18), .ref (b + 19), .null, .null, .null, .null, .null, .null, .null, .null, .null, .null, .null])) H112 := u113.2.2
  replace hO := hq_Ou hO u113 (by omega)
  replace hB : hq_B D vwCl (b + 1) 19 (fun j => mdC cI cZ b 0 0 (fun _ _ => 0) (j + 1)) H112 := hq_Bu hB u113 (by omega)
  replace hz : H112.size = b + 20 := u113.1.trans hz
  replace k0 := k114
  clear k114 u113
  refine lv_aload_n C.1 C.2.1 d_M_init_145 rfl (lv_at hl 0 rfl) ?_
  refine lv_iconst (v := 4) C.1 C.2.1 d_M_init_146 (by decide) ?_
  refine hq_newa C (by decide +kernel) 0 rfl (a0 := (4, .inl (fun _ => 0))) (N' := 4) (h := b + 20) (by first | rfl | exact vp_cell_i _ _ _) (by decide) (by decide) (by decide) (Nat.le_of_ble_eq_true rfl) (Nat.le_of_ble_eq_true rfl) hz d_M_init_147 (fun H115 n116 => ?_)
  have k117 : va_at D vwCl (b + 20, .inl (cI, 4, .inl (fun _ => 0))) H115 := n116.2.2
  replace hO := hq_On hO n116 (by omega)
  replace hB : hq_B D vwCl (b + 1) 20 (fun j => mdC cI cZ b 0 0 (fun _ _ => 0) (j + 1)) H115 := hq_Ba (hq_Bn hB n116 (by omega)) (md_at (a := b + 20) (by omega) k117)
  replace k0 := hq_an k0 n116 (by omega)
  replace hz : H115.size = b + 21 := n116.1
  clear k117 n116
  refine hq_put (lo := lo) C f_M_68 k0 rfl rfl (Nat.le_of_ble_eq_true rfl) hL (by omega) d_M_init_149 (fun H118 locs u119 hL => ?_)
  have k120 : va_at D vwCl (b, .inr (6, [.int (0), .int (0), .ref (b + 1), .ref (b + 2), .ref (b + 3), .ref (b + 4), .ref (b + 5), .ref (b + 6), .ref (b + 7), .ref (b + 8), .ref (b + 9), .ref (b + 10), .ref (b + 11), .ref (b + 12), .ref (b + 13), .ref (b + 14), .ref (b + 15), .ref (b + 16), .ref (b + 17), .ref (b + 18), .ref (b + 19), .ref (b + 20), .null, .null, .null, .null, .null, .null, .null, .null, .null, .null])) H118 := u119.2.2
  replace hO := hq_Ou hO u119 (by omega)
  replace hB : hq_B D vwCl (b + 1) 20 (fun j => mdC cI cZ b 0 0 (fun _ _ => 0) (j + 1)) H118 := hq_Bu hB u119 (by omega)
  replace hz : H118.size = b + 21 := u119.1.trans hz
  replace k0 := k120
  clear k120 u119
  refine lv_aload_n C.1 C.2.1 d_M_init_152 rfl (lv_at hl 0 rfl) ?_
  refine lv_iconst (v := 4) C.1 C.2.1 d_M_init_153 (by decide) ?_
  refine hq_newa C (by decide +kernel) 0 rfl (a0 := (4, .inl (fun _ => 0))) (N' := 4) (h := b + 21) (by first | rfl | exact vp_cell_i _ _ _) (by decide) (by decide) (by decide) (Nat.le_of_ble_eq_true rfl) (Nat.le_of_ble_eq_true rfl) hz d_M_init_154 (fun H121 n122 => ?_)
  have k123 : va_at D vwCl (b + 21, .inl (cI, 4, .inl (fun _ => 0))) H121 := n122.2.2
  replace hO := hq_On hO n122 (by omega)
  replace hB : hq_B D vwCl (b + 1) 21 (fun j => mdC cI cZ b 0 0 (fun _ _ => 0) (j + 1)) H121 := hq_Ba (hq_Bn hB n122 (by omega)) (md_at (a := b + 21) (by omega) k123)
  replace k0 := hq_an k0 n122 (by omega)
  replace hz : H121.size = b + 22 := n122.1
  clear k123 n122
  refine hq_put (lo := lo) C f_M_71 k0 rfl rfl (Nat.le_of_ble_eq_true rfl) hL (by omega) d_M_init_156 (fun H124 locs u125 hL => ?_)
  have k126 : va_at D vwCl (b, .inr (6, [.int (0), .int (0), .ref (b + 1), .ref (b + 2), .ref (b + 3), .ref (b + 4), .ref (b + 5), .ref (b + 6), .ref (b + 7), .ref (b + 8), .ref (b + 9), .ref (b + 10), .ref (b + 11), .ref (b + 12), .ref (b + 13), .ref (b + 14), .ref (b + 15), .ref (b + 16), .ref (b + 17), .ref (b + 18), .ref (b + 19), .ref (b + 20), .ref (b + 21), .null, .null, .null, .null, .null, .null, .null, .null, .null])) H124 := u125.2.2
  replace hO := hq_Ou hO u125 (by omega)
  replace hB : hq_B D vwCl (b + 1) 21 (fun j => mdC cI cZ b 0 0 (fun _ _ => 0) (j + 1)) H124 := hq_Bu hB u125 (by omega)
  replace hz : H124.size = b + 22 := u125.1.trans hz
  replace k0 := k126
  clear k126 u125
  refine lv_aload_n C.1 C.2.1 d_M_init_159 rfl (lv_at hl 0 rfl) ?_
  refine lv_iconst (v := 4) C.1 C.2.1 d_M_init_160 (by decide) ?_
  refine hq_newa C (by decide +kernel) 0 rfl (a0 := (4, .inl (fun _ => 0))) (N' := 4) (h := b + 22) (by first | rfl | exact vp_cell_i _ _ _) (by decide) (by decide) (by decide) (Nat.le_of_ble_eq_true rfl) (Nat.le_of_ble_eq_true rfl) hz d_M_init_161 (fun H127 n128 => ?_)
  have k129 : va_at D vwCl (b + 22, .inl (cI, 4, .inl (fun _ => 0))) H127 := n128.2.2
  replace hO := hq_On hO n128 (by omega)
  replace hB : hq_B D vwCl (b + 1) 22 (fun j => mdC cI cZ b 0 0 (fun _ _ => 0) (j + 1)) H127 := hq_Ba (hq_Bn hB n128 (by omega)) (md_at (a := b + 22) (by omega) k129)
  replace k0 := hq_an k0 n128 (by omega)
  replace hz : H127.size = b + 23 := n128.1
  clear k129 n128
  refine hq_put (lo := lo) C f_M_74 k0 rfl rfl (Nat.le_of_ble_eq_true rfl) hL (by omega) d_M_init_163 (fun H130 locs u131 hL => ?_)
  have k132 : va_at D vwCl (b, .inr (6, [.int (0), .int (0), .ref (b + 1), .ref (b + 2), .ref (b + 3), .ref (b + 4), .ref (b + 5), .ref (b + 6), .ref (b + 7), .ref (b + 8), .ref (b + 9), .ref (b + 10), .ref (b + 11), .ref (b + 12), .ref (b + 13), .ref (b + 14), .ref (b + 15), .ref (b + 16), .ref (b + 17), .ref (b + 18), .ref (b + 19), .ref (b + 20), .ref (b + 21), .ref (b + 22), .null, .null, .null, .null, .null, .null, .null, .null])) H130 := u131.2.2
  replace hO := hq_Ou hO u131 (by omega)
  replace hB : hq_B D vwCl (b + 1) 22 (fun j => mdC cI cZ b 0 0 (fun _ _ => 0) (j + 1)) H130 := hq_Bu hB u131 (by omega)
  replace hz : H130.size = b + 23 := u131.1.trans hz
  replace k0 := k132
  clear k132 u131
  refine lv_aload_n C.1 C.2.1 d_M_init_166 rfl (lv_at hl 0 rfl) ?_
  refine lv_iconst (v := 4) C.1 C.2.1 d_M_init_167 (by decide) ?_
  refine hq_newa C (by decide +kernel) 0 rfl (a0 := (4, .inl (fun _ => 0))) (N' := 4) (h := b + 23) (by first | rfl | exact vp_cell_i _ _ _) (by decide) (by decide) (by decide) (Nat.le_of_ble_eq_true rfl) (Nat.le_of_ble_eq_true rfl) hz d_M_init_168 (fun H133 n134 => ?_)
  have k135 : va_at D vwCl (b + 23, .inl (cI, 4, .inl (fun _ => 0))) H133 := n134.2.2
  replace hO := hq_On hO n134 (by omega)
  replace hB : hq_B D vwCl (b + 1) 23 (fun j => mdC cI cZ b 0 0 (fun _ _ => 0) (j + 1)) H133 := hq_Ba (hq_Bn hB n134 (by omega)) (md_at (a := b + 23) (by omega) k135)
  replace k0 := hq_an k0 n134 (by omega)
  replace hz : H133.size = b + 24 := n134.1
  clear k135 n134
  refine hq_put (lo := lo) C f_M_77 k0 rfl rfl (Nat.le_of_ble_eq_true rfl) hL (by omega) d_M_init_170 (fun H136 locs u137 hL => ?_)
  have k138 : va_at D vwCl (b, .inr (6, [.int (0), .int (0), .ref (b + 1), .ref (b + 2), .ref (b + 3), .ref (b + 4), .ref (b + 5), .ref (b + 6), .ref (b + 7), .ref (b + 8), .ref (b + 9), .ref (b + 10), .ref (b + 11), .ref (b + 12), .ref (b + 13), .ref (b + 14), .ref (b + 15), .ref (b + 16), .ref (b + 17), .ref (b + 18), .ref (b + 19), .ref (b + 20), .ref (b + 21), .ref (b + 22), .ref (b + 23), .null, .null, .null, .null, .null, .null, .null])) H136 := u137.2.2
  replace hO := hq_Ou hO u137 (by omega)
  replace hB : hq_B D vwCl (b + 1) 23 (fun j => mdC cI cZ b 0 0 (fun _ _ => 0) (j + 1)) H136 := hq_Bu hB u137 (by omega)
  replace hz : H136.size = b + 24 := u137.1.trans hz
  replace k0 := k138
  clear k138 u137
  refine lv_aload_n C.1 C.2.1 d_M_init_173 rfl (lv_at hl 0 rfl) ?_
  refine lv_iconst (v := 4) C.1 C.2.1 d_M_init_174 (by decide) ?_
  refine hq_newa C (by decide +kernel) 0 rfl (a0 := (4, .inl (fun _ => 0))) (N' := 4) (h := b + 24) (by first | rfl | exact vp_cell_i _ _ _) (by decide) (by decide) (by decide) (Nat.le_of_ble_eq_true rfl) (Nat.le_of_ble_eq_true rfl) hz d_M_init_175 (fun H139 n140 => ?_)
  have k141 : va_at D vwCl (b + 24, .inl (cI, 4, .inl (fun _ => 0))) H139 := n140.2.2
  replace hO := hq_On hO n140 (by omega)
  replace hB : hq_B D vwCl (b + 1) 24 (fun j => mdC cI cZ b 0 0 (fun _ _ => 0) (j + 1)) H139 := hq_Ba (hq_Bn hB n140 (by omega)) (md_at (a := b + 24) (by omega) k141)
  replace k0 := hq_an k0 n140 (by omega)
  replace hz : H139.size = b + 25 := n140.1
  clear k141 n140
  refine hq_put (lo := lo) C f_M_80 k0 rfl rfl (Nat.le_of_ble_eq_true rfl) hL (by omega) d_M_init_177 (fun H142 locs u143 hL => ?_)
  have k144 : va_at D vwCl (b, .inr (6, [.int (0), .int (0), .ref (b + 1), .ref (b + 2), .ref (b + 3), .ref (b + 4), .ref (b + 5), .ref (b + 6), .ref (b + 7), .ref (b + 8), .ref (b + 9), .ref (b + 10), .ref (b + 11), .ref (b + 12), .ref (b + 13), .ref (b + 14), .ref (b + 15), .ref (b + 16), .ref (b + 17), .ref (b + 18), .ref (b + 19), .ref (b + 20), .ref (b + 21), .ref (b + 22), .ref (b + 23), .ref (b + 24), .null, .null, .null, .null, .null, .null])) H142 := u143.2.2
  replace hO := hq_Ou hO u143 (by omega)
  replace hB : hq_B D vwCl (b + 1) 24 (fun j => mdC cI cZ b 0 0 (fun _ _ => 0) (j + 1)) H142 := hq_Bu hB u143 (by omega)
  replace hz : H142.size = b + 25 := u143.1.trans hz
  replace k0 := k144
  clear k144 u143
  refine lv_aload_n C.1 C.2.1 d_M_init_180 rfl (lv_at hl 0 rfl) ?_
  refine lv_iconst (v := 4) C.1 C.2.1 d_M_init_181 (by decide) ?_
  refine hq_newa C (by decide +kernel) 0 rfl (a0 := (4, .inl (fun _ => 0))) (N' := 4) (h := b + 25) (by first | rfl | exact vp_cell_i _ _ _) (by decide) (by decide) (by decide) (Nat.le_of_ble_eq_true rfl) (Nat.le_of_ble_eq_true rfl) hz d_M_init_182 (fun H145 n146 => ?_)
  have k147 : va_at D vwCl (b + 25, .inl (cI, 4, .inl (fun _ => 0))) H145 := n146.2.2
  replace hO := hq_On hO n146 (by omega)
  replace hB : hq_B D vwCl (b + 1) 25 (fun j => mdC cI cZ b 0 0 (fun _ _ => 0) (j + 1)) H145 := hq_Ba (hq_Bn hB n146 (by omega)) (md_at (a := b + 25) (by omega) k147)
  replace k0 := hq_an k0 n146 (by omega)
  replace hz : H145.size = b + 26 := n146.1
  clear k147 n146
  refine hq_put (lo := lo) C f_M_83 k0 rfl rfl (Nat.le_of_ble_eq_true rfl) hL (by omega) d_M_init_184 (fun H148 locs u149 hL => ?_)
  have k150 : va_at D vwCl (b, .inr (6, [.int (0), .int (0), .ref (b + 1), .ref (b + 2), .ref (b + 3), .ref (b + 4), .ref (b + 5), .ref (b + 6), .ref (b + 7), .ref (b + 8), .ref (b + 9), .ref (b + 10), .ref (b + 11), .ref (b + 12), .ref (b + 13), .ref (b + 14), .ref (b + 15), .ref (b + 16), .ref (b + 17), .ref (b + 18), .ref (b + 19), .ref (b + 20), .ref (b + 21), .ref (b + 22), .ref (b + 23), .ref (b + 24), .ref (b + 25), .null, .null, .null, .null, .null])) H148 := u149.2.2
  replace hO := hq_Ou hO u149 (by omega)
  replace hB : hq_B D vwCl (b + 1) 25 (fun j => mdC cI cZ b 0 0 (fun _ _ => 0) (j + 1)) H148 := hq_Bu hB u149 (by omega)
  replace hz : H148.size = b + 26 := u149.1.trans hz
  replace k0 := k150
  clear k150 u149
  refine lv_aload_n C.1 C.2.1 d_M_init_187 rfl (lv_at hl 0 rfl) ?_
  refine lv_iconst (v := 4) C.1 C.2.1 d_M_init_188 (by decide) ?_
  refine hq_newa C (by decide +kernel) 1 rfl (a0 := (4, .inl (fun _ => 0))) (N' := 4) (h := b + 26) (by first | rfl | exact vp_cell_i _ _ _) (by decide) (by decide) (by decide) (Nat.le_of_ble_eq_true rfl) (Nat.le_of_ble_eq_true rfl) hz d_M_init_189 (fun H151 n152 => ?_)
  have k153 : va_at D vwCl (b + 26, .inl (cZ, 4, .inl (fun _ => 0))) H151 := n152.2.2
  replace hO := hq_On hO n152 (by omega)
  replace hB : hq_B D vwCl (b + 1) 26 (fun j => mdC cI cZ b 0 0 (fun _ _ => 0) (j + 1)) H151 := hq_Ba (hq_Bn hB n152 (by omega)) (md_at (a := b + 26) (by omega) k153)
  replace k0 := hq_an k0 n152 (by omega)
  replace hz : H151.size = b + 27 := n152.1
  clear k153 n152
  refine hq_put (lo := lo) C f_M_86 k0 rfl rfl (Nat.le_of_ble_eq_true rfl) hL (by omega) d_M_init_191 (fun H154 locs u155 hL => ?_)
  have k156 : va_at D vwCl (b, .inr (6, [.int (0), .int (0), .ref (b + 1), .ref (b + 2), .ref (b + 3), .ref (b + 4), .ref (b + 5), .ref (b + 6), .ref (b + 7), .ref (b + 8), .ref (b + 9), .ref (b + 10), .ref (b + 11), .ref (b + 12), .ref (b + 13), .ref (b + 14), .ref (b + 15), .ref (b + 16), .ref (b + 17), .ref (b + 18), .ref (b + 19), .ref (b + 20), .ref (b + 21), .ref (b + 22), .ref (b + 23), .ref (b + 24), .ref (b + 25), .ref (b + 26), .null, .null, .null, .null])) H154 := u155.2.2
  replace hO := hq_Ou hO u155 (by omega)
  replace hB : hq_B D vwCl (b + 1) 26 (fun j => mdC cI cZ b 0 0 (fun _ _ => 0) (j + 1)) H154 := hq_Bu hB u155 (by omega)
  replace hz : H154.size = b + 27 := u155.1.trans hz
  replace k0 := k156
  clear k156 u155
  refine lv_aload_n C.1 C.2.1 d_M_init_194 rfl (lv_at hl 0 rfl) ?_
  refine lv_iconst (v := 4) C.1 C.2.1 d_M_init_195 (by decide) ?_
  refine hq_newa C (by decide +kernel) 0 rfl (a0 := (4, .inl (fun _ => 0))) (N' := 4) (h := b + 27) (by first | rfl | exact vp_cell_i _ _ _) (by decide) (by decide) (by decide) (Nat.le_of_ble_eq_true rfl) (Nat.le_of_ble_eq_true rfl) hz d_M_init_196 (fun H157 n158 => ?_)
  have k159 : va_at D vwCl (b + 27, .inl (cI, 4, .inl (fun _ => 0))) H157 := n158.2.2
  replace hO := hq_On hO n158 (by omega)
  replace hB : hq_B D vwCl (b + 1) 27 (fun j => mdC cI cZ b 0 0 (fun _ _ => 0) (j + 1)) H157 := hq_Ba (hq_Bn hB n158 (by omega)) (md_at (a := b + 27) (by omega) k159)
  replace k0 := hq_an k0 n158 (by omega)
  replace hz : H157.size = b + 28 := n158.1
  clear k159 n158
  refine hq_put (lo := lo) C f_M_89 k0 rfl rfl (Nat.le_of_ble_eq_true rfl) hL (by omega) d_M_init_198 (fun H160 locs u161 hL => ?_)
  have k162 : va_at D vwCl (b, .inr (6, [.int (0), .int (0), .ref (b + 1), .ref (b + 2), .ref (b + 3), .ref (b + 4), .ref (b + 5), .ref (b + 6), .ref (b + 7), .ref (b + 8), .ref (b + 9), .ref (b + 10), .ref (b + 11), .ref (b + 12), .ref (b + 13), .ref (b + 14), .ref (b + 15), .ref (b + 16), .ref (b + 17), .ref (b + 18), .ref (b + 19), .ref (b + 20), .ref (b + 21), .ref (b + 22), .ref (b + 23), .ref (b + 24), .ref (b + 25), .ref (b + 26), .ref (b + 27), .null, .null, .null])) H160 := u161.2.2
  replace hO := hq_Ou hO u161 (by omega)
  replace hB : hq_B D vwCl (b + 1) 27 (fun j => mdC cI cZ b 0 0 (fun _ _ => 0) (j + 1)) H160 := hq_Bu hB u161 (by omega)
  replace hz : H160.size = b + 28 := u161.1.trans hz
  replace k0 := k162
  clear k162 u161
  refine lv_aload_n C.1 C.2.1 d_M_init_201 rfl (lv_at hl 0 rfl) ?_
  refine lv_iconst (v := 4) C.1 C.2.1 d_M_init_202 (by decide) ?_
  refine hq_newa C (by decide +kernel) 0 rfl (a0 := (4, .inl (fun _ => 0))) (N' := 4) (h := b + 28) (by first | rfl | exact vp_cell_i _ _ _) (by decide) (by decide) (by decide) (Nat.le_of_ble_eq_true rfl) (Nat.le_of_ble_eq_true rfl) hz d_M_init_203 (fun H163 n164 => ?_)
  have k165 : va_at D vwCl (b + 28, .inl (cI, 4, .inl (fun _ => 0))) H163 := n164.2.2
  replace hO := hq_On hO n164 (by omega)
  replace hB : hq_B D vwCl (b + 1) 28 (fun j => mdC cI cZ b 0 0 (fun _ _ => 0) (j + 1)) H163 := hq_Ba (hq_Bn hB n164 (by omega)) (md_at (a := b + 28) (by omega) k165)
  replace k0 := hq_an k0 n164 (by omega)
  replace hz : H163.size = b + 29 := n164.1
  clear k165 n164
  refine hq_put (lo := lo) C f_M_92 k0 rfl rfl (Nat.le_of_ble_eq_true rfl) hL (by omega) d_M_init_205 (fun H166 locs u167 hL => ?_)
  have k168 : va_at D vwCl (b, .inr (6, [.int (0), .int (0), .ref (b + 1), .ref (b + 2), .ref (b + 3), .ref (b + 4), .ref (b + 5), .ref (b + 6), .ref (b + 7), .ref (b + 8), .ref (b + 9), .ref (b + 10), .ref (b + 11), .ref (b + 12), .ref (b + 13), .ref (b + 14), .ref (b + 15), .ref (b + 16), .ref (b + 17), .ref (b + 18), .ref (b + 19), .ref (b + 20), .ref (b + 21), .ref (b + 22), .ref (b + 23), .ref (b + 24), .ref (b + 25), .ref (b + 26), .ref (b + 27), .ref (b + 28), .null, .null])) H166 := u167.2.2
  replace hO := hq_Ou hO u167 (by omega)
  replace hB : hq_B D vwCl (b + 1) 28 (fun j => mdC cI cZ b 0 0 (fun _ _ => 0) (j + 1)) H166 := hq_Bu hB u167 (by omega)
  replace hz : H166.size = b + 29 := u167.1.trans hz
  replace k0 := k168
  clear k168 u167
  refine lv_aload_n C.1 C.2.1 d_M_init_208 rfl (lv_at hl 0 rfl) ?_
  refine lv_iconst (v := 4) C.1 C.2.1 d_M_init_209 (by decide) ?_
  refine hq_newa C (by decide +kernel) 0 rfl (a0 := (4, .inl (fun _ => 0))) (N' := 4) (h := b + 29) (by first | rfl | exact vp_cell_i _ _ _) (by decide) (by decide) (by decide) (Nat.le_of_ble_eq_true rfl) (Nat.le_of_ble_eq_true rfl) hz d_M_init_210 (fun H169 n170 => ?_)
  have k171 : va_at D vwCl (b + 29, .inl (cI, 4, .inl (fun _ => 0))) H169 := n170.2.2
  replace hO := hq_On hO n170 (by omega)
  replace hB : hq_B D vwCl (b + 1) 29 (fun j => mdC cI cZ b 0 0 (fun _ _ => 0) (j + 1)) H169 := hq_Ba (hq_Bn hB n170 (by omega)) (md_at (a := b + 29) (by omega) k171)
  replace k0 := hq_an k0 n170 (by omega)
  replace hz : H169.size = b + 30 := n170.1
  clear k171 n170
  refine hq_put (lo := lo) C f_M_95 k0 rfl rfl (Nat.le_of_ble_eq_true rfl) hL (by omega) d_M_init_212 (fun H172 locs u173 hL => ?_)
  have k174 : va_at D vwCl (b, .inr (6, [.int (0), .int (0), .ref (b + 1), .ref (b + 2), .ref (b + 3), .ref (b + 4), .ref (b + 5), .ref (b + 6), .ref (b + 7), .ref (b + 8), .ref (b + 9), .ref (b + 10), .ref (b + 11), .ref (b + 12), .ref (b + 13), .ref (b + 14), .ref (b + 15), .ref (b + 16), .ref (b + 17), .ref (b + 18), .ref (b + 19), .ref (b + 20), .ref (b + 21), .ref (b + 22), .ref (b + 23), .ref (b + 24), .ref (b + 25), .ref (b + 26), .ref (b + 27), .ref (b + 28), .ref (b + 29), .null])) H172 := u173.2.2
  replace hO := hq_Ou hO u173 (by omega)
  replace hB : hq_B D vwCl (b + 1) 29 (fun j => mdC cI cZ b 0 0 (fun _ _ => 0) (j + 1)) H172 := hq_Bu hB u173 (by omega)
  replace hz : H172.size = b + 30 := u173.1.trans hz
  replace k0 := k174
  clear k174 u173
  refine lv_aload_n C.1 C.2.1 d_M_init_215 rfl (lv_at hl 0 rfl) ?_
  refine lv_iconst (v := 4) C.1 C.2.1 d_M_init_216 (by decide) ?_
  refine hq_newa C (by decide +kernel) 0 rfl (a0 := (4, .inl (fun _ => 0))) (N' := 4) (h := b + 30) (by first | rfl | exact vp_cell_i _ _ _) (by decide) (by decide) (by decide) (Nat.le_of_ble_eq_true rfl) (Nat.le_of_ble_eq_true rfl) hz d_M_init_217 (fun H175 n176 => ?_)
  have k177 : va_at D vwCl (b + 30, .inl (cI, 4, .inl (fun _ => 0))) H175 := n176.2.2
  replace hO := hq_On hO n176 (by omega)
  replace hB : hq_B D vwCl (b + 1) 30 (fun j => mdC cI cZ b 0 0 (fun _ _ => 0) (j + 1)) H175 := hq_Ba (hq_Bn hB n176 (by omega)) (md_at (a := b + 30) (by omega) k177)
  replace k0 := hq_an k0 n176 (by omega)
  replace hz : H175.size = b + 31 := n176.1
  clear k177 n176
  refine hq_put (lo := lo) C f_M_98 k0 rfl rfl (Nat.le_of_ble_eq_true rfl) hL (by omega) d_M_init_219 (fun H178 locs u179 hL => ?_)
  have k180 : va_at D vwCl (b, .inr (6, [.int (0), .int (0), .ref (b + 1), .ref (b + 2), .ref (b + 3), .ref (b + 4), .ref (b + 5), .ref (b + 6), .ref (b + 7), .ref (b + 8), .ref (b + 9), .ref (b + 10), .ref (b + 11), .ref (b + 12), .ref (b + 13), .ref (b + 14), .ref (b + 15), .ref (b + 16), .ref (b + 17), .ref (b + 18), .ref (b + 19), .ref (b + 20), .ref (b + 21), .ref (b + 22), .ref (b + 23), .ref (b + 24), .ref (b + 25), .ref (b + 26), .ref (b + 27), .ref (b + 28), .ref (b + 29), .ref (b + 30)])) H178 := u179.2.2
  replace hO := hq_Ou hO u179 (by omega)
  replace hB : hq_B D vwCl (b + 1) 30 (fun j => mdC cI cZ b 0 0 (fun _ _ => 0) (j + 1)) H178 := hq_Bu hB u179 (by omega)
  replace hz : H178.size = b + 31 := u179.1.trans hz
  replace k0 := k180
  clear k180 u179
  refine lv_aload_n C.1 C.2.1 d_M_init_222 rfl (lv_at hl 0 rfl) ?_
  refine lv_iload_n C.1 C.2.1 d_M_init_223 rfl (lv_at hl 1 rfl) ?_
  refine lv_iconst (v := 2) C.1 C.2.1 d_M_init_224 (by decide) ?_
  refine lv_icmp_ge (tgt := 232) C.1 C.2.1 d_M_init_225 (by decide) ?_ ?_
  · intro c0
    refine lv_iload_n C.1 C.2.1 d_M_init_232 rfl (lv_at hl 1 rfl) ?_
    refine lv_iconst (v := 4) C.1 C.2.1 d_M_init_233 (by decide) ?_
    refine lv_icmp_le (tgt := 241) C.1 C.2.1 d_M_init_234 (by decide) ?_ ?_
    · intro c1
      refine lv_iload_n C.1 C.2.1 d_M_init_241 rfl (lv_at hl 1 rfl) ?_
      refine hq_put (lo := lo) C f_M_101 k0 rfl rfl (Nat.le_of_ble_eq_true rfl) hL (by omega) d_M_init_242 (fun H181 locs u182 hL => ?_)
      have k183 : va_at D vwCl (b, .inr (6, [.int (0), .int (x), .ref (b + 1), .ref (b + 2), .ref (b + 3), .ref (b + 4), .ref (b + 5), .ref (b + 6), .ref (b + 7), .ref (b + 8), .ref (b + 9), .ref (b + 10), .ref (b + 11), .ref (b + 12), .ref (b + 13), .ref (b + 14), .ref (b + 15), .ref (b + 16), .ref (b + 17), .ref (b + 18), .ref (b + 19), .ref (b + 20), .ref (b + 21), .ref (b + 22), .ref (b + 23), .ref (b + 24), .ref (b + 25), .ref (b + 26), .ref (b + 27), .ref (b + 28), .ref (b + 29), .ref (b + 30)])) H181 := u182.2.2
      replace hO := hq_Ou hO u182 (by omega)
      replace hB : hq_B D vwCl (b + 1) 30 (fun j => mdC cI cZ b 0 0 (fun _ _ => 0) (j + 1)) H181 := hq_Bu hB u182 (by omega)
      replace hz : H181.size = b + 31 := u182.1.trans hz
      replace k0 := k183
      clear k183 u182
      have hv : clip x = x := by unfold clip; rw [if_neg (md_ge c0), if_neg (md_le c1)]
      refine hq_vret C hret hlk (Nat.le_of_ble_eq_true rfl) (Nat.le_of_ble_eq_true rfl) hL ⟨rfl, hz, ?_, hO⟩ d_M_init_245
      rw [hv]
      exact hq_B2 (n := 1) (k := 30) (C2 := (fun j => mdC cI cZ b 0 0 (fun _ _ => 0) (j + 1))) (hq_Ba hq_B0 k0) hB (fun j hj => by rw [Nat.add_comm 1 j]; exact md_tail j hj)
    · intro c1
      refine lv_iconst (v := 4) C.1 C.2.1 d_M_init_237 (by decide) ?_
      refine lv_goto (tgt := 242) C.1 C.2.1 d_M_init_238 (by decide) ?_
      refine hq_put (lo := lo) C f_M_101 k0 rfl rfl (Nat.le_of_ble_eq_true rfl) hL (by omega) d_M_init_242 (fun H184 locs u185 hL => ?_)
      have k186 : va_at D vwCl (b, .inr (6, [.int (0), .int (4), .ref (b + 1), .ref (b + 2), .ref (b + 3), .ref (b + 4), .ref (b + 5), .ref (b + 6), .ref (b + 7), .ref (b + 8), .ref (b + 9), .ref (b + 10), .ref (b + 11), .ref (b + 12), .ref (b + 13), .ref (b + 14), .ref (b + 15), .ref (b + 16), .ref (b + 17), .ref (b + 18), .ref (b + 19), .ref (b + 20), .ref (b + 21), .ref (b + 22), .ref (b + 23), .ref (b + 24), .ref (b + 25), .ref (b + 26), .ref (b + 27), .ref (b + 28), .ref (b + 29), .ref (b + 30)])) H184 := u185.2.2
      replace hO := hq_Ou hO u185 (by omega)
      replace hB : hq_B D vwCl (b + 1) 30 (fun j => mdC cI cZ b 0 0 (fun _ _ => 0) (j + 1)) H184 := hq_Bu hB u185 (by omega)
      replace hz : H184.size = b + 31 := u185.1.trans hz
      replace k0 := k186
      clear k186 u185
      have hv : clip x = 4 := by unfold clip; rw [if_neg (md_ge c0), if_pos (md_nle c1)]
      refine hq_vret C hret hlk (Nat.le_of_ble_eq_true rfl) (Nat.le_of_ble_eq_true rfl) hL ⟨rfl, hz, ?_, hO⟩ d_M_init_245
      rw [hv]
      exact hq_B2 (n := 1) (k := 30) (C2 := (fun j => mdC cI cZ b 0 0 (fun _ _ => 0) (j + 1))) (hq_Ba hq_B0 k0) hB (fun j hj => by rw [Nat.add_comm 1 j]; exact md_tail j hj)
  · intro c0
    refine lv_iconst (v := 2) C.1 C.2.1 d_M_init_228 (by decide) ?_
    refine lv_goto (tgt := 242) C.1 C.2.1 d_M_init_229 (by decide) ?_
    refine hq_put (lo := lo) C f_M_101 k0 rfl rfl (Nat.le_of_ble_eq_true rfl) hL (by omega) d_M_init_242 (fun H187 locs u188 hL => ?_)
    have k189 : va_at D vwCl (b, .inr (6, [.int (0), .int (2), .ref (b + 1), .ref (b + 2), .ref (b + 3), .ref (b + 4), .ref (b + 5), .ref (b + 6), .ref (b + 7), .ref (b + 8), .ref (b + 9), .ref (b + 10), .ref (b + 11), .ref (b + 12), .ref (b + 13), .ref (b + 14), .ref (b + 15), .ref (b + 16), .ref (b + 17), .ref (b + 18), .ref (b + 19), .ref (b + 20), .ref (b + 21), .ref (b + 22), .ref (b + 23), .ref (b + 24), .ref (b + 25), .ref (b + 26), .ref (b + 27), .ref (b + 28), .ref (b + 29), .ref (b + 30)])) H187 := u188.2.2
    replace hO := hq_Ou hO u188 (by omega)
    replace hB : hq_B D vwCl (b + 1) 30 (fun j => mdC cI cZ b 0 0 (fun _ _ => 0) (j + 1)) H187 := hq_Bu hB u188 (by omega)
    replace hz : H187.size = b + 31 := u188.1.trans hz
    replace k0 := k189
    clear k189 u188
    have hv : clip x = 2 := by unfold clip; rw [if_pos (md_nge c0)]
    refine hq_vret C hret hlk (Nat.le_of_ble_eq_true rfl) (Nat.le_of_ble_eq_true rfl) hL ⟨rfl, hz, ?_, hO⟩ d_M_init_245
    rw [hv]
    exact hq_B2 (n := 1) (k := 30) (C2 := (fun j => mdC cI cZ b 0 0 (fun _ _ => 0) (j + 1))) (hq_Ba hq_B0 k0) hB (fun j hj => by rw [Nat.add_comm 1 j]; exact md_tail j hj)
end
section
section HQN
variable {p : Program} {l : Launch} {e : Env} {R : Room} {s : State} {m : MethodId} {args : Array Value} {below : List Frame} {meth : Method} {c : Code} {H : Heap} {locs : List Loc} {cells slots : Nat} {Q : State → Prop}
variable {cc : ByteArray} {pc : Nat} {ls : Array Slot} {rest : List Value} {D : va_G} {cl : List vw_C} {tys : List (ClassId × FieldType)} {own : String} {Ts : List Cond}
theorem hq_newqs (C : hq_C p c s m args own cc Ts D cl tys) {index : Nat} {Cn : String} (hcl : Cond.classLink own index Cn ∈ Ts) (hover : va_AO Cn s) (t0 : Nat) {cA : ClassId} (ht : tys[t0]? = some (cA, .object Cn)) {n : Int32} {N' : Nat} (hn : ¬ n < 0) (hN : n.toNatClampNeg = N') (hbytes : N' * 4 ≤ 536870912) (hcells : cells + 1 ≤ R.cells) (hslots : slots + N' ≤ R.slots) {h : Nat} (hh : H.size = h) (hdg : decode cc pc = .ok (.anewarray index, 3))
    (kk : ∀ H1 : Heap, hq_N D cl h (.inl (cA, N', .inr (.inr (.inr (.inr (fun _ => none)))))) H H1 → W p l e R s m args below meth c H1 locs (cells + 1) (slots + N') Q (F0 m (pc + 3) ls (.ref h :: rest))) : W p l e R s m args below meth c H locs cells slots Q (F0 m pc ls (.int n :: rest)) := by
  obtain ⟨hx, hb, hown, hts, hK⟩ := C
  subst hN
  refine W.anew hx hb hown (hts _ hcl) (va_AO.use hover) rfl hdg rfl hn hbytes hcells hslots fun cB kA comp f1 f2 f3 f4 => ?_
  obtain ⟨kA', comp', k1, k2, k3, k4⟩ := (hK.2 t0 _ ht).2
  have hcc : cB = cA := Option.some.inj (f1.symm.trans k4)
  subst hcc
  generalize hH1 : H.push ({ cls := cB, slots := Array.replicate n.toNatClampNeg .null, vm := .none } : Cell) = H1
  have z1 : H1.size = h + 1 := by rw [← hH1, Array.size_push, hh]
  have e1 : H1[h]? = some (arrV cB n.toNatClampNeg (fun _ => .null)) := by rw [← hH1, ← hh, Array.getElem?_push_size, ← arrV_new]
  have o1 : ∀ q : Nat, q < h → H1[q]? = H[q]? := fun q hq => by rw [← hH1, Array.getElem?_push, if_neg (by omega)]
  rw [hh]
  refine kk H1 ⟨z1, o1, ?_⟩
  show H1[h]? = some (vp_cell _ _)
  rw [vp_cell_q]
  exact e1
end HQN
/-! The bus: an object at x, its levels, totals and row of nodes right behind it, then its nodes, ten cells each. -/
def nref (x k : Nat) : Nat → Option Nat := fun i => if i < k then some (x + 4 + 10 * i) else none
def busC (cI cN : ClassId) (x n : Nat) (lev tot : Nat → Int32) : Nat → va_E := fun j => match j with
  | 0 => .inr (5, [.ref (x + 3), .ref (x + 1), .ref (x + 2)])
  | 1 => .inl (cI, 64, .inl lev)
  | 2 => .inl (cI, 8, .inl tot)
  | _ => .inl (cN, n, .inr (.inr (.inr (.inr (nref x n)))))
/-- the bus at x holds n nodes with the numbers N and the rows R -/
def busP (D : va_G) (cI cZ cN : ClassId) (x n : Nat) (N : Nat → Nat → Int32) (R : Nat → Nat → Nat → Int32) (lev tot : Nat → Int32) (H : Heap) : Prop :=
  hq_B D vwCl x 4 (busC cI cN x n lev tot) H ∧ ∀ i, i < n → hq_B D vwCl (x + 4 + 10 * i) 10 (ndC cI cZ (x + 4 + 10 * i) (N i) (R i)) H
theorem nref_up (x i : Nat) : va_up (nref x i) i (some (x + 4 + 10 * i)) = nref x (i + 1) := by
  funext j
  unfold va_up nref
  by_cases h : j = i
  · subst h
    rw [if_pos rfl, if_pos (Nat.lt_succ_self _)]
  · rw [if_neg h]
    by_cases h2 : j < i
    · rw [if_pos h2, if_pos (by omega)]
    · rw [if_neg h2, if_neg (by omega)]
theorem clip_mm (x : Int32) : (if (2 : Int32) < (if x < 4 then x else 4) then (if x < 4 then x else 4) else 2) = clip x := by
  have e2 : (2 : Int32).toInt = 2 := rfl
  have e4 : (4 : Int32).toInt = 4 := rfl
  unfold clip
  by_cases a : x < 4
  · rw [if_pos a]
    have hn : ¬ (4 : Int32) < x := by rw [Int32.lt_iff_toInt_lt] at a ⊢; omega
    by_cases b : x < 2
    · rw [if_pos b, if_neg (by rw [Int32.lt_iff_toInt_lt] at b ⊢; omega)]
    · rw [if_neg b, if_neg hn]
      by_cases d : (2 : Int32) < x
      · rw [if_pos d]
      · rw [if_neg d]
        apply Int32.toInt_inj.mp
        rw [Int32.lt_iff_toInt_lt] at b d
        omega
  · rw [if_neg a, if_pos (by decide), if_neg (by rw [Int32.lt_iff_toInt_lt] at a ⊢; omega)]
    by_cases d : (4 : Int32) < x
    · rw [if_pos d]
    · rw [if_neg d]
      apply Int32.toInt_inj.mp
      rw [Int32.lt_iff_toInt_lt] at a d
      omega
theorem clip_n (x : Int32) : ∃ n : Nat, 2 ≤ n ∧ n ≤ 4 ∧ clip x = nI n := by
  have e2 : (2 : Int32).toInt = 2 := rfl
  have e4 : (4 : Int32).toInt = 4 := rfl
  unfold clip
  by_cases a : x < 2
  · exact ⟨2, by omega, by omega, by rw [if_pos a]; rfl⟩
  · rw [if_neg a]
    by_cases b : (4 : Int32) < x
    · exact ⟨4, by omega, by omega, by rw [if_pos b]; rfl⟩
    · rw [if_neg b]
      rw [Int32.lt_iff_toInt_lt] at a b
      refine ⟨x.toInt.toNat, by omega, by omega, ?_⟩
      apply Int32.toInt_inj.mp
      rw [nI_toInt (by omega)]
      omega
set_option maxRecDepth 100000 in
theorem cw_min : Cond.code Lib.Math.min.name Lib.Math.min.code 2 (some .int) ∈ TB := tb_at 52 rfl rfl
set_option maxRecDepth 100000 in
theorem cw_max : Cond.code Lib.Math.max.name Lib.Math.max.code 2 (some .int) ∈ TB := tb_at 55 rfl rfl
set_option maxRecDepth 100000 in
theorem mw_min : Cond.methodLink R_X 16 Lib.Math.min.name ∈ TB ∧ Cond.static Lib.Math.min.name ∈ TB ∧ Cond.initialized "java/lang/Math" ∈ TB := ⟨by decide +kernel, by decide +kernel, by decide +kernel⟩
set_option maxRecDepth 100000 in
theorem mw_max : Cond.methodLink R_X 22 Lib.Math.max.name ∈ TB ∧ Cond.static Lib.Math.max.name ∈ TB := ⟨by decide +kernel, by decide +kernel⟩
abbrev xRm : Room := { frames := 3, cells := 43, slots := 1252, locals := 62 }
def xPost (D : va_G) (cI cZ cN : ClassId) (x n : Nat) : Heap → Option Value → Heap → Prop := fun H v H' => v = none ∧ H'.size = x + 4 + 10 * n ∧ busP D cI cZ cN x n (fun _ => N0) (fun _ => R0) (fun _ => 0) (fun _ => 0) H' ∧ hq_O x H H'
def xInv (D : va_G) (cI cZ cN : ClassId) (x n i : Nat) (H0 H : Heap) : Prop := H.size = x + 4 + 10 * i ∧ va_at D vwCl (x, .inr (5, [.ref (x + 3), .ref (x + 1), .ref (x + 2)])) H ∧ va_at D vwCl (x + 1, .inl (cI, 64, .inl (fun _ => 0))) H ∧ va_at D vwCl (x + 2, .inl (cI, 8, .inl (fun _ => 0))) H ∧ va_at D vwCl (x + 3, .inl (cN, n, .inr (.inr (.inr (.inr (nref x i)))))) H ∧ (∀ k, k < i → hq_B D vwCl (x + 4 + 10 * k) 10 (ndC cI cZ (x + 4 + 10 * k) N0 R0) H) ∧ hq_O x H0 H
set_option maxHeartbeats 4000000 in
set_option maxRecDepth 100000 in
theorem x_loop {p : Program} {l : Launch} {e : Env} {s : State} {m : MethodId} {args : Array Value} {below : List Frame} {meth : Method} {c : Code} (D : va_G) (cI cZ cN cJ : ClassId) (lo x n : Nat) (xx : Int32) (hlo : lo ≤ x) (hn4 : n ≤ 4) (C : hq_C p c s m args R_X b_X_init TB D vwCl (TY cI cZ cN cJ)) (hml : c.maxLocals = 3) (hret : meth.sig.returnType = none) (hlk : meth.locks = false) (hNW : hq_NW s) :
    ∀ (d i : Nat) (H : Heap) (locs : List Loc) (ls : Array Slot), i + d = n → xInv D cI cZ cN x n i s.heap H → hq_L lo locs → lv_has ls 3 [(2, .int (nI i)), (0, .ref x), (1, .int xx)] →
      W p l e xRm s m args below meth c H locs (3 + 10 * i) (72 + n + 294 * i) (MQ below (hq_Q (xPost D cI cZ cN x n)) args s xRm.cells xRm.slots (fun q => lo ≤ q)) (F0 m 38 ls []) := by
  intro d
  induction d with
  | zero =>
    -- the end
    intro i H locs ls hd hI hL hl
    obtain ⟨hz, k0, k1, k2, k3, kN, hO⟩ := hI
    refine lv_iload_n C.1 C.2.1 d_X_init_38 rfl (lv_at hl 0 rfl) ?_
    refine lv_aload_n C.1 C.2.1 d_X_init_39 rfl (lv_at hl 1 rfl) ?_
    refine hq_get (v := .ref (x + 3)) C f_X_27 k0 rfl d_X_init_40 ?_
    refine hq_alen C 2 rfl k3 (v := nI n) rfl d_X_init_43 ?_
    have hin : i = n := by omega
    subst hin
    refine lv_icmp_ge (tgt := 66) C.1 C.2.1 d_X_init_44 (by decide) (fun _ => ?_) (fun hn => absurd (Int32.le_refl _) hn)
    refine hq_vret C hret hlk (by show 3 + 10 * i ≤ 43; omega) (by show 72 + i + 294 * i ≤ 1252; omega) hL ⟨rfl, hz, ⟨?_, kN⟩, hO⟩ d_X_init_66
    exact hq_Ba (hq_Ba (hq_Ba (hq_Ba hq_B0 k0) k1) k2) k3
  | succ d ih =>
    intro i H locs ls hd hI hL hl
    obtain ⟨hz, k0, k1, k2, k3, kN, hO⟩ := hI
    refine lv_iload_n C.1 C.2.1 d_X_init_38 rfl (lv_at hl 0 rfl) ?_
    refine lv_aload_n C.1 C.2.1 d_X_init_39 rfl (lv_at hl 1 rfl) ?_
    refine hq_get (v := .ref (x + 3)) C f_X_27 k0 rfl d_X_init_40 ?_
    refine hq_alen C 2 rfl k3 (v := nI n) rfl d_X_init_43 ?_
    have hin : i < n := by omega
    refine lv_icmp_ge (tgt := 66) C.1 C.2.1 d_X_init_44 (by decide) (fun hn => absurd hn (nI_ge hin (by omega))) (fun _ => ?_)
    refine lv_aload_n C.1 C.2.1 d_X_init_47 rfl (lv_at hl 1 rfl) ?_
    refine hq_get (v := .ref (x + 3)) C f_X_27 k0 rfl d_X_init_48 ?_
    refine lv_iload_n C.1 C.2.1 d_X_init_51 rfl (lv_at hl 0 rfl) ?_
    refine hq_new C k_No (by decide +kernel) (by decide +kernel) (by decide +kernel) (fs := [.null, .null, .null, .null, .null, .int (0), .int (0), .int (0), .int (0), .int (0), .int (0), .int (0), .int (0), .int (0), .int (0), .int (0), .int (0), .int (0)]) (by decide +kernel) (by show 3 + 10 * i + 1 ≤ 43; omega) (by show 72 + n + 294 * i + 18 ≤ 1252; omega) (h := x + 4 + 10 * i) hz d_X_init_52 (fun H1 n1 => ?_)
    have k41 : va_at D vwCl (x + 4 + 10 * i, .inr (3, [.null, .null, .null, .null, .null, .int (0), .int (0), .int (0), .int (0), .int (0), .int (0), .int (0), .int (0), .int (0), .int (0), .int (0), .int (0), .int (0)])) H1 := n1.2.2
    refine lv_dup C.1 C.2.1 d_X_init_55 rfl ?_
    refine hq_callIN (lo := lo) (As := []) (rest := [.ref (x + 4 + 10 * i), .int (nI i), .ref (x + 3)]) C tb_good hml Y_X_31 hNW.2.2.2.2 (c_No_init l D cI cZ cN cJ lo (x + 4 + 10 * i) (by omega)) (fun _ _ _ _ h => ⟨hq_NW.call h.1, h.2⟩) (fun U hU hW => ⟨hq_NW.warm hW hNW, by rw [hU]; exact n1.1, by rw [hU]; exact k41⟩) hL hl.1 rfl rfl ⟨⟨Nat.le_of_ble_eq_true rfl, Nat.le_of_ble_eq_true rfl⟩, by show 3 + 10 * i + 1 + 9 ≤ 43; omega, by show 72 + n + 294 * i + 18 + 276 ≤ 1252; omega⟩ (Nat.le_of_ble_eq_true rfl) d_X_init_56 (fun v H2 locs hp hL => ?_)
    obtain ⟨rfl, z2, B2, o2⟩ := hp
    refine W.eq (g2 := F0 m 59 ls [.ref (x + 4 + 10 * i), .int (nI i), .ref (x + 3)]) rfl ?_
    have k42 := hq_ao (hq_an k3 n1 (by omega)) o2 (by omega)
    have k43 := hq_ao (hq_an k0 n1 (by omega)) o2 (by omega)
    have k44 := hq_ao (hq_an k1 n1 (by omega)) o2 (by omega)
    have k45 := hq_ao (hq_an k2 n1 (by omega)) o2 (by omega)
    refine hq_aast (lo := lo) C 2 3 (r := (R_No, T_No, 18)) rfl rfl k42 (B2 0 (by decide)) (vp_in_nI hin (by omega)) hL (by omega) d_X_init_59 (fun H3 locs u3 hL => ?_)
    have kN3 : ∀ k, k < i + 1 → hq_B D vwCl (x + 4 + 10 * k) 10 (ndC cI cZ (x + 4 + 10 * k) N0 R0) H3 := by
      intro k hk
      by_cases hki : k = i
      · subst hki; exact hq_Bu B2 u3 (by omega)
      · exact hq_Bu (hq_Bo (hq_Bn (kN k (by omega)) n1 (by omega)) o2 (by omega)) u3 (by omega)
    have k3n : va_at D vwCl (x + 3, .inl (cN, n, .inr (.inr (.inr (.inr (nref x (i + 1))))))) H3 := by
      have h9 : va_at D vwCl (x + 3, .inl (cN, n, .inr (.inr (.inr (.inr (va_up (nref x i) (nI i).toNatClampNeg (some (x + 4 + 10 * i)))))))) H3 := u3.2.2
      rw [nI_clamp (by omega), nref_up] at h9
      exact h9
    have hI3 : xInv D cI cZ cN x n (i + 1) s.heap H3 := ⟨by have z3 := u3.1; omega, hq_au k43 u3 (by omega), hq_au k44 u3 (by omega), hq_au k45 u3 (by omega), k3n, kN3, hq_Ou (hq_Oo (hq_On hO n1 (by omega)) o2 (by omega)) u3 (by omega)⟩
    refine lv_iinc (k := 0) (v := nI (i + 1)) C.1 C.2.1 d_X_init_60 hl rfl (nI_1 i) (by decide) (lv' := [(2, .int (nI (i + 1))), (0, .ref x), (1, .int xx)]) rfl (fun ls hl => ?_)
    refine lv_goto (tgt := 38) C.1 C.2.1 d_X_init_63 (by decide) ?_
    have hW := ih (i + 1) H3 locs ls (by omega) hI3 hL hl
    refine W.cs (by show 3 + 10 * i + 1 + 9 = 3 + 10 * (i + 1); omega) (by show 72 + n + 294 * i + 18 + 276 = 72 + n + 294 * (i + 1); omega) hW
set_option maxHeartbeats 4000000 in
set_option maxRecDepth 100000 in
theorem c_X_init (l : Launch) (D : va_G) (cI cZ cN cJ : ClassId) (lo : Nat) (x n : Nat) (xx : Int32) (hlo : lo ≤ x) (hn4 : n ≤ 4) (hc : clip xx = nI n) : hq_M l y_X_init b_X_init 3 none TB xRm lo D vwCl (TY cI cZ cN cJ) [.ref x, .int xx] (fun U => hq_NW U ∧ va_AO R_No U ∧ U.heap.size = x + 1 ∧ va_at D vwCl (x, .inr (5, [.null, .null, .null])) U.heap) (xPost D cI cZ cN x n) := by
  refine hq_ofW (by decide) (Nat.le_of_ble_eq_true rfl) ?_
  intro p e s m below meth c ls C hml hret hlk hnm hl hP
  obtain ⟨hNW, hAO, hz, k0⟩ := hP
  have hL : hq_L lo [] := hq_L0
  have hl : lv_has ls 3 [(0, .ref x), (1, .int xx)] := hl
  refine lv_aload_n C.1 C.2.1 d_X_init_0 rfl (lv_at hl 0 rfl) ?_
  refine W.objInit C.1 C.2.1 C.2.2.1 (C.2.2.2.1 _ oi_X) (C.2.2.2.1 _ oi_inst) (C.2.2.2.1 _ oi_code) rfl (by rw [hml]; exact hl.1) rfl d_X_init_1 (Nat.le_of_ble_eq_true rfl) (Nat.le_of_ble_eq_true rfl) ?_
  refine W.eq (g2 := F0 m 4 ls []) rfl ?_
  refine lv_aload_n C.1 C.2.1 d_X_init_4 rfl (lv_at hl 0 rfl) ?_
  refine lv_bipush (v := 64) C.1 C.2.1 d_X_init_5 (by decide) ?_
  refine hq_newa C (by decide +kernel) 0 rfl (a0 := (64, .inl (fun _ => 0))) (N' := 64) (h := x + 1) (by first | rfl | exact vp_cell_i _ _ _) (by decide) (by decide) (by decide) (Nat.le_of_ble_eq_true rfl) (Nat.le_of_ble_eq_true rfl) hz d_X_init_7 (fun H41 n42 => ?_)
  have k43 : va_at D vwCl (x + 1, .inl (cI, 64, .inl (fun _ => 0))) H41 := n42.2.2
  replace hz : H41.size = x + 2 := n42.1
  have k44 := hq_an k0 n42 (by omega)
  refine hq_putF (lo := lo) C f_X_9 hnm (fun r hr => by cases hr; rfl) k44 rfl rfl (Nat.le_of_ble_eq_true rfl) hL (by omega) d_X_init_9 (fun H45 locs u46 hL => ?_)
  have k47 : va_at D vwCl (x, .inr (5, [.null, .ref (x + 1), .null])) H45 := u46.2.2
  replace hz : H45.size = x + 2 := u46.1.trans hz
  refine lv_aload_n C.1 C.2.1 d_X_init_12 rfl (lv_at hl 0 rfl) ?_
  refine lv_bipush (v := 8) C.1 C.2.1 d_X_init_13 (by decide) ?_
  refine hq_newa C (by decide +kernel) 0 rfl (a0 := (8, .inl (fun _ => 0))) (N' := 8) (h := x + 2) (by first | rfl | exact vp_cell_i _ _ _) (by decide) (by decide) (by decide) (Nat.le_of_ble_eq_true rfl) (Nat.le_of_ble_eq_true rfl) hz d_X_init_15 (fun H48 n49 => ?_)
  have k50 : va_at D vwCl (x + 2, .inl (cI, 8, .inl (fun _ => 0))) H48 := n49.2.2
  replace hz : H48.size = x + 3 := n49.1
  have k51 := hq_an k47 n49 (by omega)
  refine hq_putF (lo := lo) C f_X_13 hnm (fun r hr => by cases hr; rfl) k51 rfl rfl (Nat.le_of_ble_eq_true rfl) hL (by omega) d_X_init_17 (fun H52 locs u53 hL => ?_)
  have k54 : va_at D vwCl (x, .inr (5, [.null, .ref (x + 1), .ref (x + 2)])) H52 := u53.2.2
  replace hz : H52.size = x + 3 := u53.1.trans hz
  refine lv_aload_n C.1 C.2.1 d_X_init_20 rfl (lv_at hl 0 rfl) ?_
  refine lv_iconst (v := 2) C.1 C.2.1 d_X_init_21 (by decide) ?_
  refine lv_iconst (v := 4) C.1 C.2.1 d_X_init_22 (by decide) ?_
  refine lv_iload_n C.1 C.2.1 d_X_init_23 rfl (lv_at hl 1 rfl) ?_
  refine va_mmin C.1 C.2.1 (hml.trans hl.1.symm) C.2.2.1 (C.2.2.2.1 _ mw_min.1) (C.2.2.2.1 _ mw_min.2.1) (C.2.2.2.1 _ mw_min.2.2) (C.2.2.2.1 _ cw_min) (Nat.le_of_ble_eq_true rfl) (Nat.le_of_ble_eq_true rfl) (Nat.le_of_ble_eq_true rfl) (Nat.le_of_ble_eq_true rfl) d_X_init_24 ?_
  refine va_mmax C.1 C.2.1 (hml.trans hl.1.symm) C.2.2.1 (C.2.2.2.1 _ mw_max.1) (C.2.2.2.1 _ mw_max.2) (C.2.2.2.1 _ mw_min.2.2) (C.2.2.2.1 _ cw_max) (Nat.le_of_ble_eq_true rfl) (Nat.le_of_ble_eq_true rfl) (Nat.le_of_ble_eq_true rfl) (Nat.le_of_ble_eq_true rfl) d_X_init_27 ?_
  rw [clip_mm, hc]
  refine hq_newqs C (by decide +kernel) hAO 2 rfl (N' := n) (n := nI n) (nI_pos (by omega)) (nI_clamp (by omega)) (by omega) (Nat.le_of_ble_eq_true rfl) (by show 0 + 64 + 8 + n ≤ 1252; omega) (h := x + 3) hz d_X_init_30 (fun Ha na => ?_)
  have k55 : va_at D vwCl (x + 3, .inl (cN, n, .inr (.inr (.inr (.inr (fun _ => none)))))) Ha := na.2.2
  replace hz : Ha.size = x + 4 := na.1
  have k56 := hq_an k54 na (by omega)
  refine hq_putF (lo := lo) C f_X_27 hnm (fun r hr => by cases hr; rfl) k56 rfl rfl (Nat.le_of_ble_eq_true rfl) hL (by omega) d_X_init_33 (fun H57 locs u58 hL => ?_)
  have k59 : va_at D vwCl (x, .inr (5, [.ref (x + 3), .ref (x + 1), .ref (x + 2)])) H57 := u58.2.2
  replace hz : H57.size = x + 4 := u58.1.trans hz
  refine lv_iconst (v := 0) C.1 C.2.1 d_X_init_36 (by decide) ?_
  refine lv_istore_n C.1 C.2.1 d_X_init_37 rfl hl (by decide) rfl (lv' := [(2, .int (0)), (0, .ref (x)), (1, .int (xx))]) (fun ls hl => ?_)
  have hO : hq_O x s.heap H57 := fun q hq => ((u58.2.1 q (by omega)).trans ((na.2.1 q (by omega)).trans ((u53.2.1 q (by omega)).trans ((n49.2.1 q (by omega)).trans ((u46.2.1 q (by omega)).trans (n42.2.1 q (by omega)))))))
  have k60 := hq_au (hq_an (hq_au (hq_an (hq_au k43 u46 (by omega)) n49 (by omega)) u53 (by omega)) na (by omega)) u58 (by omega)
  have k61 := hq_au (hq_an (hq_au k50 u53 (by omega)) na (by omega)) u58 (by omega)
  have k62 := hq_au k55 u58 (by omega)
  have hf : (fun _ => none : Nat → Option Nat) = nref x 0 := by funext j; unfold nref; rw [if_neg (Nat.not_lt_zero j)]
  have k3 : va_at D vwCl (x + 3, .inl (cN, n, .inr (.inr (.inr (.inr (nref x 0)))))) H57 := by rw [← hf]; exact k62
  have hI : xInv D cI cZ cN x n 0 s.heap H57 := ⟨by omega, k59, k60, k61, k3, fun k hk => absurd hk (Nat.not_lt_zero k), hO⟩
  refine W.cs (by show 0 + 1 + 1 + 1 = 3 + 10 * 0; rfl) (by show 0 + 64 + 8 + n = 72 + n + 294 * 0; omega) ?_
  exact x_loop D cI cZ cN cJ lo x n xx hlo hn4 C hml hret hlk hNW n 0 _ _ _ (by omega) hI hL hl
end
section
/-! Methods that only read. -/
def el (x : Int32) : Int32 := if x < 0 then 0 else if 2047 < x then 0 else 1
def fl (x : Int32) : Int32 := if x < 4 then 0 else 1
set_option maxHeartbeats 4000000 in
set_option maxRecDepth 100000 in
theorem c_isEleven (l : Launch) (D : va_G) (cI cZ cN cJ : ClassId) (lo : Nat) (x : Int32) : hq_M l y_X_isEleven b_X_isEleven 1 (some .boolean) TB { frames := 0, cells := 0, slots := 0, locals := 0 } lo D vwCl (TY cI cZ cN cJ) [.int x] (fun _ => True) (fun H v H' => v = some (.int (el x)) ∧ H' = H) := by
  refine hq_ofW (by decide) (Nat.le_of_ble_eq_true rfl) ?_
  intro p e s m below meth c ls C hml hret hlk hnm hl hP
  have hL : hq_L lo [] := hq_L0
  have hl : lv_has ls 1 [(0, .int (x))] := hl
  refine lv_iload_n C.1 C.2.1 d_X_isEleven_0 rfl (lv_at hl 0 rfl) ?_
  refine lv_if_lt (tgt := 15) C.1 C.2.1 d_X_isEleven_1 (by decide) ?_ ?_
  · intro c0
    refine lv_iconst (v := 0) C.1 C.2.1 d_X_isEleven_15 (by decide) ?_
    exact hq_zret C hret hlk (by decide) (Nat.le_of_ble_eq_true rfl) (Nat.le_of_ble_eq_true rfl) hL ⟨by unfold el; rw [if_pos c0], rfl⟩ d_X_isEleven_16
  · intro c0
    refine lv_iload_n C.1 C.2.1 d_X_isEleven_4 rfl (lv_at hl 0 rfl) ?_
    refine lv_sipush (v := 2047) C.1 C.2.1 d_X_isEleven_5 (by decide) ?_
    refine lv_icmp_gt (tgt := 15) C.1 C.2.1 d_X_isEleven_8 (by decide) ?_ ?_
    · intro c1
      refine lv_iconst (v := 0) C.1 C.2.1 d_X_isEleven_15 (by decide) ?_
      exact hq_zret C hret hlk (by decide) (Nat.le_of_ble_eq_true rfl) (Nat.le_of_ble_eq_true rfl) hL ⟨by unfold el; rw [if_neg c0, if_pos c1], rfl⟩ d_X_isEleven_16
    · intro c1
      refine lv_iconst (v := 1) C.1 C.2.1 d_X_isEleven_11 (by decide) ?_
      refine lv_goto (tgt := 16) C.1 C.2.1 d_X_isEleven_12 (by decide) ?_
      exact hq_zret C hret hlk (by decide) (Nat.le_of_ble_eq_true rfl) (Nat.le_of_ble_eq_true rfl) hL ⟨by unfold el; rw [if_neg c0, if_neg c1], rfl⟩ d_X_isEleven_16
set_option maxHeartbeats 4000000 in
set_option maxRecDepth 100000 in
theorem c_checkBitTimes (l : Launch) (D : va_G) (cI cZ cN cJ : ClassId) (lo : Nat) (x : Int32) (h1 : ¬ x < 1) (h2 : x ≤ 200) : hq_M l y_X_checkBitTimes b_X_checkBitTimes 1 none TB { frames := 0, cells := 0, slots := 0, locals := 0 } lo D vwCl (TY cI cZ cN cJ) [.int x] (fun _ => True) (fun H v H' => v = none ∧ H' = H) := by
  refine hq_ofW (by decide) (Nat.le_of_ble_eq_true rfl) ?_
  intro p e s m below meth c ls C hml hret hlk hnm hl hP
  have hL : hq_L lo [] := hq_L0
  have hl : lv_has ls 1 [(0, .int (x))] := hl
  refine lv_iload_n C.1 C.2.1 d_X_checkBitTimes_0 rfl (lv_at hl 0 rfl) ?_
  refine lv_iconst (v := 1) C.1 C.2.1 d_X_checkBitTimes_1 (by decide) ?_
  refine lv_icmp_lt (tgt := 12) C.1 C.2.1 d_X_checkBitTimes_2 (by decide) (fun hn => absurd hn (h1)) (fun _ => ?_)
  refine lv_iload_n C.1 C.2.1 d_X_checkBitTimes_5 rfl (lv_at hl 0 rfl) ?_
  refine lv_sipush (v := 200) C.1 C.2.1 d_X_checkBitTimes_6 (by decide) ?_
  refine lv_icmp_le (tgt := 22) C.1 C.2.1 d_X_checkBitTimes_9 (by decide) (fun _ => ?_) (fun hn => absurd (h2) hn)
  exact hq_vret C hret hlk (Nat.le_of_ble_eq_true rfl) (Nat.le_of_ble_eq_true rfl) hL ⟨rfl, rfl⟩ d_X_checkBitTimes_22
set_option maxHeartbeats 4000000 in
set_option maxRecDepth 100000 in
theorem c_packed (l : Launch) (D : va_G) (cI cZ cN cJ : ClassId) (lo : Nat) (x y z : Int32) : hq_M l y_Fr_packed b_Fr_packed 3 (some .int) TB { frames := 0, cells := 0, slots := 0, locals := 0 } lo D vwCl (TY cI cZ cN cJ) [.int x, .int y, .int z] (fun _ => True) (fun H v H' => v = some (.int (x + 2048 * y + 8192 * z)) ∧ H' = H) := by
  refine hq_ofW (by decide) (Nat.le_of_ble_eq_true rfl) ?_
  intro p e s m below meth c ls C hml hret hlk hnm hl hP
  have hL : hq_L lo [] := hq_L0
  have hl : lv_has ls 3 [(0, .int (x)), (1, .int (y)), (2, .int (z))] := hl
  refine lv_iload_n C.1 C.2.1 d_Fr_packed_0 rfl (lv_at hl 0 rfl) ?_
  refine lv_sipush (v := 2048) C.1 C.2.1 d_Fr_packed_1 (by decide) ?_
  refine lv_iload_n C.1 C.2.1 d_Fr_packed_4 rfl (lv_at hl 1 rfl) ?_
  refine lv_imul C.1 C.2.1 d_Fr_packed_5 ?_
  refine lv_iadd C.1 C.2.1 d_Fr_packed_6 ?_
  refine lv_sipush (v := 8192) C.1 C.2.1 d_Fr_packed_7 (by decide) ?_
  refine lv_iload_n C.1 C.2.1 d_Fr_packed_10 rfl (lv_at hl 2 rfl) ?_
  refine lv_imul C.1 C.2.1 d_Fr_packed_11 ?_
  refine lv_iadd C.1 C.2.1 d_Fr_packed_12 ?_
  exact hq_iret C hret hlk (Nat.le_of_ble_eq_true rfl) (Nat.le_of_ble_eq_true rfl) hL ⟨rfl, rfl⟩ d_Fr_packed_13
set_option maxHeartbeats 4000000 in
set_option maxRecDepth 100000 in
theorem c_isFull (l : Launch) (D : va_G) (cI cZ cN cJ : ClassId) (lo : Nat) (b q : Nat) (z : Int32) : hq_M l y_Fr_isFull b_Fr_isFull 1 (some .boolean) TB { frames := 0, cells := 0, slots := 0, locals := 0 } lo D vwCl (TY cI cZ cN cJ) [.ref b] (fun U => va_at D vwCl (b, .inr (2, [.ref (q), .int (z)])) U.heap) (fun H v H' => v = some (.int (fl z)) ∧ H' = H) := by
  refine hq_ofW (by decide) (Nat.le_of_ble_eq_true rfl) ?_
  intro p e s m below meth c ls C hml hret hlk hnm hl hP
  have hL : hq_L lo [] := hq_L0
  have hl : lv_has ls 1 [(0, .ref (b))] := hl
  have k0 := hP
  refine lv_aload_n C.1 C.2.1 d_Fr_isFull_0 rfl (lv_at hl 0 rfl) ?_
  refine hq_get (v := .int (z)) C f_Fr_15 k0 rfl d_Fr_isFull_1 ?_
  refine lv_iconst (v := 4) C.1 C.2.1 d_Fr_isFull_4 (by decide) ?_
  refine lv_icmp_lt (tgt := 12) C.1 C.2.1 d_Fr_isFull_5 (by decide) ?_ ?_
  · intro c0
    refine lv_iconst (v := 0) C.1 C.2.1 d_Fr_isFull_12 (by decide) ?_
    exact hq_zret C hret hlk (by decide) (Nat.le_of_ble_eq_true rfl) (Nat.le_of_ble_eq_true rfl) hL ⟨by unfold fl; rw [if_pos c0], rfl⟩ d_Fr_isFull_13
  · intro c0
    refine lv_iconst (v := 1) C.1 C.2.1 d_Fr_isFull_8 (by decide) ?_
    refine lv_goto (tgt := 13) C.1 C.2.1 d_Fr_isFull_9 (by decide) ?_
    exact hq_zret C hret hlk (by decide) (Nat.le_of_ble_eq_true rfl) (Nat.le_of_ble_eq_true rfl) hL ⟨by unfold fl; rw [if_neg c0], rfl⟩ d_Fr_isFull_13
theorem fm_xor {a d : Nat} (ha : a < 2 ^ 31) (hd : d < 2 ^ 31) : (0 : Int32) ≤ nI a ^^^ nI d := by
  have h1 : (nI a ^^^ nI d).toBitVec.toNat < 2 ^ 31 := by
    show (nI a).toBitVec.toNat ^^^ (nI d).toBitVec.toNat < 2 ^ 31
    rw [pk_tn (by omega), pk_tn (by omega)]
    exact Nat.xor_lt_two_pow ha hd
  rw [Int32.le_iff_toInt_le]
  show (0 : Int) ≤ (nI a ^^^ nI d).toBitVec.toInt
  rw [BitVec.toInt_eq_toNat_cond]
  split <;> omega
/-- as hq_ofW, for a method whose class is no plain name but which the machine takes as code -/
theorem hq_ofWF {l : Launch} {D : va_G} {cl : List vw_C} {tys : List (ClassId × FieldType)} {lo : Nat} {TB : List Cond} {y : MethodName} {bytes : ByteArray} {maxL : Nat} {ret : Option FieldType} {rm : Room} {P : State → Prop} {Post : Heap → Option Value → Heap → Prop} (hy : plainFor y = true) {av : List Value} (hlen : (lg_sl av).length ≤ maxL)
    (body : ∀ (p : Program) (e : Env) (s : State) (m : MethodId) (below : List Frame) (meth : Method) (c : Code) (ls : Array Slot), hq_C p c s m av.toArray y.cls bytes TB D cl tys → c.maxLocals = maxL → meth.sig.returnType = ret → meth.locks = false → meth.name = y.name → lv_has ls maxL (lv_args 0 av) → P s →
      W p l e rm s m av.toArray below meth c s.heap [] 0 0 (MQ below (hq_Q Post) av.toArray s rm.cells rm.slots (fun q => lo ≤ q)) (F0 m 0 ls [])) :
    hq_M l y bytes maxL ret TB rm lo D cl tys av P Post := by
  refine va_MetF (cc := bytes) (maxL := maxL) (ret := ret) hy rfl ?_
  intro p e s m args below meth c s₁ B hml hv
  obtain ⟨rfl, hK, hP⟩ := hv
  rw [lg_entry_eq]
  exact body p e s m below meth c _ ⟨B.exec, B.bytes, findClass_of_methodNamed B.named, fun w hw => atoms_spec (ws := Cond.code y bytes maxL ret :: TB) B.pre w (List.mem_cons_of_mem _ hw), hK⟩ hml B.returns B.notSynchronized (name_of_methodNamed B.named B.method).1 (lv_entry av hlen) hP
set_option maxHeartbeats 4000000 in
set_option maxRecDepth 100000 in
theorem c_floorMod (l : Launch) (D : va_G) (cI cZ cN cJ : ClassId) (lo : Nat) (a d : Nat) (ha : a < 2 ^ 31) (hd0 : 0 < d) (hd : d < 2 ^ 31) : hq_M l y_Ma_floorMod b_Ma_floorMod 3 (some .int) TB { frames := 0, cells := 0, slots := 0, locals := 0 } lo D vwCl (TY cI cZ cN cJ) [.int (nI a), .int (nI d)] (fun _ => True) (fun H v H' => v = some (.int (nI (a % d))) ∧ H' = H) := by
  refine hq_ofWF (by decide +kernel) (Nat.le_of_ble_eq_true rfl) ?_
  intro p e s m below meth c ls C hml hret hlk hnm hl hP
  have hL : hq_L lo [] := hq_L0
  have hl : lv_has ls 3 [(0, .int (nI a)), (1, .int (nI d))] := hl
  refine lv_iload_n C.1 C.2.1 d_Ma_floorMod_0 rfl (lv_at hl 0 rfl) ?_
  refine lv_iload_n C.1 C.2.1 d_Ma_floorMod_1 rfl (lv_at hl 1 rfl) ?_
  refine lv_irem C.1 C.2.1 d_Ma_floorMod_2 (nI_ne0 hd0 hd) ?_
  rw [pk_rem ha hd0 hd]
  refine lv_istore_n C.1 C.2.1 d_Ma_floorMod_3 rfl hl (by decide) rfl (lv' := [(2, .int (nI (a % d))), (0, .int (nI a)), (1, .int (nI d))]) (fun ls hl => ?_)
  refine lv_iload_n C.1 C.2.1 d_Ma_floorMod_4 rfl (lv_at hl 1 rfl) ?_
  refine lv_iload_n C.1 C.2.1 d_Ma_floorMod_5 rfl (lv_at hl 2 rfl) ?_
  refine lv_ixor C.1 C.2.1 d_Ma_floorMod_6 ?_
  refine lv_if_ge (tgt := 18) C.1 C.2.1 d_Ma_floorMod_7 (by decide) (fun _ => ?_) (fun hn => absurd (fm_xor ha hd) hn)
  refine lv_iload_n C.1 C.2.1 d_Ma_floorMod_18 rfl (lv_at hl 0 rfl) ?_
  exact hq_iret C hret hlk (Nat.le_of_ble_eq_true rfl) (Nat.le_of_ble_eq_true rfl) hL ⟨rfl, rfl⟩ d_Ma_floorMod_19
set_option maxHeartbeats 4000000 in
set_option maxRecDepth 100000 in
theorem c_nodeOf (l : Launch) (D : va_G) (cI cZ cN cJ : ClassId) (lo : Nat) (x n j : Nat) (N : Nat → Nat → Int32) (R : Nat → Nat → Nat → Int32) (lev tot : Nat → Int32) (hn : n ≤ 4) (hj : j < n) : hq_M l y_X_nodeOf b_X_nodeOf 2 (some (.object "StrongBus$Node")) TB { frames := 0, cells := 0, slots := 0, locals := 0 } lo D vwCl (TY cI cZ cN cJ) [.ref x, .int (nI j)] (fun U => busP D cI cZ cN x n N R lev tot U.heap) (fun H v H' => v = some (.ref (x + 4 + 10 * j)) ∧ H' = H) := by
  refine hq_ofW (by decide) (Nat.le_of_ble_eq_true rfl) ?_
  intro p e s m below meth c ls C hml hret hlk hnm hl hP
  obtain ⟨kB, kN⟩ := hP
  have hL : hq_L lo [] := hq_L0
  have hl : lv_has ls 2 [(0, .ref (x)), (1, .int (nI j))] := hl
  have k0 : va_at D vwCl (x, .inr (5, [.ref (x + 3), .ref (x + 1), .ref (x + 2)])) s.heap := kB 0 (by decide)
  have k3 : va_at D vwCl (x + 3, .inl (cN, n, .inr (.inr (.inr (.inr (nref x n)))))) s.heap := kB 3 (by decide)
  refine lv_iload_n C.1 C.2.1 d_X_nodeOf_0 rfl (lv_at hl 1 rfl) ?_
  refine lv_if_lt (tgt := 13) C.1 C.2.1 d_X_nodeOf_1 (by decide) (fun hn => absurd hn (nI_pos (by omega))) (fun _ => ?_)
  refine lv_iload_n C.1 C.2.1 d_X_nodeOf_4 rfl (lv_at hl 1 rfl) ?_
  refine lv_aload_n C.1 C.2.1 d_X_nodeOf_5 rfl (lv_at hl 0 rfl) ?_
  refine hq_get (v := .ref (x + 3)) C f_X_27 k0 rfl d_X_nodeOf_6 ?_
  refine hq_alen C 2 rfl k3 (v := nI n) rfl d_X_nodeOf_9 ?_
  refine lv_icmp_lt (tgt := 23) C.1 C.2.1 d_X_nodeOf_10 (by decide) (fun _ => ?_) (fun hn => absurd (nI_lt hj (by omega)) hn)
  refine lv_aload_n C.1 C.2.1 d_X_nodeOf_23 rfl (lv_at hl 0 rfl) ?_
  refine hq_get (v := .ref (x + 3)) C f_X_27 k0 rfl d_X_nodeOf_24 ?_
  refine lv_iload_n C.1 C.2.1 d_X_nodeOf_27 rfl (lv_at hl 1 rfl) ?_
  refine hq_aald C 2 (Cn := "StrongBus$Node") rfl k3 (vp_in_nI hj (by omega)) (q := x + 4 + 10 * j) (by rw [nI_clamp (by omega)]; unfold nref; rw [if_pos hj]) d_X_nodeOf_28 ?_
  exact hq_aret C hret (Or.inl ⟨_, rfl⟩) hlk (Nat.le_of_ble_eq_true rfl) (Nat.le_of_ble_eq_true rfl) hL ⟨rfl, rfl⟩ d_X_nodeOf_29
end
section
-- the rows vx_L .. vx_isRefq are pasted from claim/NAMES.whole.lean.txt (a starting text)
/-- where a static field lies, its class's statics cell in H -/
def vx_L (C n d : String) (A : Nat → Prop) (U : State) (H : Heap) : Prop := ∃ (c : ClassId) (k : Class) (i : Nat) (f : Field) (a : Nat) (cell : Cell), U.vm.findClass C = some c ∧ U.fieldFound? C n d = some (c, k, i, f) ∧ f.isStatic = true ∧ k.statics = some a ∧ H[a]? = some cell ∧ cell.vm.isStatics = true ∧ cell.cls = c ∧ f.slot < cell.slots.size ∧ k.staticTypes[f.slot]? = some f.type ∧ ¬ A a
theorem vx_L.moved {C n d : String} {A : Nat → Prop} {u U : State} {H : Heap} (hvm : u.vm.Alike U.vm) (h : vx_L C n d A u H) : vx_L C n d A U H := by
  obtain ⟨c, k, i, f, a, cell, h1, h2, h3, h4, h5, h6, h7, h8, h9, h10⟩ := h
  obtain ⟨k', hi', he⟩ := State.fieldFound?_setVm hvm h2
  exact ⟨c, k', i, f, a, cell, by rw [hvm.findClass]; exact h1, hi', h3, by rw [he]; exact h4, h5, h6, h7, h8, by rw [he]; exact h9, h10⟩
theorem vx_L.kept {C n d : String} {A : Nat → Prop} {U : State} {H H1 : Heap} (h : vx_L C n d A U H) (hq : ∀ a : Nat, a < H.size → ¬ A a → H1[a]? = H[a]?) : vx_L C n d A U H1 := by
  obtain ⟨c, k, i, f, a, cell, h1, h2, h3, h4, h5, h6, h7, h8, h9, h10⟩ := h
  exact ⟨c, k, i, f, a, cell, h1, h2, h3, h4, by rw [hq a (Array.getElem?_eq_some_iff.mp h5).1 h10]; exact h5, h6, h7, h8, h9, h10⟩
theorem vx_L.narrow {C n d : String} {A B : Nat → Prop} {U : State} {H : Heap} (h : vx_L C n d A U H) (hAB : ∀ q, B q → A q) : vx_L C n d B U H := by
  obtain ⟨c, k, i, f, a, cell, h1, h2, h3, h4, h5, h6, h7, h8, h9, h10⟩ := h
  exact ⟨c, k, i, f, a, cell, h1, h2, h3, h4, h5, h6, h7, h8, h9, fun z => h10 (hAB _ z)⟩
theorem vx_L.word {C n d : String} {A : Nat → Prop} {s : State} {args : Array Value} (h : vx_L C n d A s s.heap) : (Cond.laysStatic C n d).before args s = true := by
  obtain ⟨c, k, i, f, a, cell, h1, h2, h3, h4, h5, h6, h7, h8, h9, -⟩ := h
  show (Cond.laysStatic C n d).holds args s none s [] = true
  exact Cond.laysStatic_of h1 h2 h3 h4 h5 h6 h7 h8 h9
/-- .. and what it holds: null or some reference -/
def vx_Zq (C n d : String) (A : Nat → Prop) (U : State) (H : Heap) : Prop := va_Zq C n d A U H ∧ vx_L C n d A U H
theorem vx_Zq.moved {C n d : String} {A : Nat → Prop} {u U : State} {H : Heap} (hvm : u.vm.Alike U.vm) (h : vx_Zq C n d A u H) : vx_Zq C n d A U H := ⟨va_Zq.moved hvm h.1, vx_L.moved hvm h.2⟩
theorem vx_Zq.kept {C n d : String} {A : Nat → Prop} {U : State} {H H1 : Heap} (h : vx_Zq C n d A U H) (hq : ∀ a : Nat, a < H.size → ¬ A a → H1[a]? = H[a]?) : vx_Zq C n d A U H1 := ⟨va_Zq.kept h.1 hq, vx_L.kept h.2 hq⟩
theorem vx_Zq.narrow {C n d : String} {A B : Nat → Prop} {U : State} {H : Heap} (h : vx_Zq C n d A U H) (hAB : ∀ q, B q → A q) : vx_Zq C n d B U H := ⟨va_Zq.narrow h.1 hAB, vx_L.narrow h.2 hAB⟩
theorem vx_Zqof {args : Array Value} {s : State} {C n d : String} {A : Nat → Prop} (hl : (Cond.laysStatic C n d).before args s = true) (hini : (Cond.initialized C).before args s = true) (h : (Cond.isRef (.static C n d)).before args s = true) (hA : ∀ a : Nat, a < s.heap.size → ¬ A a) : vx_Zq C n d A s s.heap := by
  refine ⟨va_Zqof hl hini h hA, ?_⟩
  obtain ⟨c, k, i, f, a, cell, h1, h2, h3, h4, h5, h6, h7, h8, h9⟩ := Cond.laysStatic_spec hl
  exact ⟨c, k, i, f, a, cell, h1, h2, h3, h4, h5, h6, h7, h8, h9, hA a (Array.getElem?_eq_some_iff.mp h5).1⟩
theorem vx_isRef {C n d : String} {v : Value} {A : Nat → Prop} {s : State} {args : Array Value} (h : va_Z C n d v A s s.heap) (hv : v.isRef = true) : (Cond.isRef (.static C n d)).before args s = true := by
  obtain ⟨cf, kf, fi, f, a, cell, h1, h2, h3, h4, h5, h6, h7, -⟩ := h
  have he : (Term.static C n d).eval args s none [] s = some v := by
    simp [Term.eval, State.fieldNamed?, h1, h2, h4, h5, h6, h7]
  simp only [Cond.before, Cond.holds, Cond.value, he]
  cases v <;> simp_all [Value.isRef]
theorem vx_isRefq {C n d : String} {A : Nat → Prop} {s : State} {args : Array Value} (h : va_Zq C n d A s s.heap) : (Cond.isRef (.static C n d)).before args s = true := by
  rcases h with h | ⟨t, h⟩
  · exact vx_isRef h rfl
  · exact vx_isRef h rfl

/-! What a throw needs of the state beside the table. -/
abbrev exN : List String := ["java/lang/RuntimeException", "java/lang/Exception"]
def exBad : List Cond := [.declares (Bundle.initS "java/lang/RuntimeException"), .declares (Bundle.initS "java/lang/Exception"), .declares (Bundle.initS Bundle.tN), .castable "java/lang/IllegalArgumentException" "java/lang/IllegalArgumentException", .castable "java/lang/IllegalStateException" "java/lang/IllegalStateException", .isRef (.static Bundle.tN "UNASSIGNED_STACK" Bundle.steD), .isRef (.static Bundle.tN "SUPPRESSED_SENTINEL" Bundle.listD), .laysStatic Bundle.tN "UNASSIGNED_STACK" Bundle.steD, .laysStatic Bundle.tN "SUPPRESSED_SENTINEL" Bundle.listD]
set_option maxRecDepth 100000 in
theorem ex_badA : ∀ w ∈ (Bundle.ownAtoms R_X 44 "java/lang/IllegalArgumentException" exN).filter (fun w => !goodWord w), w ∈ exBad := by decide +kernel
set_option maxRecDepth 100000 in
theorem ex_badS : ∀ w ∈ (Bundle.ownAtoms R_X 65 "java/lang/IllegalStateException" exN).filter (fun w => !goodWord w), w ∈ exBad := by decide +kernel
set_option maxRecDepth 100000 in
theorem ex_goodA : ∀ w ∈ (Bundle.ownAtoms R_X 44 "java/lang/IllegalArgumentException" exN).filter goodWord, w ∈ TB := by decide +kernel
set_option maxRecDepth 100000 in
theorem ex_goodS : ∀ w ∈ (Bundle.ownAtoms R_X 65 "java/lang/IllegalStateException" exN).filter goodWord, w ∈ TB := by decide +kernel
end
section
/-- what a throw needs of the state: two statics of Throwable, the words that aren't stable by themselves, the texts -/
def exS : List (Nat × String) := [(122, "no such node"), (42, "no such frame"), (63, "the node is off, or 4 frames wait"), (77, "mask or value is not 0 .. 2047"), (124, "not 1 .. 200 bit times"), (112, "no such number of a node"), (114, "the inbox is empty"), (120, "no such total")]
def hq_E (lo : Nat) (U : State) : Prop :=
  vx_Zq Bundle.tN "UNASSIGNED_STACK" Bundle.steD (fun q => lo ≤ q) U U.heap ∧ vx_Zq Bundle.tN "SUPPRESSED_SENTINEL" Bundle.listD (fun q => lo ≤ q) U U.heap ∧
  va_Nw (.declares (Bundle.initS "java/lang/RuntimeException")) U ∧ va_Nw (.declares (Bundle.initS "java/lang/Exception")) U ∧ va_Nw (.declares (Bundle.initS Bundle.tN)) U ∧ va_Nw (.castable "java/lang/IllegalArgumentException" "java/lang/IllegalArgumentException") U ∧ va_Nw (.castable "java/lang/IllegalStateException" "java/lang/IllegalStateException") U ∧ ∀ q ∈ exS, ∃ a, vk_R R_X q.1 q.2 a U
theorem hq_E.move {lo : Nat} {s U : State} (h : hq_E lo s) (hW : s.WarmedH U.vm) (hO : hq_O lo s.heap U.heap) : hq_E lo U := by
  obtain ⟨h1, h2, h3, h4, h5, h6, h7, h8⟩ := h
  refine ⟨vx_Zq.moved hW.alike (h1.kept fun a _ ha => hO a (Nat.not_le.mp ha)), vx_Zq.moved hW.alike (h2.kept fun a _ ha => hO a (Nat.not_le.mp ha)), va_Nw.warmD hW h3, va_Nw.warmD hW h4, va_Nw.warmD hW h5, va_Nw.warmC hW h6, va_Nw.warmC hW h7, fun q hq => ?_⟩
  obtain ⟨a, ha⟩ := h8 q hq
  exact ⟨a, ha.warm hW⟩
theorem hq_E.call {lo : Nat} {a : Array Value} {U : State} {g : JFrame} {mk : MethodId} (h : hq_E lo U) : hq_E lo (U.calling g mk a) := by
  obtain ⟨h1, h2, h3, h4, h5, h6, h7, h8⟩ := h
  have hv : U.vm = (U.calling g mk a).vm := rfl
  refine ⟨vx_Zq.moved (U := U.calling g mk a) (Vm.Alike.refl U.vm) h1, vx_Zq.moved (U := U.calling g mk a) (Vm.Alike.refl U.vm) h2, va_Nw.same rfl hv h3, va_Nw.same rfl hv h4, va_Nw.same rfl hv h5, va_Nw.same rfl hv h6, va_Nw.same rfl hv h7, fun q hq => ?_⟩
  obtain ⟨b, hb⟩ := h8 q hq
  exact ⟨b, hb.same hv.symm⟩
theorem ex_all {lo : Nat} {s : State} {args : Array Value} {L : List Cond} (hts : ∀ w ∈ TB, w.before args s = true) (hE : hq_E lo s) (hg : ∀ w ∈ L.filter goodWord, w ∈ TB) (hb : ∀ w ∈ L.filter (fun w => !goodWord w), w ∈ exBad) : ∀ w ∈ L, w.before args s = true := by
  intro w hw
  obtain ⟨h1, h2, h3, h4, h5, h6, h7, -⟩ := hE
  cases g : goodWord w with
  | true => exact hts w (hg w (List.mem_filter.mpr ⟨hw, g⟩))
  | false =>
    have h := hb w (List.mem_filter.mpr ⟨hw, by rw [g]; rfl⟩)
    simp only [exBad, List.mem_cons, List.not_mem_nil, or_false] at h
    rcases h with rfl | rfl | rfl | rfl | rfl | rfl | rfl | rfl | rfl
    · exact va_Nw.use rfl h3
    · exact va_Nw.use rfl h4
    · exact va_Nw.use rfl h5
    · exact va_Nw.use rfl h6
    · exact va_Nw.use rfl h7
    · exact vx_isRefq h1.1
    · exact vx_isRefq h2.1
    · exact vx_L.word h1.2
    · exact vx_L.word h2.2
set_option maxRecDepth 100000 in
theorem ex_wA : Cond.classLink R_X 40 "java/lang/IllegalArgumentException" ∈ TB ∧ Cond.instantiable "java/lang/IllegalArgumentException" 6 ∈ TB ∧ Cond.initialized "java/lang/IllegalArgumentException" ∈ TB := ⟨by decide +kernel, by decide +kernel, by decide +kernel⟩
set_option maxRecDepth 100000 in
theorem ex_wS : Cond.classLink R_X 61 "java/lang/IllegalStateException" ∈ TB ∧ Cond.instantiable "java/lang/IllegalStateException" 6 ∈ TB ∧ Cond.initialized "java/lang/IllegalStateException" ∈ TB := ⟨by decide +kernel, by decide +kernel, by decide +kernel⟩
/-- new E; dup; ldc; E.<init>(String); athrow, where nothing has been written -/
theorem hq_throw {p : Program} {l : Launch} {e : Env} {R : Room} {s : State} {m : MethodId} {args : Array Value} {below : List Frame} {meth : Method} {c : Code} {cc : ByteArray} {pc : Nat} {ls : Array Slot} {rest : List Value} {D : va_G} {cl : List vw_C} {tys : List (ClassId × FieldType)} {E : String} {lo ik ic is mc ms : Nat} {tx : String}
    (C : hq_C p c s m args R_X cc TB D cl tys) (htr : l.stackTraces = false) (hE : hq_E lo s) (hw : Cond.classLink R_X ik E ∈ TB ∧ Cond.instantiable E 6 ∈ TB ∧ Cond.initialized E ∈ TB) (hg : ∀ w ∈ (Bundle.ownAtoms R_X ic E exN).filter goodWord, w ∈ TB) (hb : ∀ w ∈ (Bundle.ownAtoms R_X ic E exN).filter (fun w => !goodWord w), w ∈ exBad) (hfit : Bundle.fit E = true) (hs : (is, tx) ∈ exS) (hml : c.maxLocals = ls.size)
    (d0 : decode cc pc = .ok (.new ik, 3)) (d3 : decode cc (pc + 3) = .ok (.dup, 1)) (d4 : decode cc (pc + 3 + 1) = .ok (.ldc is, 2)) (d6 : decode cc (pc + 3 + 1 + 2) = .ok (.invokespecial ic, 3)) (d9 : decode cc (pc + 3 + 1 + 2 + 3) = .ok (.athrow, 1))
    (hout : ∀ x ∈ c.exceptionTable.toList, ∀ k, covers x k = false) (hlk : meth.locks = false) (hRf : 6 ≤ R.frames) (hRc : 1 ≤ R.cells) (hRs : 6 ≤ R.slots) (hRl : (rest.map fun v => v.category).sum + 82 ≤ R.locals) (hc : 1 ≤ mc) (hms : 6 ≤ ms) :
    W p l e R s m args below meth c s.heap [] 0 0 (hq_TQ below E s mc ms) (F0 m pc ls rest) := by
  refine W.newc C.1 C.2.1 C.2.2.1 (C.2.2.2.1 _ hw.1) (C.2.2.2.1 _ hw.2.1) (C.2.2.2.1 _ hw.2.2) rfl d0 (by omega) (by omega) (fun cC kC h1 h2 h3 h4 => ?_)
  refine W.eq (g2 := F0 m (pc + 3) ls (.ref s.heap.size :: rest)) rfl ?_
  refine lv_dup C.1 C.2.1 d3 rfl ?_
  obtain ⟨msg, hmsg⟩ := hE.2.2.2.2.2.2.2 (is, tx) hs
  refine va_ldcS C.1 C.2.1 C.2.2.1 hmsg d4 ?_
  refine hq_ctor C htr hfit (by decide +kernel) (ex_all C.2.2.2.1 hE hg hb) h1 h2 (a := s.heap.size) (by simp [freshCell]) (Nat.le_refl _) hml.symm d6 d9 hout hlk (by show 2 + 3 < R.frames; omega) ?_ (by omega) (by omega)
  show 1 + (rest.map fun v => v.category).sum + (13 * (2 + 1) + 42) ≤ R.locals
  omega
set_option maxHeartbeats 4000000 in
set_option maxRecDepth 100000 in
theorem t_checkBitTimes (l : Launch) (D : va_G) (cI cZ cN cJ : ClassId) (lo : Nat) (htr : l.stackTraces = false) (v : Int32) (hb : v < 1 ∨ ¬ v ≤ 200) : hq_T l y_X_checkBitTimes b_X_checkBitTimes 1 none TB { frames := 6, cells := 1, slots := 6, locals := 100 } D vwCl (TY cI cZ cN cJ) [.int (v)] (fun U => hq_E lo U) "java/lang/IllegalArgumentException" := by
  refine hq_ofT (by decide) (Nat.le_of_ble_eq_true rfl) ?_
  intro p e s m below meth c ls C hml hlk hout hl hP
  have hE := hP
  have hl : lv_has ls 1 [(0, .int (v))] := hl
  refine lv_iload_n C.1 C.2.1 d_X_checkBitTimes_0 rfl (lv_at hl 0 rfl) ?_
  refine lv_iconst (v := 1) C.1 C.2.1 d_X_checkBitTimes_1 (by decide) ?_
  refine lv_icmp_lt (tgt := 12) C.1 C.2.1 d_X_checkBitTimes_2 (by decide) ?_ ?_
  · intro c0
    exact hq_throw C htr hE ex_wA ex_goodA ex_badA (by decide +kernel) (is := 124) (tx := "not 1 .. 200 bit times") (by decide +kernel) (hml.trans hl.1.symm) d_X_checkBitTimes_12 d_X_checkBitTimes_15 d_X_checkBitTimes_16 d_X_checkBitTimes_18 d_X_checkBitTimes_21 hout hlk (Nat.le_of_ble_eq_true rfl) (Nat.le_of_ble_eq_true rfl) (Nat.le_of_ble_eq_true rfl) (Nat.le_of_ble_eq_true rfl) (Nat.le_of_ble_eq_true rfl) (Nat.le_of_ble_eq_true rfl)
  · intro c0
    refine lv_iload_n C.1 C.2.1 d_X_checkBitTimes_5 rfl (lv_at hl 0 rfl) ?_
    refine lv_sipush (v := 200) C.1 C.2.1 d_X_checkBitTimes_6 (by decide) ?_
    refine lv_icmp_le (tgt := 22) C.1 C.2.1 d_X_checkBitTimes_9 (by decide) (fun hn => absurd hn (fun h9 => hb.elim c0 (fun z => z h9))) (fun _ => ?_)
    exact hq_throw C htr hE ex_wA ex_goodA ex_badA (by decide +kernel) (is := 124) (tx := "not 1 .. 200 bit times") (by decide +kernel) (hml.trans hl.1.symm) d_X_checkBitTimes_12 d_X_checkBitTimes_15 d_X_checkBitTimes_16 d_X_checkBitTimes_18 d_X_checkBitTimes_21 hout hlk (Nat.le_of_ble_eq_true rfl) (Nat.le_of_ble_eq_true rfl) (Nat.le_of_ble_eq_true rfl) (Nat.le_of_ble_eq_true rfl) (Nat.le_of_ble_eq_true rfl) (Nat.le_of_ble_eq_true rfl)
set_option maxHeartbeats 4000000 in
set_option maxRecDepth 100000 in
theorem t_nodeOf (l : Launch) (D : va_G) (cI cZ cN cJ : ClassId) (lo : Nat) (htr : l.stackTraces = false) (x n : Nat) (N : Nat → Nat → Int32) (R : Nat → Nat → Nat → Int32) (lev tot : Nat → Int32) (v : Int32) (hb : v < 0 ∨ ¬ v < nI n) : hq_T l y_X_nodeOf b_X_nodeOf 2 (some (.object "StrongBus$Node")) TB { frames := 6, cells := 1, slots := 6, locals := 100 } D vwCl (TY cI cZ cN cJ) [.ref (x), .int (v)] (fun U => hq_E lo U ∧ busP D cI cZ cN x n N R lev tot U.heap) "java/lang/IllegalArgumentException" := by
  refine hq_ofT (by decide) (Nat.le_of_ble_eq_true rfl) ?_
  intro p e s m below meth c ls C hml hlk hout hl hP
  obtain ⟨hE, kB, kN⟩ := hP
  have hl : lv_has ls 2 [(0, .ref (x)), (1, .int (v))] := hl
  have k0 : va_at D vwCl (x, .inr (5, [.ref (x + 3), .ref (x + 1), .ref (x + 2)])) s.heap := kB 0 (by decide)
  have k3 : va_at D vwCl (x + 3, .inl (cN, n, .inr (.inr (.inr (.inr (nref x n)))))) s.heap := kB 3 (by decide)
  refine lv_iload_n C.1 C.2.1 d_X_nodeOf_0 rfl (lv_at hl 1 rfl) ?_
  refine lv_if_lt (tgt := 13) C.1 C.2.1 d_X_nodeOf_1 (by decide) ?_ ?_
  · intro c0
    exact hq_throw C htr hE ex_wA ex_goodA ex_badA (by decide +kernel) (is := 122) (tx := "no such node") (by decide +kernel) (hml.trans hl.1.symm) d_X_nodeOf_13 d_X_nodeOf_16 d_X_nodeOf_17 d_X_nodeOf_19 d_X_nodeOf_22 hout hlk (Nat.le_of_ble_eq_true rfl) (Nat.le_of_ble_eq_true rfl) (Nat.le_of_ble_eq_true rfl) (Nat.le_of_ble_eq_true rfl) (Nat.le_of_ble_eq_true rfl) (Nat.le_of_ble_eq_true rfl)
  · intro c0
    refine lv_iload_n C.1 C.2.1 d_X_nodeOf_4 rfl (lv_at hl 1 rfl) ?_
    refine lv_aload_n C.1 C.2.1 d_X_nodeOf_5 rfl (lv_at hl 0 rfl) ?_
    refine hq_get (v := .ref (x + 3)) C f_X_27 k0 rfl d_X_nodeOf_6 ?_
    refine hq_alen C 2 rfl k3 (v := nI n) rfl d_X_nodeOf_9 ?_
    refine lv_icmp_lt (tgt := 23) C.1 C.2.1 d_X_nodeOf_10 (by decide) (fun hn => absurd hn (fun h9 => hb.elim c0 (fun z => z h9))) (fun _ => ?_)
    exact hq_throw C htr hE ex_wA ex_goodA ex_badA (by decide +kernel) (is := 122) (tx := "no such node") (by decide +kernel) (hml.trans hl.1.symm) d_X_nodeOf_13 d_X_nodeOf_16 d_X_nodeOf_17 d_X_nodeOf_19 d_X_nodeOf_22 hout hlk (Nat.le_of_ble_eq_true rfl) (Nat.le_of_ble_eq_true rfl) (Nat.le_of_ble_eq_true rfl) (Nat.le_of_ble_eq_true rfl) (Nat.le_of_ble_eq_true rfl) (Nat.le_of_ble_eq_true rfl)
end
section
/-! The class's public methods on a bus: where they throw, and where they answer. -/
set_option maxHeartbeats 4000000 in
set_option maxRecDepth 100000 in
theorem t_request_n (l : Launch) (D : va_G) (cI cZ cN cJ : ClassId) (lo : Nat) (htr : l.stackTraces = false) (x n : Nat) (N : Nat → Nat → Int32) (R : Nat → Nat → Nat → Int32) (lev tot : Nat → Int32) (v a b d : Int32) (hb : v < 0 ∨ ¬ v < nI n) : hq_T l y_X_request b_X_request 6 (some (.int)) TB { frames := 7, cells := 1, slots := 6, locals := 130 } D vwCl (TY cI cZ cN cJ) [.ref (x), .int (v), .int (a), .int (b), .int (d)] (fun U => hq_E lo U ∧ busP D cI cZ cN x n N R lev tot U.heap) "java/lang/IllegalArgumentException" := by
  refine hq_ofT (by decide) (Nat.le_of_ble_eq_true rfl) ?_
  intro p e s m below meth c ls C hml hlk hout hl hP
  obtain ⟨hE, kB, kN⟩ := hP
  have hl : lv_has ls 6 [(0, .ref (x)), (1, .int (v)), (2, .int (a)), (3, .int (b)), (4, .int (d))] := hl
  have k0 : va_at D vwCl (x, .inr (5, [.ref (x + 3), .ref (x + 1), .ref (x + 2)])) s.heap := kB 0 (by decide)
  refine lv_aload_n C.1 C.2.1 d_X_request_0 rfl (lv_at hl 0 rfl) ?_
  refine lv_iload_n C.1 C.2.1 d_X_request_1 rfl (lv_at hl 1 rfl) ?_
  refine hq_tcallV (As := [.int (v)]) (rest := []) C tb_good hml Y_X_32 (t_nodeOf l D cI cZ cN cJ lo htr x n N R lev tot v hb) k0 rfl (fun _ _ _ _ h => ⟨hq_E.call h.1, h.2⟩) (fun U hU hW => ⟨hE.move hW (by rw [hU]; exact hq_O0), by show busP D cI cZ cN x n N R lev tot U.heap; rw [hU]; exact ⟨kB, kN⟩⟩) hl.1 rfl rfl ⟨⟨Nat.le_of_ble_eq_true rfl, Nat.le_of_ble_eq_true rfl⟩, Nat.le_of_ble_eq_true rfl, Nat.le_of_ble_eq_true rfl⟩ (Nat.le_of_ble_eq_true rfl) d_X_request_2 (fun q9 ce9 H9 hO9 hz9 hce9 hcv9 hcl9 => ?_)
  exact hq_tout (fun x9 h9 => hout x9 h9 _) hlk hce9 hcv9 hcl9 (Nat.le_of_ble_eq_true rfl) (Nat.le_of_ble_eq_true rfl)
set_option maxHeartbeats 4000000 in
set_option maxRecDepth 100000 in
theorem t_filter_n (l : Launch) (D : va_G) (cI cZ cN cJ : ClassId) (lo : Nat) (htr : l.stackTraces = false) (x n : Nat) (N : Nat → Nat → Int32) (R : Nat → Nat → Nat → Int32) (lev tot : Nat → Int32) (v a b : Int32) (hb : v < 0 ∨ ¬ v < nI n) : hq_T l y_X_filter b_X_filter 5 none TB { frames := 7, cells := 1, slots := 6, locals := 130 } D vwCl (TY cI cZ cN cJ) [.ref (x), .int (v), .int (a), .int (b)] (fun U => hq_E lo U ∧ busP D cI cZ cN x n N R lev tot U.heap) "java/lang/IllegalArgumentException" := by
  refine hq_ofT (by decide) (Nat.le_of_ble_eq_true rfl) ?_
  intro p e s m below meth c ls C hml hlk hout hl hP
  obtain ⟨hE, kB, kN⟩ := hP
  have hl : lv_has ls 5 [(0, .ref (x)), (1, .int (v)), (2, .int (a)), (3, .int (b))] := hl
  have k0 : va_at D vwCl (x, .inr (5, [.ref (x + 3), .ref (x + 1), .ref (x + 2)])) s.heap := kB 0 (by decide)
  refine lv_aload_n C.1 C.2.1 d_X_filter_0 rfl (lv_at hl 0 rfl) ?_
  refine lv_iload_n C.1 C.2.1 d_X_filter_1 rfl (lv_at hl 1 rfl) ?_
  refine hq_tcallV (As := [.int (v)]) (rest := []) C tb_good hml Y_X_32 (t_nodeOf l D cI cZ cN cJ lo htr x n N R lev tot v hb) k0 rfl (fun _ _ _ _ h => ⟨hq_E.call h.1, h.2⟩) (fun U hU hW => ⟨hE.move hW (by rw [hU]; exact hq_O0), by show busP D cI cZ cN x n N R lev tot U.heap; rw [hU]; exact ⟨kB, kN⟩⟩) hl.1 rfl rfl ⟨⟨Nat.le_of_ble_eq_true rfl, Nat.le_of_ble_eq_true rfl⟩, Nat.le_of_ble_eq_true rfl, Nat.le_of_ble_eq_true rfl⟩ (Nat.le_of_ble_eq_true rfl) d_X_filter_2 (fun q9 ce9 H9 hO9 hz9 hce9 hcv9 hcl9 => ?_)
  exact hq_tout (fun x9 h9 => hout x9 h9 _) hlk hce9 hcv9 hcl9 (Nat.le_of_ble_eq_true rfl) (Nat.le_of_ble_eq_true rfl)
set_option maxHeartbeats 4000000 in
set_option maxRecDepth 100000 in
theorem t_disturb_n (l : Launch) (D : va_G) (cI cZ cN cJ : ClassId) (lo : Nat) (htr : l.stackTraces = false) (x n : Nat) (N : Nat → Nat → Int32) (R : Nat → Nat → Nat → Int32) (lev tot : Nat → Int32) (v a : Int32) (hb : v < 0 ∨ ¬ v < nI n) : hq_T l y_X_disturb b_X_disturb 4 none TB { frames := 7, cells := 1, slots := 6, locals := 130 } D vwCl (TY cI cZ cN cJ) [.ref (x), .int (v), .int (a)] (fun U => hq_E lo U ∧ busP D cI cZ cN x n N R lev tot U.heap) "java/lang/IllegalArgumentException" := by
  refine hq_ofT (by decide) (Nat.le_of_ble_eq_true rfl) ?_
  intro p e s m below meth c ls C hml hlk hout hl hP
  obtain ⟨hE, kB, kN⟩ := hP
  have hl : lv_has ls 4 [(0, .ref (x)), (1, .int (v)), (2, .int (a))] := hl
  have k0 : va_at D vwCl (x, .inr (5, [.ref (x + 3), .ref (x + 1), .ref (x + 2)])) s.heap := kB 0 (by decide)
  refine lv_aload_n C.1 C.2.1 d_X_disturb_0 rfl (lv_at hl 0 rfl) ?_
  refine lv_iload_n C.1 C.2.1 d_X_disturb_1 rfl (lv_at hl 1 rfl) ?_
  refine hq_tcallV (As := [.int (v)]) (rest := []) C tb_good hml Y_X_32 (t_nodeOf l D cI cZ cN cJ lo htr x n N R lev tot v hb) k0 rfl (fun _ _ _ _ h => ⟨hq_E.call h.1, h.2⟩) (fun U hU hW => ⟨hE.move hW (by rw [hU]; exact hq_O0), by show busP D cI cZ cN x n N R lev tot U.heap; rw [hU]; exact ⟨kB, kN⟩⟩) hl.1 rfl rfl ⟨⟨Nat.le_of_ble_eq_true rfl, Nat.le_of_ble_eq_true rfl⟩, Nat.le_of_ble_eq_true rfl, Nat.le_of_ble_eq_true rfl⟩ (Nat.le_of_ble_eq_true rfl) d_X_disturb_2 (fun q9 ce9 H9 hO9 hz9 hce9 hcv9 hcl9 => ?_)
  exact hq_tout (fun x9 h9 => hout x9 h9 _) hlk hce9 hcv9 hcl9 (Nat.le_of_ble_eq_true rfl) (Nat.le_of_ble_eq_true rfl)
set_option maxHeartbeats 4000000 in
set_option maxRecDepth 100000 in
theorem t_state_n (l : Launch) (D : va_G) (cI cZ cN cJ : ClassId) (lo : Nat) (htr : l.stackTraces = false) (x n : Nat) (N : Nat → Nat → Int32) (R : Nat → Nat → Nat → Int32) (lev tot : Nat → Int32) (v : Int32) (hb : v < 0 ∨ ¬ v < nI n) : hq_T l y_X_state b_X_state 2 (some (.int)) TB { frames := 7, cells := 1, slots := 6, locals := 130 } D vwCl (TY cI cZ cN cJ) [.ref (x), .int (v)] (fun U => hq_E lo U ∧ busP D cI cZ cN x n N R lev tot U.heap) "java/lang/IllegalArgumentException" := by
  refine hq_ofT (by decide) (Nat.le_of_ble_eq_true rfl) ?_
  intro p e s m below meth c ls C hml hlk hout hl hP
  obtain ⟨hE, kB, kN⟩ := hP
  have hl : lv_has ls 2 [(0, .ref (x)), (1, .int (v))] := hl
  have k0 : va_at D vwCl (x, .inr (5, [.ref (x + 3), .ref (x + 1), .ref (x + 2)])) s.heap := kB 0 (by decide)
  refine lv_aload_n C.1 C.2.1 d_X_state_0 rfl (lv_at hl 0 rfl) ?_
  refine lv_iload_n C.1 C.2.1 d_X_state_1 rfl (lv_at hl 1 rfl) ?_
  refine hq_tcallV (As := [.int (v)]) (rest := []) C tb_good hml Y_X_32 (t_nodeOf l D cI cZ cN cJ lo htr x n N R lev tot v hb) k0 rfl (fun _ _ _ _ h => ⟨hq_E.call h.1, h.2⟩) (fun U hU hW => ⟨hE.move hW (by rw [hU]; exact hq_O0), by show busP D cI cZ cN x n N R lev tot U.heap; rw [hU]; exact ⟨kB, kN⟩⟩) hl.1 rfl rfl ⟨⟨Nat.le_of_ble_eq_true rfl, Nat.le_of_ble_eq_true rfl⟩, Nat.le_of_ble_eq_true rfl, Nat.le_of_ble_eq_true rfl⟩ (Nat.le_of_ble_eq_true rfl) d_X_state_2 (fun q9 ce9 H9 hO9 hz9 hce9 hcv9 hcl9 => ?_)
  exact hq_tout (fun x9 h9 => hout x9 h9 _) hlk hce9 hcv9 hcl9 (Nat.le_of_ble_eq_true rfl) (Nat.le_of_ble_eq_true rfl)
set_option maxHeartbeats 4000000 in
set_option maxRecDepth 100000 in
theorem t_count_n (l : Launch) (D : va_G) (cI cZ cN cJ : ClassId) (lo : Nat) (htr : l.stackTraces = false) (x n : Nat) (N : Nat → Nat → Int32) (R : Nat → Nat → Nat → Int32) (lev tot : Nat → Int32) (v a : Int32) (hb : v < 0 ∨ ¬ v < nI n) : hq_T l y_X_count b_X_count 4 (some (.int)) TB { frames := 7, cells := 1, slots := 6, locals := 130 } D vwCl (TY cI cZ cN cJ) [.ref (x), .int (v), .int (a)] (fun U => hq_E lo U ∧ busP D cI cZ cN x n N R lev tot U.heap) "java/lang/IllegalArgumentException" := by
  refine hq_ofT (by decide) (Nat.le_of_ble_eq_true rfl) ?_
  intro p e s m below meth c ls C hml hlk hout hl hP
  obtain ⟨hE, kB, kN⟩ := hP
  have hl : lv_has ls 4 [(0, .ref (x)), (1, .int (v)), (2, .int (a))] := hl
  have k0 : va_at D vwCl (x, .inr (5, [.ref (x + 3), .ref (x + 1), .ref (x + 2)])) s.heap := kB 0 (by decide)
  refine lv_aload_n C.1 C.2.1 d_X_count_0 rfl (lv_at hl 0 rfl) ?_
  refine lv_iload_n C.1 C.2.1 d_X_count_1 rfl (lv_at hl 1 rfl) ?_
  refine hq_tcallV (As := [.int (v)]) (rest := []) C tb_good hml Y_X_32 (t_nodeOf l D cI cZ cN cJ lo htr x n N R lev tot v hb) k0 rfl (fun _ _ _ _ h => ⟨hq_E.call h.1, h.2⟩) (fun U hU hW => ⟨hE.move hW (by rw [hU]; exact hq_O0), by show busP D cI cZ cN x n N R lev tot U.heap; rw [hU]; exact ⟨kB, kN⟩⟩) hl.1 rfl rfl ⟨⟨Nat.le_of_ble_eq_true rfl, Nat.le_of_ble_eq_true rfl⟩, Nat.le_of_ble_eq_true rfl, Nat.le_of_ble_eq_true rfl⟩ (Nat.le_of_ble_eq_true rfl) d_X_count_2 (fun q9 ce9 H9 hO9 hz9 hce9 hcv9 hcl9 => ?_)
  exact hq_tout (fun x9 h9 => hout x9 h9 _) hlk hce9 hcv9 hcl9 (Nat.le_of_ble_eq_true rfl) (Nat.le_of_ble_eq_true rfl)
set_option maxHeartbeats 4000000 in
set_option maxRecDepth 100000 in
theorem t_take_n (l : Launch) (D : va_G) (cI cZ cN cJ : ClassId) (lo : Nat) (htr : l.stackTraces = false) (x n : Nat) (N : Nat → Nat → Int32) (R : Nat → Nat → Nat → Int32) (lev tot : Nat → Int32) (v : Int32) (hb : v < 0 ∨ ¬ v < nI n) : hq_T l y_X_take b_X_take 3 (some (.int)) TB { frames := 7, cells := 1, slots := 6, locals := 130 } D vwCl (TY cI cZ cN cJ) [.ref (x), .int (v)] (fun U => hq_E lo U ∧ busP D cI cZ cN x n N R lev tot U.heap) "java/lang/IllegalArgumentException" := by
  refine hq_ofT (by decide) (Nat.le_of_ble_eq_true rfl) ?_
  intro p e s m below meth c ls C hml hlk hout hl hP
  obtain ⟨hE, kB, kN⟩ := hP
  have hl : lv_has ls 3 [(0, .ref (x)), (1, .int (v))] := hl
  have k0 : va_at D vwCl (x, .inr (5, [.ref (x + 3), .ref (x + 1), .ref (x + 2)])) s.heap := kB 0 (by decide)
  refine lv_aload_n C.1 C.2.1 d_X_take_0 rfl (lv_at hl 0 rfl) ?_
  refine lv_iload_n C.1 C.2.1 d_X_take_1 rfl (lv_at hl 1 rfl) ?_
  refine hq_tcallV (As := [.int (v)]) (rest := []) C tb_good hml Y_X_32 (t_nodeOf l D cI cZ cN cJ lo htr x n N R lev tot v hb) k0 rfl (fun _ _ _ _ h => ⟨hq_E.call h.1, h.2⟩) (fun U hU hW => ⟨hE.move hW (by rw [hU]; exact hq_O0), by show busP D cI cZ cN x n N R lev tot U.heap; rw [hU]; exact ⟨kB, kN⟩⟩) hl.1 rfl rfl ⟨⟨Nat.le_of_ble_eq_true rfl, Nat.le_of_ble_eq_true rfl⟩, Nat.le_of_ble_eq_true rfl, Nat.le_of_ble_eq_true rfl⟩ (Nat.le_of_ble_eq_true rfl) d_X_take_2 (fun q9 ce9 H9 hO9 hz9 hce9 hcv9 hcl9 => ?_)
  exact hq_tout (fun x9 h9 => hout x9 h9 _) hlk hce9 hcv9 hcl9 (Nat.le_of_ble_eq_true rfl) (Nat.le_of_ble_eq_true rfl)
/-- a frame that may be asked for -/
def rq (a b d : Int32) : Prop := ¬ el a = 0 ∧ ¬ b < 0 ∧ ¬ (2 : Int32) < b ∧ ¬ d < 0 ∧ d < (1 : Int32) <<< ((8 * b) &&& 31)
set_option maxHeartbeats 4000000 in
set_option maxRecDepth 100000 in
theorem t_request_f (l : Launch) (D : va_G) (cI cZ cN cJ : ClassId) (lo : Nat) (htr : l.stackTraces = false) (x n : Nat) (N : Nat → Nat → Int32) (R : Nat → Nat → Nat → Int32) (lev tot : Nat → Int32) (j : Nat) (hn : n ≤ 4) (hj : j < n) (a b d : Int32) (hb : ¬ rq a b d) : hq_T l y_X_request b_X_request 6 (some (.int)) TB { frames := 7, cells := 1, slots := 6, locals := 130 } D vwCl (TY cI cZ cN cJ) [.ref (x), .int (nI j), .int (a), .int (b), .int (d)] (fun U => hq_E lo U ∧ busP D cI cZ cN x n N R lev tot U.heap) "java/lang/IllegalArgumentException" := by
  refine hq_ofT (by decide) (Nat.le_of_ble_eq_true rfl) ?_
  intro p e s m below meth c ls C hml hlk hout hl hP
  obtain ⟨hE, kB, kN⟩ := hP
  have hl : lv_has ls 6 [(0, .ref (x)), (1, .int (nI j)), (2, .int (a)), (3, .int (b)), (4, .int (d))] := hl
  have hL : hq_L s.heap.size [] := hq_L0
  have k0 : va_at D vwCl (x, .inr (5, [.ref (x + 3), .ref (x + 1), .ref (x + 2)])) s.heap := kB 0 (by decide)
  refine lv_aload_n C.1 C.2.1 d_X_request_0 rfl (lv_at hl 0 rfl) ?_
  refine lv_iload_n C.1 C.2.1 d_X_request_1 rfl (lv_at hl 1 rfl) ?_
  refine hq_callV (lo := s.heap.size) (As := [.int (nI j)]) (rest := []) C tb_good hml Y_X_32 (c_nodeOf l D cI cZ cN cJ s.heap.size x n j N R lev tot hn hj) k0 rfl (fun _ _ _ _ h => h) (fun U hU hW => by show busP D cI cZ cN x n N R lev tot U.heap; rw [hU]; exact ⟨kB, kN⟩) hL hl.1 rfl rfl ⟨⟨Nat.le_of_ble_eq_true rfl, Nat.le_of_ble_eq_true rfl⟩, Nat.le_of_ble_eq_true rfl, Nat.le_of_ble_eq_true rfl⟩ (Nat.le_of_ble_eq_true rfl) d_X_request_2 (fun v H41 locs hp hL => ?_)
  obtain ⟨rfl, rfl⟩ := hp
  refine va_forget hL ?_
  have hL : hq_L s.heap.size [] := hq_L0
  refine W.eq (g2 := F0 m 5 ls [.ref (x + 4 + 10 * j)]) rfl ?_
  refine lv_astore C.1 C.2.1 d_X_request_5 hl (by decide) rfl (lv' := [(5, .ref (x + 4 + 10 * j)), (0, .ref (x)), (1, .int (nI j)), (2, .int (a)), (3, .int (b)), (4, .int (d))]) (fun ls hl => ?_)
  refine lv_iload_n C.1 C.2.1 d_X_request_7 rfl (lv_at hl 3 rfl) ?_
  refine hq_callS (lo := s.heap.size) (As := [.int (a)]) (rest := []) C tb_good hml Y_X_36 (c_isEleven l D cI cZ cN cJ s.heap.size a) (fun _ _ _ _ h => h) (fun U hU hW => trivial) hL hl.1 rfl rfl ⟨⟨Nat.le_of_ble_eq_true rfl, Nat.le_of_ble_eq_true rfl⟩, Nat.le_of_ble_eq_true rfl, Nat.le_of_ble_eq_true rfl⟩ (Nat.le_of_ble_eq_true rfl) d_X_request_8 (fun v H42 locs hp hL => ?_)
  obtain ⟨rfl, rfl⟩ := hp
  refine va_forget hL ?_
  have hL : hq_L s.heap.size [] := hq_L0
  refine W.eq (g2 := F0 m 11 ls [.int (el a)]) rfl ?_
  refine lv_if_eq (tgt := 39) C.1 C.2.1 d_X_request_11 (by decide) ?_ ?_
  · intro c0
    exact hq_throw C htr hE ex_wA ex_goodA ex_badA (by decide +kernel) (is := 42) (tx := "no such frame") (by decide +kernel) (hml.trans hl.1.symm) d_X_request_39 d_X_request_42 d_X_request_43 d_X_request_45 d_X_request_48 hout hlk (Nat.le_of_ble_eq_true rfl) (Nat.le_of_ble_eq_true rfl) (Nat.le_of_ble_eq_true rfl) (Nat.le_of_ble_eq_true rfl) (Nat.le_of_ble_eq_true rfl) (Nat.le_of_ble_eq_true rfl)
  · intro c0
    refine lv_iload_n C.1 C.2.1 d_X_request_14 rfl (lv_at hl 4 rfl) ?_
    refine lv_if_lt (tgt := 39) C.1 C.2.1 d_X_request_15 (by decide) ?_ ?_
    · intro c1
      exact hq_throw C htr hE ex_wA ex_goodA ex_badA (by decide +kernel) (is := 42) (tx := "no such frame") (by decide +kernel) (hml.trans hl.1.symm) d_X_request_39 d_X_request_42 d_X_request_43 d_X_request_45 d_X_request_48 hout hlk (Nat.le_of_ble_eq_true rfl) (Nat.le_of_ble_eq_true rfl) (Nat.le_of_ble_eq_true rfl) (Nat.le_of_ble_eq_true rfl) (Nat.le_of_ble_eq_true rfl) (Nat.le_of_ble_eq_true rfl)
    · intro c1
      refine lv_iload_n C.1 C.2.1 d_X_request_18 rfl (lv_at hl 4 rfl) ?_
      refine lv_iconst (v := 2) C.1 C.2.1 d_X_request_19 (by decide) ?_
      refine lv_icmp_gt (tgt := 39) C.1 C.2.1 d_X_request_20 (by decide) ?_ ?_
      · intro c2
        exact hq_throw C htr hE ex_wA ex_goodA ex_badA (by decide +kernel) (is := 42) (tx := "no such frame") (by decide +kernel) (hml.trans hl.1.symm) d_X_request_39 d_X_request_42 d_X_request_43 d_X_request_45 d_X_request_48 hout hlk (Nat.le_of_ble_eq_true rfl) (Nat.le_of_ble_eq_true rfl) (Nat.le_of_ble_eq_true rfl) (Nat.le_of_ble_eq_true rfl) (Nat.le_of_ble_eq_true rfl) (Nat.le_of_ble_eq_true rfl)
      · intro c2
        refine lv_iload C.1 C.2.1 d_X_request_23 (lv_at hl 5 rfl) ?_
        refine lv_if_lt (tgt := 39) C.1 C.2.1 d_X_request_25 (by decide) ?_ ?_
        · intro c3
          exact hq_throw C htr hE ex_wA ex_goodA ex_badA (by decide +kernel) (is := 42) (tx := "no such frame") (by decide +kernel) (hml.trans hl.1.symm) d_X_request_39 d_X_request_42 d_X_request_43 d_X_request_45 d_X_request_48 hout hlk (Nat.le_of_ble_eq_true rfl) (Nat.le_of_ble_eq_true rfl) (Nat.le_of_ble_eq_true rfl) (Nat.le_of_ble_eq_true rfl) (Nat.le_of_ble_eq_true rfl) (Nat.le_of_ble_eq_true rfl)
        · intro c3
          refine lv_iload C.1 C.2.1 d_X_request_28 (lv_at hl 5 rfl) ?_
          refine lv_iconst (v := 1) C.1 C.2.1 d_X_request_30 (by decide) ?_
          refine lv_bipush (v := 8) C.1 C.2.1 d_X_request_31 (by decide) ?_
          refine lv_iload_n C.1 C.2.1 d_X_request_33 rfl (lv_at hl 4 rfl) ?_
          refine lv_imul C.1 C.2.1 d_X_request_34 ?_
          refine lv_ishl C.1 C.2.1 d_X_request_35 ?_
          refine lv_icmp_lt (tgt := 49) C.1 C.2.1 d_X_request_36 (by decide) ?_ ?_
          · intro c4
            exact absurd ⟨c0, c1, c2, c3, c4⟩ hb
          · intro c4
            exact hq_throw C htr hE ex_wA ex_goodA ex_badA (by decide +kernel) (is := 42) (tx := "no such frame") (by decide +kernel) (hml.trans hl.1.symm) d_X_request_39 d_X_request_42 d_X_request_43 d_X_request_45 d_X_request_48 hout hlk (Nat.le_of_ble_eq_true rfl) (Nat.le_of_ble_eq_true rfl) (Nat.le_of_ble_eq_true rfl) (Nat.le_of_ble_eq_true rfl) (Nat.le_of_ble_eq_true rfl) (Nat.le_of_ble_eq_true rfl)
set_option maxHeartbeats 4000000 in
set_option maxRecDepth 100000 in
theorem t_filter_f (l : Launch) (D : va_G) (cI cZ cN cJ : ClassId) (lo : Nat) (htr : l.stackTraces = false) (x n : Nat) (N : Nat → Nat → Int32) (R : Nat → Nat → Nat → Int32) (lev tot : Nat → Int32) (j : Nat) (hn : n ≤ 4) (hj : j < n) (a b : Int32) (hb : ¬ (¬ el a = 0 ∧ ¬ el b = 0)) : hq_T l y_X_filter b_X_filter 5 none TB { frames := 7, cells := 1, slots := 6, locals := 130 } D vwCl (TY cI cZ cN cJ) [.ref (x), .int (nI j), .int (a), .int (b)] (fun U => hq_E lo U ∧ busP D cI cZ cN x n N R lev tot U.heap) "java/lang/IllegalArgumentException" := by
  refine hq_ofT (by decide) (Nat.le_of_ble_eq_true rfl) ?_
  intro p e s m below meth c ls C hml hlk hout hl hP
  obtain ⟨hE, kB, kN⟩ := hP
  have hl : lv_has ls 5 [(0, .ref (x)), (1, .int (nI j)), (2, .int (a)), (3, .int (b))] := hl
  have hL : hq_L s.heap.size [] := hq_L0
  have k0 : va_at D vwCl (x, .inr (5, [.ref (x + 3), .ref (x + 1), .ref (x + 2)])) s.heap := kB 0 (by decide)
  refine lv_aload_n C.1 C.2.1 d_X_filter_0 rfl (lv_at hl 0 rfl) ?_
  refine lv_iload_n C.1 C.2.1 d_X_filter_1 rfl (lv_at hl 1 rfl) ?_
  refine hq_callV (lo := s.heap.size) (As := [.int (nI j)]) (rest := []) C tb_good hml Y_X_32 (c_nodeOf l D cI cZ cN cJ s.heap.size x n j N R lev tot hn hj) k0 rfl (fun _ _ _ _ h => h) (fun U hU hW => by show busP D cI cZ cN x n N R lev tot U.heap; rw [hU]; exact ⟨kB, kN⟩) hL hl.1 rfl rfl ⟨⟨Nat.le_of_ble_eq_true rfl, Nat.le_of_ble_eq_true rfl⟩, Nat.le_of_ble_eq_true rfl, Nat.le_of_ble_eq_true rfl⟩ (Nat.le_of_ble_eq_true rfl) d_X_filter_2 (fun v H41 locs hp hL => ?_)
  obtain ⟨rfl, rfl⟩ := hp
  refine va_forget hL ?_
  have hL : hq_L s.heap.size [] := hq_L0
  refine W.eq (g2 := F0 m 5 ls [.ref (x + 4 + 10 * j)]) rfl ?_
  refine lv_astore C.1 C.2.1 d_X_filter_5 hl (by decide) rfl (lv' := [(4, .ref (x + 4 + 10 * j)), (0, .ref (x)), (1, .int (nI j)), (2, .int (a)), (3, .int (b))]) (fun ls hl => ?_)
  refine lv_iload_n C.1 C.2.1 d_X_filter_7 rfl (lv_at hl 3 rfl) ?_
  refine hq_callS (lo := s.heap.size) (As := [.int (a)]) (rest := []) C tb_good hml Y_X_36 (c_isEleven l D cI cZ cN cJ s.heap.size a) (fun _ _ _ _ h => h) (fun U hU hW => trivial) hL hl.1 rfl rfl ⟨⟨Nat.le_of_ble_eq_true rfl, Nat.le_of_ble_eq_true rfl⟩, Nat.le_of_ble_eq_true rfl, Nat.le_of_ble_eq_true rfl⟩ (Nat.le_of_ble_eq_true rfl) d_X_filter_8 (fun v H42 locs hp hL => ?_)
  obtain ⟨rfl, rfl⟩ := hp
  refine va_forget hL ?_
  have hL : hq_L s.heap.size [] := hq_L0
  refine W.eq (g2 := F0 m 11 ls [.int (el a)]) rfl ?_
  refine lv_if_eq (tgt := 21) C.1 C.2.1 d_X_filter_11 (by decide) ?_ ?_
  · intro c0
    exact hq_throw C htr hE ex_wA ex_goodA ex_badA (by decide +kernel) (is := 77) (tx := "mask or value is not 0 .. 2047") (by decide +kernel) (hml.trans hl.1.symm) d_X_filter_21 d_X_filter_24 d_X_filter_25 d_X_filter_27 d_X_filter_30 hout hlk (Nat.le_of_ble_eq_true rfl) (Nat.le_of_ble_eq_true rfl) (Nat.le_of_ble_eq_true rfl) (Nat.le_of_ble_eq_true rfl) (Nat.le_of_ble_eq_true rfl) (Nat.le_of_ble_eq_true rfl)
  · intro c0
    refine lv_iload_n C.1 C.2.1 d_X_filter_14 rfl (lv_at hl 4 rfl) ?_
    refine hq_callS (lo := s.heap.size) (As := [.int (b)]) (rest := []) C tb_good hml Y_X_36 (c_isEleven l D cI cZ cN cJ s.heap.size b) (fun _ _ _ _ h => h) (fun U hU hW => trivial) hL hl.1 rfl rfl ⟨⟨Nat.le_of_ble_eq_true rfl, Nat.le_of_ble_eq_true rfl⟩, Nat.le_of_ble_eq_true rfl, Nat.le_of_ble_eq_true rfl⟩ (Nat.le_of_ble_eq_true rfl) d_X_filter_15 (fun v H43 locs hp hL => ?_)
    obtain ⟨rfl, rfl⟩ := hp
    refine va_forget hL ?_
    have hL : hq_L s.heap.size [] := hq_L0
    refine W.eq (g2 := F0 m 18 ls [.int (el b)]) rfl ?_
    refine lv_if_ne (tgt := 31) C.1 C.2.1 d_X_filter_18 (by decide) ?_ ?_
    · intro c1
      exact absurd ⟨c0, c1⟩ hb
    · intro c1
      exact hq_throw C htr hE ex_wA ex_goodA ex_badA (by decide +kernel) (is := 77) (tx := "mask or value is not 0 .. 2047") (by decide +kernel) (hml.trans hl.1.symm) d_X_filter_21 d_X_filter_24 d_X_filter_25 d_X_filter_27 d_X_filter_30 hout hlk (Nat.le_of_ble_eq_true rfl) (Nat.le_of_ble_eq_true rfl) (Nat.le_of_ble_eq_true rfl) (Nat.le_of_ble_eq_true rfl) (Nat.le_of_ble_eq_true rfl) (Nat.le_of_ble_eq_true rfl)
set_option maxHeartbeats 4000000 in
set_option maxRecDepth 100000 in
theorem t_disturb_f (l : Launch) (D : va_G) (cI cZ cN cJ : ClassId) (lo : Nat) (htr : l.stackTraces = false) (x n : Nat) (N : Nat → Nat → Int32) (R : Nat → Nat → Nat → Int32) (lev tot : Nat → Int32) (j : Nat) (hn : n ≤ 4) (hj : j < n) (a : Int32) (hb : a < 1 ∨ ¬ a ≤ 200) : hq_T l y_X_disturb b_X_disturb 4 none TB { frames := 7, cells := 1, slots := 6, locals := 130 } D vwCl (TY cI cZ cN cJ) [.ref (x), .int (nI j), .int (a)] (fun U => hq_E lo U ∧ busP D cI cZ cN x n N R lev tot U.heap) "java/lang/IllegalArgumentException" := by
  refine hq_ofT (by decide) (Nat.le_of_ble_eq_true rfl) ?_
  intro p e s m below meth c ls C hml hlk hout hl hP
  obtain ⟨hE, kB, kN⟩ := hP
  have hl : lv_has ls 4 [(0, .ref (x)), (1, .int (nI j)), (2, .int (a))] := hl
  have hL : hq_L s.heap.size [] := hq_L0
  have k0 : va_at D vwCl (x, .inr (5, [.ref (x + 3), .ref (x + 1), .ref (x + 2)])) s.heap := kB 0 (by decide)
  refine lv_aload_n C.1 C.2.1 d_X_disturb_0 rfl (lv_at hl 0 rfl) ?_
  refine lv_iload_n C.1 C.2.1 d_X_disturb_1 rfl (lv_at hl 1 rfl) ?_
  refine hq_callV (lo := s.heap.size) (As := [.int (nI j)]) (rest := []) C tb_good hml Y_X_32 (c_nodeOf l D cI cZ cN cJ s.heap.size x n j N R lev tot hn hj) k0 rfl (fun _ _ _ _ h => h) (fun U hU hW => by show busP D cI cZ cN x n N R lev tot U.heap; rw [hU]; exact ⟨kB, kN⟩) hL hl.1 rfl rfl ⟨⟨Nat.le_of_ble_eq_true rfl, Nat.le_of_ble_eq_true rfl⟩, Nat.le_of_ble_eq_true rfl, Nat.le_of_ble_eq_true rfl⟩ (Nat.le_of_ble_eq_true rfl) d_X_disturb_2 (fun v H41 locs hp hL => ?_)
  obtain ⟨rfl, rfl⟩ := hp
  refine va_forget hL ?_
  have hL : hq_L s.heap.size [] := hq_L0
  refine W.eq (g2 := F0 m 5 ls [.ref (x + 4 + 10 * j)]) rfl ?_
  refine lv_astore_n C.1 C.2.1 d_X_disturb_5 rfl hl (by decide) rfl (lv' := [(3, .ref (x + 4 + 10 * j)), (0, .ref (x)), (1, .int (nI j)), (2, .int (a))]) (fun ls hl => ?_)
  refine lv_iload_n C.1 C.2.1 d_X_disturb_6 rfl (lv_at hl 3 rfl) ?_
  refine hq_tcallS (As := [.int (a)]) (rest := []) C tb_good hml Y_X_85 (t_checkBitTimes l D cI cZ cN cJ lo htr a hb) (fun _ _ _ _ h => hq_E.call h) (fun U hU hW => hE.move hW (by rw [hU]; exact hq_O0)) hl.1 rfl rfl ⟨⟨Nat.le_of_ble_eq_true rfl, Nat.le_of_ble_eq_true rfl⟩, Nat.le_of_ble_eq_true rfl, Nat.le_of_ble_eq_true rfl⟩ (Nat.le_of_ble_eq_true rfl) d_X_disturb_7 (fun q9 ce9 H9 hO9 hz9 hce9 hcv9 hcl9 => ?_)
  exact hq_tout (fun x9 h9 => hout x9 h9 _) hlk hce9 hcv9 hcl9 (Nat.le_of_ble_eq_true rfl) (Nat.le_of_ble_eq_true rfl)
set_option maxHeartbeats 4000000 in
set_option maxRecDepth 100000 in
theorem t_take_e (l : Launch) (D : va_G) (cI cZ cN cJ : ClassId) (lo : Nat) (htr : l.stackTraces = false) (x n : Nat) (N : Nat → Nat → Int32) (R : Nat → Nat → Nat → Int32) (lev tot : Nat → Int32) (j : Nat) (hn : n ≤ 4) (hj : j < n) (hb : N j 14 = 0) : hq_T l y_X_take b_X_take 3 (some (.int)) TB { frames := 7, cells := 1, slots := 6, locals := 130 } D vwCl (TY cI cZ cN cJ) [.ref (x), .int (nI j)] (fun U => hq_E lo U ∧ busP D cI cZ cN x n N R lev tot U.heap) "java/lang/IllegalStateException" := by
  refine hq_ofT (by decide) (Nat.le_of_ble_eq_true rfl) ?_
  intro p e s m below meth c ls C hml hlk hout hl hP
  obtain ⟨hE, kB, kN⟩ := hP
  have hl : lv_has ls 3 [(0, .ref (x)), (1, .int (nI j))] := hl
  have hL : hq_L s.heap.size [] := hq_L0
  have k0 : va_at D vwCl (x, .inr (5, [.ref (x + 3), .ref (x + 1), .ref (x + 2)])) s.heap := kB 0 (by decide)
  refine lv_aload_n C.1 C.2.1 d_X_take_0 rfl (lv_at hl 0 rfl) ?_
  refine lv_iload_n C.1 C.2.1 d_X_take_1 rfl (lv_at hl 1 rfl) ?_
  refine hq_callV (lo := s.heap.size) (As := [.int (nI j)]) (rest := []) C tb_good hml Y_X_32 (c_nodeOf l D cI cZ cN cJ s.heap.size x n j N R lev tot hn hj) k0 rfl (fun _ _ _ _ h => h) (fun U hU hW => by show busP D cI cZ cN x n N R lev tot U.heap; rw [hU]; exact ⟨kB, kN⟩) hL hl.1 rfl rfl ⟨⟨Nat.le_of_ble_eq_true rfl, Nat.le_of_ble_eq_true rfl⟩, Nat.le_of_ble_eq_true rfl, Nat.le_of_ble_eq_true rfl⟩ (Nat.le_of_ble_eq_true rfl) d_X_take_2 (fun v H41 locs hp hL => ?_)
  obtain ⟨rfl, rfl⟩ := hp
  refine va_forget hL ?_
  have hL : hq_L s.heap.size [] := hq_L0
  refine W.eq (g2 := F0 m 5 ls [.ref (x + 4 + 10 * j)]) rfl ?_
  have m0 : va_at D vwCl (x + 4 + 10 * j, .inr (3, [.ref (x + 4 + 10 * j + 1), .ref (x + 4 + 10 * j + 3), .ref (x + 4 + 10 * j + 5), .ref (x + 4 + 10 * j + 7), .ref (x + 4 + 10 * j + 9), .int (N j 0), .int (N j 1), .int (N j 2), .int (N j 3), .int (N j 4), .int (N j 5), .int (N j 6), .int (N j 7), .int (N j 8), .int (N j 9), .int (N j 10), .int (N j 11), .int (N j 12)])) s.heap := kN j hj 0 (by decide)
  have m3 : va_at D vwCl (x + 4 + 10 * j + 3, .inr (2, [.ref (x + 4 + 10 * j + 4), .int (N j 14)])) s.heap := kN j hj 3 (by decide)
  refine lv_astore_n C.1 C.2.1 d_X_take_5 rfl hl (by decide) rfl (lv' := [(2, .ref (x + 4 + 10 * j)), (0, .ref (x)), (1, .int (nI j))]) (fun ls hl => ?_)
  refine lv_aload_n C.1 C.2.1 d_X_take_6 rfl (lv_at hl 0 rfl) ?_
  refine hq_get (v := .ref (x + 4 + 10 * j + 3)) C f_X_106 m0 rfl d_X_take_7 ?_
  refine hq_get (v := .int (N j 14)) C f_X_74 m3 rfl d_X_take_10 ?_
  refine lv_if_ne (tgt := 26) C.1 C.2.1 d_X_take_13 (by decide) (fun hn => absurd hn (fun h9 => h9 hb)) (fun _ => ?_)
  exact hq_throw C htr hE ex_wS ex_goodS ex_badS (by decide +kernel) (is := 114) (tx := "the inbox is empty") (by decide +kernel) (hml.trans hl.1.symm) d_X_take_16 d_X_take_19 d_X_take_20 d_X_take_22 d_X_take_25 hout hlk (Nat.le_of_ble_eq_true rfl) (Nat.le_of_ble_eq_true rfl) (Nat.le_of_ble_eq_true rfl) (Nat.le_of_ble_eq_true rfl) (Nat.le_of_ble_eq_true rfl) (Nat.le_of_ble_eq_true rfl)
set_option maxHeartbeats 4000000 in
set_option maxRecDepth 100000 in
theorem t_pass (l : Launch) (D : va_G) (cI cZ cN cJ : ClassId) (lo : Nat) (htr : l.stackTraces = false) (x n : Nat) (N : Nat → Nat → Int32) (R : Nat → Nat → Nat → Int32) (lev tot : Nat → Int32) (a : Int32) (hb : a < 1 ∨ ¬ a ≤ 200) : hq_T l y_X_pass b_X_pass 4 (some (.int)) TB { frames := 7, cells := 1, slots := 6, locals := 130 } D vwCl (TY cI cZ cN cJ) [.ref (x), .int (a)] (fun U => hq_E lo U ∧ busP D cI cZ cN x n N R lev tot U.heap) "java/lang/IllegalArgumentException" := by
  refine hq_ofT (by decide) (Nat.le_of_ble_eq_true rfl) ?_
  intro p e s m below meth c ls C hml hlk hout hl hP
  obtain ⟨hE, kB, kN⟩ := hP
  have hl : lv_has ls 4 [(0, .ref (x)), (1, .int (a))] := hl
  refine lv_iload_n C.1 C.2.1 d_X_pass_0 rfl (lv_at hl 1 rfl) ?_
  refine hq_tcallS (As := [.int (a)]) (rest := []) C tb_good hml Y_X_85 (t_checkBitTimes l D cI cZ cN cJ lo htr a hb) (fun _ _ _ _ h => hq_E.call h) (fun U hU hW => hE.move hW (by rw [hU]; exact hq_O0)) hl.1 rfl rfl ⟨⟨Nat.le_of_ble_eq_true rfl, Nat.le_of_ble_eq_true rfl⟩, Nat.le_of_ble_eq_true rfl, Nat.le_of_ble_eq_true rfl⟩ (Nat.le_of_ble_eq_true rfl) d_X_pass_1 (fun q9 ce9 H9 hO9 hz9 hce9 hcv9 hcl9 => ?_)
  exact hq_tout (fun x9 h9 => hout x9 h9 _) hlk hce9 hcv9 hcl9 (Nat.le_of_ble_eq_true rfl) (Nat.le_of_ble_eq_true rfl)
set_option maxHeartbeats 4000000 in
set_option maxRecDepth 100000 in
theorem t_total (l : Launch) (D : va_G) (cI cZ cN cJ : ClassId) (lo : Nat) (htr : l.stackTraces = false) (x n : Nat) (N : Nat → Nat → Int32) (R : Nat → Nat → Nat → Int32) (lev tot : Nat → Int32) (a : Int32) (hb : a < 0 ∨ ¬ a < 8) : hq_T l y_X_total b_X_total 2 (some (.int)) TB { frames := 7, cells := 1, slots := 6, locals := 130 } D vwCl (TY cI cZ cN cJ) [.ref (x), .int (a)] (fun U => hq_E lo U ∧ busP D cI cZ cN x n N R lev tot U.heap) "java/lang/IllegalArgumentException" := by
  refine hq_ofT (by decide) (Nat.le_of_ble_eq_true rfl) ?_
  intro p e s m below meth c ls C hml hlk hout hl hP
  obtain ⟨hE, kB, kN⟩ := hP
  have hl : lv_has ls 2 [(0, .ref (x)), (1, .int (a))] := hl
  refine lv_iload_n C.1 C.2.1 d_X_total_0 rfl (lv_at hl 1 rfl) ?_
  refine lv_if_lt (tgt := 10) C.1 C.2.1 d_X_total_1 (by decide) ?_ ?_
  · intro c0
    exact hq_throw C htr hE ex_wA ex_goodA ex_badA (by decide +kernel) (is := 120) (tx := "no such total") (by decide +kernel) (hml.trans hl.1.symm) d_X_total_10 d_X_total_13 d_X_total_14 d_X_total_16 d_X_total_19 hout hlk (Nat.le_of_ble_eq_true rfl) (Nat.le_of_ble_eq_true rfl) (Nat.le_of_ble_eq_true rfl) (Nat.le_of_ble_eq_true rfl) (Nat.le_of_ble_eq_true rfl) (Nat.le_of_ble_eq_true rfl)
  · intro c0
    refine lv_iload_n C.1 C.2.1 d_X_total_4 rfl (lv_at hl 1 rfl) ?_
    refine lv_bipush (v := 8) C.1 C.2.1 d_X_total_5 (by decide) ?_
    refine lv_icmp_lt (tgt := 20) C.1 C.2.1 d_X_total_7 (by decide) (fun hn => absurd hn (fun h9 => hb.elim c0 (fun z => z h9))) (fun _ => ?_)
    exact hq_throw C htr hE ex_wA ex_goodA ex_badA (by decide +kernel) (is := 120) (tx := "no such total") (by decide +kernel) (hml.trans hl.1.symm) d_X_total_10 d_X_total_13 d_X_total_14 d_X_total_16 d_X_total_19 hout hlk (Nat.le_of_ble_eq_true rfl) (Nat.le_of_ble_eq_true rfl) (Nat.le_of_ble_eq_true rfl) (Nat.le_of_ble_eq_true rfl) (Nat.le_of_ble_eq_true rfl) (Nat.le_of_ble_eq_true rfl)
set_option maxHeartbeats 4000000 in
set_option maxRecDepth 100000 in
theorem t_count_f (l : Launch) (D : va_G) (cI cZ cN cJ : ClassId) (lo : Nat) (htr : l.stackTraces = false) (x n : Nat) (N : Nat → Nat → Int32) (R : Nat → Nat → Nat → Int32) (lev tot : Nat → Int32) (j : Nat) (hn : n ≤ 4) (hj : j < n) (a : Int32) (hb : a.toInt < 0 ∨ 4 < a.toInt) : hq_T l y_X_count b_X_count 4 (some (.int)) TB { frames := 7, cells := 1, slots := 6, locals := 130 } D vwCl (TY cI cZ cN cJ) [.ref (x), .int (nI j), .int (a)] (fun U => hq_E lo U ∧ busP D cI cZ cN x n N R lev tot U.heap) "java/lang/IllegalArgumentException" := by
  refine hq_ofT (by decide) (Nat.le_of_ble_eq_true rfl) ?_
  intro p e s m below meth c ls C hml hlk hout hl hP
  obtain ⟨hE, kB, kN⟩ := hP
  have hl : lv_has ls 4 [(0, .ref (x)), (1, .int (nI j)), (2, .int (a))] := hl
  have hL : hq_L s.heap.size [] := hq_L0
  have k0 : va_at D vwCl (x, .inr (5, [.ref (x + 3), .ref (x + 1), .ref (x + 2)])) s.heap := kB 0 (by decide)
  refine lv_aload_n C.1 C.2.1 d_X_count_0 rfl (lv_at hl 0 rfl) ?_
  refine lv_iload_n C.1 C.2.1 d_X_count_1 rfl (lv_at hl 1 rfl) ?_
  refine hq_callV (lo := s.heap.size) (As := [.int (nI j)]) (rest := []) C tb_good hml Y_X_32 (c_nodeOf l D cI cZ cN cJ s.heap.size x n j N R lev tot hn hj) k0 rfl (fun _ _ _ _ h => h) (fun U hU hW => by show busP D cI cZ cN x n N R lev tot U.heap; rw [hU]; exact ⟨kB, kN⟩) hL hl.1 rfl rfl ⟨⟨Nat.le_of_ble_eq_true rfl, Nat.le_of_ble_eq_true rfl⟩, Nat.le_of_ble_eq_true rfl, Nat.le_of_ble_eq_true rfl⟩ (Nat.le_of_ble_eq_true rfl) d_X_count_2 (fun v H41 locs hp hL => ?_)
  obtain ⟨rfl, rfl⟩ := hp
  refine va_forget hL ?_
  have hL : hq_L s.heap.size [] := hq_L0
  refine W.eq (g2 := F0 m 5 ls [.ref (x + 4 + 10 * j)]) rfl ?_
  refine lv_astore_n C.1 C.2.1 d_X_count_5 rfl hl (by decide) rfl (lv' := [(3, .ref (x + 4 + 10 * j)), (0, .ref (x)), (1, .int (nI j)), (2, .int (a))]) (fun ls hl => ?_)
  refine lv_iload_n C.1 C.2.1 d_X_count_6 rfl (lv_at hl 3 rfl) ?_
  refine lv_tableOut (tgt := 71) C.1 C.2.1 d_X_count_7 hb (by decide) ?_
  exact hq_throw C htr hE ex_wA ex_goodA ex_badA (by decide +kernel) (is := 112) (tx := "no such number of a node") (by decide +kernel) (hml.trans hl.1.symm) d_X_count_71 d_X_count_74 d_X_count_75 d_X_count_77 d_X_count_80 hout hlk (Nat.le_of_ble_eq_true rfl) (Nat.le_of_ble_eq_true rfl) (Nat.le_of_ble_eq_true rfl) (Nat.le_of_ble_eq_true rfl) (Nat.le_of_ble_eq_true rfl) (Nat.le_of_ble_eq_true rfl)
end
section
/-! Where the public methods answer. hq_S: nothing outside the bus changes. -/
set_option maxHeartbeats 4000000 in
set_option maxRecDepth 100000 in
theorem c_add (l : Launch) (D : va_G) (cI cZ cN cJ : ClassId) (lo : Nat) (b k : Nat) (f : Int32) (r : Nat → Int32) (hlo : lo ≤ b) (hk : k < 4) : hq_M l y_Fr_add b_Fr_add 2 none TB { frames := 1, cells := 0, slots := 0, locals := 30 } lo D vwCl (TY cI cZ cN cJ) [.ref (b), .int (f)] (fun U => va_at D vwCl (b, .inr (2, [.ref (b + 1), .int (nI k)])) U.heap ∧ va_at D vwCl (b + 1, .inl (cI, 4, .inl r)) U.heap) (fun H v H' => v = none ∧ va_at D vwCl (b, .inr (2, [.ref (b + 1), .int (nI (k + 1))])) H' ∧ hq_S b 2 H H') := by
  refine hq_ofW (by decide) (Nat.le_of_ble_eq_true rfl) ?_
  intro p e s m below meth c ls C hml hret hlk hnm hl hP
  obtain ⟨k0, k1⟩ := hP
  have hL : hq_L lo [] := hq_L0
  have hl : lv_has ls 2 [(0, .ref (b)), (1, .int (f))] := hl
  refine lv_aload_n C.1 C.2.1 d_Fr_add_0 rfl (lv_at hl 0 rfl) ?_
  refine hq_callV (lo := lo) (As := []) (rest := []) C tb_good hml Y_Fr_19 (c_isFull l D cI cZ cN cJ lo b (b + 1) (nI k)) k0 rfl (fun _ _ _ _ h => h) (fun U hU hW => by show va_at D vwCl (b, .inr (2, [.ref (b + 1), .int (nI k)])) U.heap; rw [hU]; exact k0) hL hl.1 rfl rfl ⟨⟨Nat.le_of_ble_eq_true rfl, Nat.le_of_ble_eq_true rfl⟩, Nat.le_of_ble_eq_true rfl, Nat.le_of_ble_eq_true rfl⟩ (Nat.le_of_ble_eq_true rfl) d_Fr_add_1 (fun v H41 locs hp hL => ?_)
  obtain ⟨rfl, rfl⟩ := hp
  refine W.eq (g2 := F0 m 4 ls [.int (fl (nI k))]) rfl ?_
  have hfl : fl (nI k) = 0 := by unfold fl; rw [if_pos (show nI k < 4 from nI_lt hk (by decide))]
  refine lv_if_ne (tgt := 27) C.1 C.2.1 d_Fr_add_4 (by decide) (fun hn => absurd hn (fun h9 => h9 hfl)) (fun _ => ?_)
  refine lv_aload_n C.1 C.2.1 d_Fr_add_7 rfl (lv_at hl 0 rfl) ?_
  refine hq_get (v := .ref (b + 1)) C f_Fr_9 k0 rfl d_Fr_add_8 ?_
  refine lv_aload_n C.1 C.2.1 d_Fr_add_11 rfl (lv_at hl 0 rfl) ?_
  refine hq_get (v := .int (nI k)) C f_Fr_15 k0 rfl d_Fr_add_12 ?_
  refine lv_iload_n C.1 C.2.1 d_Fr_add_15 rfl (lv_at hl 1 rfl) ?_
  refine hq_iast (lo := lo) C 0 rfl k1 (vp_in_nI hk (by decide)) hL (by omega) d_Fr_add_16 (fun H1 locs u1 hL => ?_)
  have k42 : va_at D vwCl (b + 1, .inl (cI, 4, .inl (upd r (nI k).toNatClampNeg f))) H1 := u1.2.2
  refine lv_aload_n C.1 C.2.1 d_Fr_add_17 rfl (lv_at hl 0 rfl) ?_
  refine lv_dup C.1 C.2.1 d_Fr_add_18 rfl ?_
  have k43 := hq_au k0 u1 (by omega)
  refine hq_get (v := .int (nI k)) C f_Fr_15 k43 rfl d_Fr_add_19 ?_
  refine lv_iconst (v := 1) C.1 C.2.1 d_Fr_add_22 (by decide) ?_
  refine lv_iadd C.1 C.2.1 d_Fr_add_23 ?_
  rw [nI_1 k]
  refine hq_put (lo := lo) C f_Fr_15 k43 rfl rfl (Nat.le_of_ble_eq_true rfl) hL (by omega) d_Fr_add_24 (fun H44 locs u45 hL => ?_)
  have k46 : va_at D vwCl (b, .inr (2, [.ref (b + 1), .int (nI (k + 1))])) H44 := u45.2.2
  exact hq_vret C hret hlk (Nat.le_of_ble_eq_true rfl) (Nat.le_of_ble_eq_true rfl) hL ⟨rfl, k46, hq_Sput (hq_Sput hq_S0 u1 (by omega) (by omega)) u45 (by omega) (by omega)⟩ d_Fr_add_27
set_option maxHeartbeats 4000000 in
set_option maxRecDepth 100000 in
theorem c_mark (l : Launch) (D : va_G) (cI cZ cN cJ : ClassId) (lo : Nat) (b t i : Nat) (r : Nat → Int32) (hlo : lo ≤ b) (ht : t < 201) (hi : i ≤ 200) : hq_M l y_Di_mark b_Di_mark 2 none TB { frames := 1, cells := 0, slots := 0, locals := 30 } lo D vwCl (TY cI cZ cN cJ) [.ref (b), .int (nI i)] (fun U => va_at D vwCl (b, .inr (1, [.ref (b + 1), .int (nI t)])) U.heap ∧ va_at D vwCl (b + 1, .inl (cZ, 201, .inl r)) U.heap) (fun H v H' => v = none ∧ hq_S b 2 H H') := by
  refine hq_ofW (by decide) (Nat.le_of_ble_eq_true rfl) ?_
  intro p e s m below meth c ls C hml hret hlk hnm hl hP
  obtain ⟨k0, k1⟩ := hP
  have hL : hq_L lo [] := hq_L0
  have hl : lv_has ls 2 [(0, .ref (b)), (1, .int (nI i))] := hl
  refine lv_aload_n C.1 C.2.1 d_Di_mark_0 rfl (lv_at hl 0 rfl) ?_
  refine hq_get (v := .ref (b + 1)) C f_Di_9 k0 rfl d_Di_mark_1 ?_
  refine lv_aload_n C.1 C.2.1 d_Di_mark_4 rfl (lv_at hl 0 rfl) ?_
  refine hq_get (v := .int (nI t)) C f_Di_15 k0 rfl d_Di_mark_5 ?_
  refine lv_iload_n C.1 C.2.1 d_Di_mark_8 rfl (lv_at hl 1 rfl) ?_
  refine lv_iadd C.1 C.2.1 d_Di_mark_9 ?_
  rw [nI_add t i]
  refine lv_aload_n C.1 C.2.1 d_Di_mark_10 rfl (lv_at hl 0 rfl) ?_
  refine hq_get (v := .ref (b + 1)) C f_Di_9 k0 rfl d_Di_mark_11 ?_
  refine hq_alen C 1 rfl k1 (v := nI 201) rfl d_Di_mark_14 ?_
  refine hq_callS (lo := lo) (As := [.int (nI (t + i)), .int (nI 201)]) (rest := [.ref (b + 1)]) C tb_good hml Y_Di_19 (c_floorMod l D cI cZ cN cJ lo (t + i) 201 (by omega) (by decide) (by decide)) (fun _ _ _ _ h => h) (fun U hU hW => trivial) hL hl.1 rfl rfl ⟨⟨Nat.le_of_ble_eq_true rfl, Nat.le_of_ble_eq_true rfl⟩, Nat.le_of_ble_eq_true rfl, Nat.le_of_ble_eq_true rfl⟩ (Nat.le_of_ble_eq_true rfl) d_Di_mark_15 (fun v H41 locs hp hL => ?_)
  obtain ⟨rfl, rfl⟩ := hp
  refine W.eq (g2 := F0 m 18 ls [.int (nI ((t + i) % 201)), .ref (b + 1)]) rfl ?_
  refine lv_iconst (v := 1) C.1 C.2.1 d_Di_mark_18 (by decide) ?_
  refine hq_zast (lo := lo) C 1 rfl k1 (vp_in_nI (Nat.mod_lt _ (by decide)) (by decide)) hL (by omega) d_Di_mark_19 (fun H1 locs u1 hL => ?_)
  exact hq_vret C hret hlk (Nat.le_of_ble_eq_true rfl) (Nat.le_of_ble_eq_true rfl) hL ⟨rfl, hq_Sput hq_S0 u1 (by omega) (by omega)⟩ d_Di_mark_20
set_option maxHeartbeats 4000000 in
set_option maxRecDepth 100000 in
theorem c_state (l : Launch) (D : va_G) (cI cZ cN cJ : ClassId) (lo : Nat) (x n : Nat) (N : Nat → Nat → Int32) (R : Nat → Nat → Nat → Int32) (lev tot : Nat → Int32) (j : Nat) (hn : n ≤ 4) (hj : j < n) : hq_M l y_X_state b_X_state 2 (some .int) TB { frames := 2, cells := 0, slots := 0, locals := 60 } lo D vwCl (TY cI cZ cN cJ) [.ref (x), .int (nI j)] (fun U => busP D cI cZ cN x n N R lev tot U.heap) (fun H v H' => v = some (.int (N j 0)) ∧ H' = H) := by
  refine hq_ofW (by decide) (Nat.le_of_ble_eq_true rfl) ?_
  intro p e s m below meth c ls C hml hret hlk hnm hl hP
  obtain ⟨kB, kN⟩ := hP
  have hL : hq_L lo [] := hq_L0
  have hl : lv_has ls 2 [(0, .ref (x)), (1, .int (nI j))] := hl
  have k0 : va_at D vwCl (x, .inr (5, [.ref (x + 3), .ref (x + 1), .ref (x + 2)])) s.heap := kB 0 (by decide)
  refine lv_aload_n C.1 C.2.1 d_X_state_0 rfl (lv_at hl 0 rfl) ?_
  refine lv_iload_n C.1 C.2.1 d_X_state_1 rfl (lv_at hl 1 rfl) ?_
  refine hq_callV (lo := lo) (As := [.int (nI j)]) (rest := []) C tb_good hml Y_X_32 (c_nodeOf l D cI cZ cN cJ lo x n j N R lev tot hn hj) k0 rfl (fun _ _ _ _ h => h) (fun U hU hW => by show busP D cI cZ cN x n N R lev tot U.heap; rw [hU]; exact ⟨kB, kN⟩) hL hl.1 rfl rfl ⟨⟨Nat.le_of_ble_eq_true rfl, Nat.le_of_ble_eq_true rfl⟩, Nat.le_of_ble_eq_true rfl, Nat.le_of_ble_eq_true rfl⟩ (Nat.le_of_ble_eq_true rfl) d_X_state_2 (fun v H41 locs hp hL => ?_)
  obtain ⟨rfl, rfl⟩ := hp
  refine W.eq (g2 := F0 m 5 ls [.ref (x + 4 + 10 * j)]) rfl ?_
  have m0 : va_at D vwCl (x + 4 + 10 * j, .inr (3, [.ref (x + 4 + 10 * j + 1), .ref (x + 4 + 10 * j + 3), .ref (x + 4 + 10 * j + 5), .ref (x + 4 + 10 * j + 7), .ref (x + 4 + 10 * j + 9), .int (N j 0), .int (N j 1), .int (N j 2), .int (N j 3), .int (N j 4), .int (N j 5), .int (N j 6), .int (N j 7), .int (N j 8), .int (N j 9), .int (N j 10), .int (N j 11), .int (N j 12)])) s.heap := kN j hj 0 (by decide)
  refine hq_get (v := .int (N j 0)) C f_X_47 m0 rfl d_X_state_5 ?_
  exact hq_iret C hret hlk (Nat.le_of_ble_eq_true rfl) (Nat.le_of_ble_eq_true rfl) hL ⟨rfl, rfl⟩ d_X_state_8
set_option maxHeartbeats 4000000 in
set_option maxRecDepth 100000 in
theorem c_count_0 (l : Launch) (D : va_G) (cI cZ cN cJ : ClassId) (lo : Nat) (x n : Nat) (N : Nat → Nat → Int32) (R : Nat → Nat → Nat → Int32) (lev tot : Nat → Int32) (j : Nat) (hn : n ≤ 4) (hj : j < n) : hq_M l y_X_count b_X_count 4 (some .int) TB { frames := 2, cells := 0, slots := 0, locals := 60 } lo D vwCl (TY cI cZ cN cJ) [.ref (x), .int (nI j), .int (0)] (fun U => busP D cI cZ cN x n N R lev tot U.heap) (fun H v H' => v = some (.int (N j 2)) ∧ H' = H) := by
  refine hq_ofW (by decide) (Nat.le_of_ble_eq_true rfl) ?_
  intro p e s m below meth c ls C hml hret hlk hnm hl hP
  obtain ⟨kB, kN⟩ := hP
  have hL : hq_L lo [] := hq_L0
  have hl : lv_has ls 4 [(0, .ref (x)), (1, .int (nI j)), (2, .int (0))] := hl
  have k0 : va_at D vwCl (x, .inr (5, [.ref (x + 3), .ref (x + 1), .ref (x + 2)])) s.heap := kB 0 (by decide)
  refine lv_aload_n C.1 C.2.1 d_X_count_0 rfl (lv_at hl 0 rfl) ?_
  refine lv_iload_n C.1 C.2.1 d_X_count_1 rfl (lv_at hl 1 rfl) ?_
  refine hq_callV (lo := lo) (As := [.int (nI j)]) (rest := []) C tb_good hml Y_X_32 (c_nodeOf l D cI cZ cN cJ lo x n j N R lev tot hn hj) k0 rfl (fun _ _ _ _ h => h) (fun U hU hW => by show busP D cI cZ cN x n N R lev tot U.heap; rw [hU]; exact ⟨kB, kN⟩) hL hl.1 rfl rfl ⟨⟨Nat.le_of_ble_eq_true rfl, Nat.le_of_ble_eq_true rfl⟩, Nat.le_of_ble_eq_true rfl, Nat.le_of_ble_eq_true rfl⟩ (Nat.le_of_ble_eq_true rfl) d_X_count_2 (fun v H41 locs hp hL => ?_)
  obtain ⟨rfl, rfl⟩ := hp
  refine W.eq (g2 := F0 m 5 ls [.ref (x + 4 + 10 * j)]) rfl ?_
  have m0 : va_at D vwCl (x + 4 + 10 * j, .inr (3, [.ref (x + 4 + 10 * j + 1), .ref (x + 4 + 10 * j + 3), .ref (x + 4 + 10 * j + 5), .ref (x + 4 + 10 * j + 7), .ref (x + 4 + 10 * j + 9), .int (N j 0), .int (N j 1), .int (N j 2), .int (N j 3), .int (N j 4), .int (N j 5), .int (N j 6), .int (N j 7), .int (N j 8), .int (N j 9), .int (N j 10), .int (N j 11), .int (N j 12)])) s.heap := kN j hj 0 (by decide)
  have m1 : va_at D vwCl (x + 4 + 10 * j + 1, .inr (2, [.ref (x + 4 + 10 * j + 2), .int (N j 13)])) s.heap := kN j hj 1 (by decide)
  have m3 : va_at D vwCl (x + 4 + 10 * j + 3, .inr (2, [.ref (x + 4 + 10 * j + 4), .int (N j 14)])) s.heap := kN j hj 3 (by decide)
  refine lv_astore_n C.1 C.2.1 d_X_count_5 rfl hl (by decide) rfl (lv' := [(3, .ref (x + 4 + 10 * j)), (0, .ref (x)), (1, .int (nI j)), (2, .int (0))]) (fun ls hl => ?_)
  refine lv_iload_n C.1 C.2.1 d_X_count_6 rfl (lv_at hl 3 rfl) ?_
  refine lv_tableIn (off := 33) (tgt := 40) C.1 C.2.1 d_X_count_7 (by decide) (by decide) (by decide) (by decide) ?_
  refine lv_aload_n C.1 C.2.1 d_X_count_40 rfl (lv_at hl 0 rfl) ?_
  refine hq_get (v := .int (N j 2)) C f_X_100 m0 rfl d_X_count_41 ?_
  exact hq_iret C hret hlk (Nat.le_of_ble_eq_true rfl) (Nat.le_of_ble_eq_true rfl) hL ⟨rfl, rfl⟩ d_X_count_44
set_option maxHeartbeats 4000000 in
set_option maxRecDepth 100000 in
theorem c_count_1 (l : Launch) (D : va_G) (cI cZ cN cJ : ClassId) (lo : Nat) (x n : Nat) (N : Nat → Nat → Int32) (R : Nat → Nat → Nat → Int32) (lev tot : Nat → Int32) (j : Nat) (hn : n ≤ 4) (hj : j < n) : hq_M l y_X_count b_X_count 4 (some .int) TB { frames := 2, cells := 0, slots := 0, locals := 60 } lo D vwCl (TY cI cZ cN cJ) [.ref (x), .int (nI j), .int (1)] (fun U => busP D cI cZ cN x n N R lev tot U.heap) (fun H v H' => v = some (.int (N j 3)) ∧ H' = H) := by
  refine hq_ofW (by decide) (Nat.le_of_ble_eq_true rfl) ?_
  intro p e s m below meth c ls C hml hret hlk hnm hl hP
  obtain ⟨kB, kN⟩ := hP
  have hL : hq_L lo [] := hq_L0
  have hl : lv_has ls 4 [(0, .ref (x)), (1, .int (nI j)), (2, .int (1))] := hl
  have k0 : va_at D vwCl (x, .inr (5, [.ref (x + 3), .ref (x + 1), .ref (x + 2)])) s.heap := kB 0 (by decide)
  refine lv_aload_n C.1 C.2.1 d_X_count_0 rfl (lv_at hl 0 rfl) ?_
  refine lv_iload_n C.1 C.2.1 d_X_count_1 rfl (lv_at hl 1 rfl) ?_
  refine hq_callV (lo := lo) (As := [.int (nI j)]) (rest := []) C tb_good hml Y_X_32 (c_nodeOf l D cI cZ cN cJ lo x n j N R lev tot hn hj) k0 rfl (fun _ _ _ _ h => h) (fun U hU hW => by show busP D cI cZ cN x n N R lev tot U.heap; rw [hU]; exact ⟨kB, kN⟩) hL hl.1 rfl rfl ⟨⟨Nat.le_of_ble_eq_true rfl, Nat.le_of_ble_eq_true rfl⟩, Nat.le_of_ble_eq_true rfl, Nat.le_of_ble_eq_true rfl⟩ (Nat.le_of_ble_eq_true rfl) d_X_count_2 (fun v H41 locs hp hL => ?_)
  obtain ⟨rfl, rfl⟩ := hp
  refine W.eq (g2 := F0 m 5 ls [.ref (x + 4 + 10 * j)]) rfl ?_
  have m0 : va_at D vwCl (x + 4 + 10 * j, .inr (3, [.ref (x + 4 + 10 * j + 1), .ref (x + 4 + 10 * j + 3), .ref (x + 4 + 10 * j + 5), .ref (x + 4 + 10 * j + 7), .ref (x + 4 + 10 * j + 9), .int (N j 0), .int (N j 1), .int (N j 2), .int (N j 3), .int (N j 4), .int (N j 5), .int (N j 6), .int (N j 7), .int (N j 8), .int (N j 9), .int (N j 10), .int (N j 11), .int (N j 12)])) s.heap := kN j hj 0 (by decide)
  have m1 : va_at D vwCl (x + 4 + 10 * j + 1, .inr (2, [.ref (x + 4 + 10 * j + 2), .int (N j 13)])) s.heap := kN j hj 1 (by decide)
  have m3 : va_at D vwCl (x + 4 + 10 * j + 3, .inr (2, [.ref (x + 4 + 10 * j + 4), .int (N j 14)])) s.heap := kN j hj 3 (by decide)
  refine lv_astore_n C.1 C.2.1 d_X_count_5 rfl hl (by decide) rfl (lv' := [(3, .ref (x + 4 + 10 * j)), (0, .ref (x)), (1, .int (nI j)), (2, .int (1))]) (fun ls hl => ?_)
  refine lv_iload_n C.1 C.2.1 d_X_count_6 rfl (lv_at hl 3 rfl) ?_
  refine lv_tableIn (off := 38) (tgt := 45) C.1 C.2.1 d_X_count_7 (by decide) (by decide) (by decide) (by decide) ?_
  refine lv_aload_n C.1 C.2.1 d_X_count_45 rfl (lv_at hl 0 rfl) ?_
  refine hq_get (v := .int (N j 3)) C f_X_103 m0 rfl d_X_count_46 ?_
  exact hq_iret C hret hlk (Nat.le_of_ble_eq_true rfl) (Nat.le_of_ble_eq_true rfl) hL ⟨rfl, rfl⟩ d_X_count_49
set_option maxHeartbeats 4000000 in
set_option maxRecDepth 100000 in
theorem c_count_2 (l : Launch) (D : va_G) (cI cZ cN cJ : ClassId) (lo : Nat) (x n : Nat) (N : Nat → Nat → Int32) (R : Nat → Nat → Nat → Int32) (lev tot : Nat → Int32) (j : Nat) (hn : n ≤ 4) (hj : j < n) : hq_M l y_X_count b_X_count 4 (some .int) TB { frames := 2, cells := 0, slots := 0, locals := 60 } lo D vwCl (TY cI cZ cN cJ) [.ref (x), .int (nI j), .int (2)] (fun U => busP D cI cZ cN x n N R lev tot U.heap) (fun H v H' => v = some (.int (N j 13)) ∧ H' = H) := by
  refine hq_ofW (by decide) (Nat.le_of_ble_eq_true rfl) ?_
  intro p e s m below meth c ls C hml hret hlk hnm hl hP
  obtain ⟨kB, kN⟩ := hP
  have hL : hq_L lo [] := hq_L0
  have hl : lv_has ls 4 [(0, .ref (x)), (1, .int (nI j)), (2, .int (2))] := hl
  have k0 : va_at D vwCl (x, .inr (5, [.ref (x + 3), .ref (x + 1), .ref (x + 2)])) s.heap := kB 0 (by decide)
  refine lv_aload_n C.1 C.2.1 d_X_count_0 rfl (lv_at hl 0 rfl) ?_
  refine lv_iload_n C.1 C.2.1 d_X_count_1 rfl (lv_at hl 1 rfl) ?_
  refine hq_callV (lo := lo) (As := [.int (nI j)]) (rest := []) C tb_good hml Y_X_32 (c_nodeOf l D cI cZ cN cJ lo x n j N R lev tot hn hj) k0 rfl (fun _ _ _ _ h => h) (fun U hU hW => by show busP D cI cZ cN x n N R lev tot U.heap; rw [hU]; exact ⟨kB, kN⟩) hL hl.1 rfl rfl ⟨⟨Nat.le_of_ble_eq_true rfl, Nat.le_of_ble_eq_true rfl⟩, Nat.le_of_ble_eq_true rfl, Nat.le_of_ble_eq_true rfl⟩ (Nat.le_of_ble_eq_true rfl) d_X_count_2 (fun v H41 locs hp hL => ?_)
  obtain ⟨rfl, rfl⟩ := hp
  refine W.eq (g2 := F0 m 5 ls [.ref (x + 4 + 10 * j)]) rfl ?_
  have m0 : va_at D vwCl (x + 4 + 10 * j, .inr (3, [.ref (x + 4 + 10 * j + 1), .ref (x + 4 + 10 * j + 3), .ref (x + 4 + 10 * j + 5), .ref (x + 4 + 10 * j + 7), .ref (x + 4 + 10 * j + 9), .int (N j 0), .int (N j 1), .int (N j 2), .int (N j 3), .int (N j 4), .int (N j 5), .int (N j 6), .int (N j 7), .int (N j 8), .int (N j 9), .int (N j 10), .int (N j 11), .int (N j 12)])) s.heap := kN j hj 0 (by decide)
  have m1 : va_at D vwCl (x + 4 + 10 * j + 1, .inr (2, [.ref (x + 4 + 10 * j + 2), .int (N j 13)])) s.heap := kN j hj 1 (by decide)
  have m3 : va_at D vwCl (x + 4 + 10 * j + 3, .inr (2, [.ref (x + 4 + 10 * j + 4), .int (N j 14)])) s.heap := kN j hj 3 (by decide)
  refine lv_astore_n C.1 C.2.1 d_X_count_5 rfl hl (by decide) rfl (lv' := [(3, .ref (x + 4 + 10 * j)), (0, .ref (x)), (1, .int (nI j)), (2, .int (2))]) (fun ls hl => ?_)
  refine lv_iload_n C.1 C.2.1 d_X_count_6 rfl (lv_at hl 3 rfl) ?_
  refine lv_tableIn (off := 43) (tgt := 50) C.1 C.2.1 d_X_count_7 (by decide) (by decide) (by decide) (by decide) ?_
  refine lv_aload_n C.1 C.2.1 d_X_count_50 rfl (lv_at hl 0 rfl) ?_
  refine hq_get (v := .ref (x + 4 + 10 * j + 1)) C f_X_51 m0 rfl d_X_count_51 ?_
  refine hq_get (v := .int (N j 13)) C f_X_74 m1 rfl d_X_count_54 ?_
  exact hq_iret C hret hlk (Nat.le_of_ble_eq_true rfl) (Nat.le_of_ble_eq_true rfl) hL ⟨rfl, rfl⟩ d_X_count_57
set_option maxHeartbeats 4000000 in
set_option maxRecDepth 100000 in
theorem c_count_3 (l : Launch) (D : va_G) (cI cZ cN cJ : ClassId) (lo : Nat) (x n : Nat) (N : Nat → Nat → Int32) (R : Nat → Nat → Nat → Int32) (lev tot : Nat → Int32) (j : Nat) (hn : n ≤ 4) (hj : j < n) : hq_M l y_X_count b_X_count 4 (some .int) TB { frames := 2, cells := 0, slots := 0, locals := 60 } lo D vwCl (TY cI cZ cN cJ) [.ref (x), .int (nI j), .int (3)] (fun U => busP D cI cZ cN x n N R lev tot U.heap) (fun H v H' => v = some (.int (N j 14)) ∧ H' = H) := by
  refine hq_ofW (by decide) (Nat.le_of_ble_eq_true rfl) ?_
  intro p e s m below meth c ls C hml hret hlk hnm hl hP
  obtain ⟨kB, kN⟩ := hP
  have hL : hq_L lo [] := hq_L0
  have hl : lv_has ls 4 [(0, .ref (x)), (1, .int (nI j)), (2, .int (3))] := hl
  have k0 : va_at D vwCl (x, .inr (5, [.ref (x + 3), .ref (x + 1), .ref (x + 2)])) s.heap := kB 0 (by decide)
  refine lv_aload_n C.1 C.2.1 d_X_count_0 rfl (lv_at hl 0 rfl) ?_
  refine lv_iload_n C.1 C.2.1 d_X_count_1 rfl (lv_at hl 1 rfl) ?_
  refine hq_callV (lo := lo) (As := [.int (nI j)]) (rest := []) C tb_good hml Y_X_32 (c_nodeOf l D cI cZ cN cJ lo x n j N R lev tot hn hj) k0 rfl (fun _ _ _ _ h => h) (fun U hU hW => by show busP D cI cZ cN x n N R lev tot U.heap; rw [hU]; exact ⟨kB, kN⟩) hL hl.1 rfl rfl ⟨⟨Nat.le_of_ble_eq_true rfl, Nat.le_of_ble_eq_true rfl⟩, Nat.le_of_ble_eq_true rfl, Nat.le_of_ble_eq_true rfl⟩ (Nat.le_of_ble_eq_true rfl) d_X_count_2 (fun v H41 locs hp hL => ?_)
  obtain ⟨rfl, rfl⟩ := hp
  refine W.eq (g2 := F0 m 5 ls [.ref (x + 4 + 10 * j)]) rfl ?_
  have m0 : va_at D vwCl (x + 4 + 10 * j, .inr (3, [.ref (x + 4 + 10 * j + 1), .ref (x + 4 + 10 * j + 3), .ref (x + 4 + 10 * j + 5), .ref (x + 4 + 10 * j + 7), .ref (x + 4 + 10 * j + 9), .int (N j 0), .int (N j 1), .int (N j 2), .int (N j 3), .int (N j 4), .int (N j 5), .int (N j 6), .int (N j 7), .int (N j 8), .int (N j 9), .int (N j 10), .int (N j 11), .int (N j 12)])) s.heap := kN j hj 0 (by decide)
  have m1 : va_at D vwCl (x + 4 + 10 * j + 1, .inr (2, [.ref (x + 4 + 10 * j + 2), .int (N j 13)])) s.heap := kN j hj 1 (by decide)
  have m3 : va_at D vwCl (x + 4 + 10 * j + 3, .inr (2, [.ref (x + 4 + 10 * j + 4), .int (N j 14)])) s.heap := kN j hj 3 (by decide)
  refine lv_astore_n C.1 C.2.1 d_X_count_5 rfl hl (by decide) rfl (lv' := [(3, .ref (x + 4 + 10 * j)), (0, .ref (x)), (1, .int (nI j)), (2, .int (3))]) (fun ls hl => ?_)
  refine lv_iload_n C.1 C.2.1 d_X_count_6 rfl (lv_at hl 3 rfl) ?_
  refine lv_tableIn (off := 51) (tgt := 58) C.1 C.2.1 d_X_count_7 (by decide) (by decide) (by decide) (by decide) ?_
  refine lv_aload_n C.1 C.2.1 d_X_count_58 rfl (lv_at hl 0 rfl) ?_
  refine hq_get (v := .ref (x + 4 + 10 * j + 3)) C f_X_106 m0 rfl d_X_count_59 ?_
  refine hq_get (v := .int (N j 14)) C f_X_74 m3 rfl d_X_count_62 ?_
  exact hq_iret C hret hlk (Nat.le_of_ble_eq_true rfl) (Nat.le_of_ble_eq_true rfl) hL ⟨rfl, rfl⟩ d_X_count_65
set_option maxHeartbeats 4000000 in
set_option maxRecDepth 100000 in
theorem c_count_4 (l : Launch) (D : va_G) (cI cZ cN cJ : ClassId) (lo : Nat) (x n : Nat) (N : Nat → Nat → Int32) (R : Nat → Nat → Nat → Int32) (lev tot : Nat → Int32) (j : Nat) (hn : n ≤ 4) (hj : j < n) : hq_M l y_X_count b_X_count 4 (some .int) TB { frames := 2, cells := 0, slots := 0, locals := 60 } lo D vwCl (TY cI cZ cN cJ) [.ref (x), .int (nI j), .int (4)] (fun U => busP D cI cZ cN x n N R lev tot U.heap) (fun H v H' => v = some (.int (N j 4)) ∧ H' = H) := by
  refine hq_ofW (by decide) (Nat.le_of_ble_eq_true rfl) ?_
  intro p e s m below meth c ls C hml hret hlk hnm hl hP
  obtain ⟨kB, kN⟩ := hP
  have hL : hq_L lo [] := hq_L0
  have hl : lv_has ls 4 [(0, .ref (x)), (1, .int (nI j)), (2, .int (4))] := hl
  have k0 : va_at D vwCl (x, .inr (5, [.ref (x + 3), .ref (x + 1), .ref (x + 2)])) s.heap := kB 0 (by decide)
  refine lv_aload_n C.1 C.2.1 d_X_count_0 rfl (lv_at hl 0 rfl) ?_
  refine lv_iload_n C.1 C.2.1 d_X_count_1 rfl (lv_at hl 1 rfl) ?_
  refine hq_callV (lo := lo) (As := [.int (nI j)]) (rest := []) C tb_good hml Y_X_32 (c_nodeOf l D cI cZ cN cJ lo x n j N R lev tot hn hj) k0 rfl (fun _ _ _ _ h => h) (fun U hU hW => by show busP D cI cZ cN x n N R lev tot U.heap; rw [hU]; exact ⟨kB, kN⟩) hL hl.1 rfl rfl ⟨⟨Nat.le_of_ble_eq_true rfl, Nat.le_of_ble_eq_true rfl⟩, Nat.le_of_ble_eq_true rfl, Nat.le_of_ble_eq_true rfl⟩ (Nat.le_of_ble_eq_true rfl) d_X_count_2 (fun v H41 locs hp hL => ?_)
  obtain ⟨rfl, rfl⟩ := hp
  refine W.eq (g2 := F0 m 5 ls [.ref (x + 4 + 10 * j)]) rfl ?_
  have m0 : va_at D vwCl (x + 4 + 10 * j, .inr (3, [.ref (x + 4 + 10 * j + 1), .ref (x + 4 + 10 * j + 3), .ref (x + 4 + 10 * j + 5), .ref (x + 4 + 10 * j + 7), .ref (x + 4 + 10 * j + 9), .int (N j 0), .int (N j 1), .int (N j 2), .int (N j 3), .int (N j 4), .int (N j 5), .int (N j 6), .int (N j 7), .int (N j 8), .int (N j 9), .int (N j 10), .int (N j 11), .int (N j 12)])) s.heap := kN j hj 0 (by decide)
  have m1 : va_at D vwCl (x + 4 + 10 * j + 1, .inr (2, [.ref (x + 4 + 10 * j + 2), .int (N j 13)])) s.heap := kN j hj 1 (by decide)
  have m3 : va_at D vwCl (x + 4 + 10 * j + 3, .inr (2, [.ref (x + 4 + 10 * j + 4), .int (N j 14)])) s.heap := kN j hj 3 (by decide)
  refine lv_astore_n C.1 C.2.1 d_X_count_5 rfl hl (by decide) rfl (lv' := [(3, .ref (x + 4 + 10 * j)), (0, .ref (x)), (1, .int (nI j)), (2, .int (4))]) (fun ls hl => ?_)
  refine lv_iload_n C.1 C.2.1 d_X_count_6 rfl (lv_at hl 3 rfl) ?_
  refine lv_tableIn (off := 59) (tgt := 66) C.1 C.2.1 d_X_count_7 (by decide) (by decide) (by decide) (by decide) ?_
  refine lv_aload_n C.1 C.2.1 d_X_count_66 rfl (lv_at hl 0 rfl) ?_
  refine hq_get (v := .int (N j 4)) C f_X_109 m0 rfl d_X_count_67 ?_
  exact hq_iret C hret hlk (Nat.le_of_ble_eq_true rfl) (Nat.le_of_ble_eq_true rfl) hL ⟨rfl, rfl⟩ d_X_count_70
set_option maxHeartbeats 4000000 in
set_option maxRecDepth 100000 in
theorem c_total (l : Launch) (D : va_G) (cI cZ cN cJ : ClassId) (lo : Nat) (x n : Nat) (N : Nat → Nat → Int32) (R : Nat → Nat → Nat → Int32) (lev tot : Nat → Int32) (k : Nat) (hk : k < 8) : hq_M l y_X_total b_X_total 2 (some .int) TB { frames := 2, cells := 0, slots := 0, locals := 60 } lo D vwCl (TY cI cZ cN cJ) [.ref (x), .int (nI k)] (fun U => busP D cI cZ cN x n N R lev tot U.heap) (fun H v H' => v = some (.int (tot k)) ∧ H' = H) := by
  refine hq_ofW (by decide) (Nat.le_of_ble_eq_true rfl) ?_
  intro p e s m below meth c ls C hml hret hlk hnm hl hP
  obtain ⟨kB, kN⟩ := hP
  have hL : hq_L lo [] := hq_L0
  have hl : lv_has ls 2 [(0, .ref (x)), (1, .int (nI k))] := hl
  have k0 : va_at D vwCl (x, .inr (5, [.ref (x + 3), .ref (x + 1), .ref (x + 2)])) s.heap := kB 0 (by decide)
  have k2 : va_at D vwCl (x + 2, .inl (cI, 8, .inl tot)) s.heap := kB 2 (by decide)
  refine lv_iload_n C.1 C.2.1 d_X_total_0 rfl (lv_at hl 1 rfl) ?_
  refine lv_if_lt (tgt := 10) C.1 C.2.1 d_X_total_1 (by decide) (fun hn => absurd hn (nI_pos (by omega))) (fun _ => ?_)
  refine lv_iload_n C.1 C.2.1 d_X_total_4 rfl (lv_at hl 1 rfl) ?_
  refine lv_bipush (v := 8) C.1 C.2.1 d_X_total_5 (by decide) ?_
  refine lv_icmp_lt (tgt := 20) C.1 C.2.1 d_X_total_7 (by decide) (fun _ => ?_) (fun hn => absurd (show nI k < 8 from nI_lt hk (by decide)) hn)
  refine lv_aload_n C.1 C.2.1 d_X_total_20 rfl (lv_at hl 0 rfl) ?_
  refine hq_get (v := .ref (x + 2)) C f_X_13 k0 rfl d_X_total_21 ?_
  refine lv_iload_n C.1 C.2.1 d_X_total_24 rfl (lv_at hl 1 rfl) ?_
  refine hq_iald C 0 rfl k2 (vp_in_nI hk (by decide)) d_X_total_25 ?_
  rw [nI_clamp (show k < 2 ^ 31 by omega)]
  exact hq_iret C hret hlk (Nat.le_of_ble_eq_true rfl) (Nat.le_of_ble_eq_true rfl) hL ⟨rfl, rfl⟩ d_X_total_26
set_option maxHeartbeats 4000000 in
set_option maxRecDepth 100000 in
theorem c_level0 (l : Launch) (D : va_G) (cI cZ cN cJ : ClassId) (lo : Nat) (x n : Nat) (N : Nat → Nat → Int32) (R : Nat → Nat → Nat → Int32) (lev tot : Nat → Int32) (a : Int32) (h0 : tot 0 = 0) : hq_M l y_X_level b_X_level 2 (some .int) TB { frames := 2, cells := 0, slots := 0, locals := 60 } lo D vwCl (TY cI cZ cN cJ) [.ref (x), .int (a)] (fun U => busP D cI cZ cN x n N R lev tot U.heap) (fun H v H' => v = some (.int (-1)) ∧ H' = H) := by
  refine hq_ofW (by decide) (Nat.le_of_ble_eq_true rfl) ?_
  intro p e s m below meth c ls C hml hret hlk hnm hl hP
  obtain ⟨kB, kN⟩ := hP
  have hL : hq_L lo [] := hq_L0
  have hl : lv_has ls 2 [(0, .ref (x)), (1, .int (a))] := hl
  have k0 : va_at D vwCl (x, .inr (5, [.ref (x + 3), .ref (x + 1), .ref (x + 2)])) s.heap := kB 0 (by decide)
  have k2 : va_at D vwCl (x + 2, .inl (cI, 8, .inl tot)) s.heap := kB 2 (by decide)
  refine lv_iload_n C.1 C.2.1 d_X_level_0 rfl (lv_at hl 1 rfl) ?_
  refine lv_if_lt (tgt := 20) C.1 C.2.1 d_X_level_1 (by decide) ?_ ?_
  · intro c0
    refine lv_iconst (v := -1) C.1 C.2.1 d_X_level_20 (by decide) ?_
    exact hq_iret C hret hlk (Nat.le_of_ble_eq_true rfl) (Nat.le_of_ble_eq_true rfl) hL ⟨rfl, rfl⟩ d_X_level_21
  · intro c0
    refine lv_iload_n C.1 C.2.1 d_X_level_4 rfl (lv_at hl 1 rfl) ?_
    refine lv_bipush (v := 64) C.1 C.2.1 d_X_level_5 (by decide) ?_
    refine lv_icmp_ge (tgt := 20) C.1 C.2.1 d_X_level_7 (by decide) ?_ ?_
    · intro c1
      refine lv_iconst (v := -1) C.1 C.2.1 d_X_level_20 (by decide) ?_
      exact hq_iret C hret hlk (Nat.le_of_ble_eq_true rfl) (Nat.le_of_ble_eq_true rfl) hL ⟨rfl, rfl⟩ d_X_level_21
    · intro c1
      refine lv_iload_n C.1 C.2.1 d_X_level_10 rfl (lv_at hl 1 rfl) ?_
      refine lv_aload_n C.1 C.2.1 d_X_level_11 rfl (lv_at hl 0 rfl) ?_
      refine hq_get (v := .ref (x + 2)) C f_X_13 k0 rfl d_X_level_12 ?_
      refine lv_iconst (v := 0) C.1 C.2.1 d_X_level_15 (by decide) ?_
      refine hq_iald C 0 rfl k2 (show vp_in (nI 0) 8 from vp_in_nI (by decide) (by decide)) d_X_level_16 ?_
      rw [show tot (Int32.toNatClampNeg 0) = 0 from h0]
      refine lv_icmp_lt (tgt := 22) C.1 C.2.1 d_X_level_17 (by decide) (fun hn => absurd hn (c0)) (fun _ => ?_)
      refine lv_iconst (v := -1) C.1 C.2.1 d_X_level_20 (by decide) ?_
      exact hq_iret C hret hlk (Nat.le_of_ble_eq_true rfl) (Nat.le_of_ble_eq_true rfl) hL ⟨rfl, rfl⟩ d_X_level_21
set_option maxHeartbeats 4000000 in
set_option maxRecDepth 100000 in
theorem c_filter (l : Launch) (D : va_G) (cI cZ cN cJ : ClassId) (lo : Nat) (x n : Nat) (N : Nat → Nat → Int32) (R : Nat → Nat → Nat → Int32) (lev tot : Nat → Int32) (j : Nat) (hn : n ≤ 4) (hj : j < n) (a b : Int32) (hlo : lo ≤ x) (ha : ¬ el a = 0) (hb : ¬ el b = 0) : hq_M l y_X_filter b_X_filter 5 none TB { frames := 2, cells := 0, slots := 0, locals := 60 } lo D vwCl (TY cI cZ cN cJ) [.ref (x), .int (nI j), .int (a), .int (b)] (fun U => busP D cI cZ cN x n N R lev tot U.heap) (fun H v H' => v = none ∧ hq_S x (4 + 10 * n) H H') := by
  refine hq_ofW (by decide) (Nat.le_of_ble_eq_true rfl) ?_
  intro p e s m below meth c ls C hml hret hlk hnm hl hP
  obtain ⟨kB, kN⟩ := hP
  have hL : hq_L lo [] := hq_L0
  have hl : lv_has ls 5 [(0, .ref (x)), (1, .int (nI j)), (2, .int (a)), (3, .int (b))] := hl
  have k0 : va_at D vwCl (x, .inr (5, [.ref (x + 3), .ref (x + 1), .ref (x + 2)])) s.heap := kB 0 (by decide)
  refine lv_aload_n C.1 C.2.1 d_X_filter_0 rfl (lv_at hl 0 rfl) ?_
  refine lv_iload_n C.1 C.2.1 d_X_filter_1 rfl (lv_at hl 1 rfl) ?_
  refine hq_callV (lo := lo) (As := [.int (nI j)]) (rest := []) C tb_good hml Y_X_32 (c_nodeOf l D cI cZ cN cJ lo x n j N R lev tot hn hj) k0 rfl (fun _ _ _ _ h => h) (fun U hU hW => by show busP D cI cZ cN x n N R lev tot U.heap; rw [hU]; exact ⟨kB, kN⟩) hL hl.1 rfl rfl ⟨⟨Nat.le_of_ble_eq_true rfl, Nat.le_of_ble_eq_true rfl⟩, Nat.le_of_ble_eq_true rfl, Nat.le_of_ble_eq_true rfl⟩ (Nat.le_of_ble_eq_true rfl) d_X_filter_2 (fun v H41 locs hp hL => ?_)
  obtain ⟨rfl, rfl⟩ := hp
  refine W.eq (g2 := F0 m 5 ls [.ref (x + 4 + 10 * j)]) rfl ?_
  have m0 : va_at D vwCl (x + 4 + 10 * j, .inr (3, [.ref (x + 4 + 10 * j + 1), .ref (x + 4 + 10 * j + 3), .ref (x + 4 + 10 * j + 5), .ref (x + 4 + 10 * j + 7), .ref (x + 4 + 10 * j + 9), .int (N j 0), .int (N j 1), .int (N j 2), .int (N j 3), .int (N j 4), .int (N j 5), .int (N j 6), .int (N j 7), .int (N j 8), .int (N j 9), .int (N j 10), .int (N j 11), .int (N j 12)])) s.heap := kN j hj 0 (by decide)
  refine lv_astore C.1 C.2.1 d_X_filter_5 hl (by decide) rfl (lv' := [(4, .ref (x + 4 + 10 * j)), (0, .ref (x)), (1, .int (nI j)), (2, .int (a)), (3, .int (b))]) (fun ls hl => ?_)
  refine lv_iload_n C.1 C.2.1 d_X_filter_7 rfl (lv_at hl 3 rfl) ?_
  refine hq_callS (lo := lo) (As := [.int (a)]) (rest := []) C tb_good hml Y_X_36 (c_isEleven l D cI cZ cN cJ lo a) (fun _ _ _ _ h => h) (fun U hU hW => trivial) hL hl.1 rfl rfl ⟨⟨Nat.le_of_ble_eq_true rfl, Nat.le_of_ble_eq_true rfl⟩, Nat.le_of_ble_eq_true rfl, Nat.le_of_ble_eq_true rfl⟩ (Nat.le_of_ble_eq_true rfl) d_X_filter_8 (fun v H42 locs hp hL => ?_)
  obtain ⟨rfl, rfl⟩ := hp
  refine W.eq (g2 := F0 m 11 ls [.int (el a)]) rfl ?_
  refine lv_if_eq (tgt := 21) C.1 C.2.1 d_X_filter_11 (by decide) (fun hn => absurd hn (ha)) (fun _ => ?_)
  refine lv_iload_n C.1 C.2.1 d_X_filter_14 rfl (lv_at hl 4 rfl) ?_
  refine hq_callS (lo := lo) (As := [.int (b)]) (rest := []) C tb_good hml Y_X_36 (c_isEleven l D cI cZ cN cJ lo b) (fun _ _ _ _ h => h) (fun U hU hW => trivial) hL hl.1 rfl rfl ⟨⟨Nat.le_of_ble_eq_true rfl, Nat.le_of_ble_eq_true rfl⟩, Nat.le_of_ble_eq_true rfl, Nat.le_of_ble_eq_true rfl⟩ (Nat.le_of_ble_eq_true rfl) d_X_filter_15 (fun v H43 locs hp hL => ?_)
  obtain ⟨rfl, rfl⟩ := hp
  refine W.eq (g2 := F0 m 18 ls [.int (el b)]) rfl ?_
  refine lv_if_ne (tgt := 31) C.1 C.2.1 d_X_filter_18 (by decide) (fun _ => ?_) (fun hn => absurd hn (hb))
  refine lv_aload C.1 C.2.1 d_X_filter_31 (lv_at hl 0 rfl) ?_
  refine lv_iload_n C.1 C.2.1 d_X_filter_33 rfl (lv_at hl 3 rfl) ?_
  refine hq_put (lo := lo) C f_X_79 m0 rfl rfl (Nat.le_of_ble_eq_true rfl) hL (by omega) d_X_filter_34 (fun H44 locs u45 hL => ?_)
  have k46 : va_at D vwCl (x + 4 + 10 * j, .inr (3, [.ref (x + 4 + 10 * j + 1), .ref (x + 4 + 10 * j + 3), .ref (x + 4 + 10 * j + 5), .ref (x + 4 + 10 * j + 7), .ref (x + 4 + 10 * j + 9), .int (N j 0), .int (N j 1), .int (N j 2), .int (N j 3), .int (N j 4), .int (a), .int (N j 6), .int (N j 7), .int (N j 8), .int (N j 9), .int (N j 10), .int (N j 11), .int (N j 12)])) H44 := u45.2.2
  refine lv_aload C.1 C.2.1 d_X_filter_37 (lv_at hl 0 rfl) ?_
  refine lv_iload_n C.1 C.2.1 d_X_filter_39 rfl (lv_at hl 4 rfl) ?_
  refine hq_put (lo := lo) C f_X_82 k46 rfl rfl (Nat.le_of_ble_eq_true rfl) hL (by omega) d_X_filter_40 (fun H47 locs u48 hL => ?_)
  have k49 : va_at D vwCl (x + 4 + 10 * j, .inr (3, [.ref (x + 4 + 10 * j + 1), .ref (x + 4 + 10 * j + 3), .ref (x + 4 + 10 * j + 5), .ref (x + 4 + 10 * j + 7), .ref (x + 4 + 10 * j + 9), .int (N j 0), .int (N j 1), .int (N j 2), .int (N j 3), .int (N j 4), .int (a), .int (b), .int (N j 7), .int (N j 8), .int (N j 9), .int (N j 10), .int (N j 11), .int (N j 12)])) H47 := u48.2.2
  exact hq_vret C hret hlk (Nat.le_of_ble_eq_true rfl) (Nat.le_of_ble_eq_true rfl) hL ⟨rfl, hq_Sput (hq_Sput hq_S0 u45 (by omega) (by omega)) u48 (by omega) (by omega)⟩ d_X_filter_43
set_option maxHeartbeats 4000000 in
set_option maxRecDepth 100000 in
theorem c_disturb (l : Launch) (D : va_G) (cI cZ cN cJ : ClassId) (lo : Nat) (x n : Nat) (N : Nat → Nat → Int32) (R : Nat → Nat → Nat → Int32) (lev tot : Nat → Int32) (j : Nat) (hn : n ≤ 4) (hj : j < n) (t i : Nat) (hlo : lo ≤ x) (ht : N j 15 = nI t) (ht2 : t < 201) (h1 : 1 ≤ i) (h2 : i ≤ 200) : hq_M l y_X_disturb b_X_disturb 4 none TB { frames := 3, cells := 0, slots := 0, locals := 80 } lo D vwCl (TY cI cZ cN cJ) [.ref (x), .int (nI j), .int (nI i)] (fun U => busP D cI cZ cN x n N R lev tot U.heap) (fun H v H' => v = none ∧ hq_S x (4 + 10 * n) H H') := by
  refine hq_ofW (by decide) (Nat.le_of_ble_eq_true rfl) ?_
  intro p e s m below meth c ls C hml hret hlk hnm hl hP
  obtain ⟨kB, kN⟩ := hP
  have hL : hq_L lo [] := hq_L0
  have hl : lv_has ls 4 [(0, .ref (x)), (1, .int (nI j)), (2, .int (nI i))] := hl
  have k0 : va_at D vwCl (x, .inr (5, [.ref (x + 3), .ref (x + 1), .ref (x + 2)])) s.heap := kB 0 (by decide)
  refine lv_aload_n C.1 C.2.1 d_X_disturb_0 rfl (lv_at hl 0 rfl) ?_
  refine lv_iload_n C.1 C.2.1 d_X_disturb_1 rfl (lv_at hl 1 rfl) ?_
  refine hq_callV (lo := lo) (As := [.int (nI j)]) (rest := []) C tb_good hml Y_X_32 (c_nodeOf l D cI cZ cN cJ lo x n j N R lev tot hn hj) k0 rfl (fun _ _ _ _ h => h) (fun U hU hW => by show busP D cI cZ cN x n N R lev tot U.heap; rw [hU]; exact ⟨kB, kN⟩) hL hl.1 rfl rfl ⟨⟨Nat.le_of_ble_eq_true rfl, Nat.le_of_ble_eq_true rfl⟩, Nat.le_of_ble_eq_true rfl, Nat.le_of_ble_eq_true rfl⟩ (Nat.le_of_ble_eq_true rfl) d_X_disturb_2 (fun v H41 locs hp hL => ?_)
  obtain ⟨rfl, rfl⟩ := hp
  refine W.eq (g2 := F0 m 5 ls [.ref (x + 4 + 10 * j)]) rfl ?_
  have m0 : va_at D vwCl (x + 4 + 10 * j, .inr (3, [.ref (x + 4 + 10 * j + 1), .ref (x + 4 + 10 * j + 3), .ref (x + 4 + 10 * j + 5), .ref (x + 4 + 10 * j + 7), .ref (x + 4 + 10 * j + 9), .int (N j 0), .int (N j 1), .int (N j 2), .int (N j 3), .int (N j 4), .int (N j 5), .int (N j 6), .int (N j 7), .int (N j 8), .int (N j 9), .int (N j 10), .int (N j 11), .int (N j 12)])) s.heap := kN j hj 0 (by decide)
  have m5 : va_at D vwCl (x + 4 + 10 * j + 5, .inr (1, [.ref (x + 4 + 10 * j + 6), .int (N j 15)])) s.heap := kN j hj 5 (by decide)
  have m6 : va_at D vwCl (x + 4 + 10 * j + 6, .inl (cZ, 201, .inl (R j 2))) s.heap := kN j hj 6 (by decide)
  refine lv_astore_n C.1 C.2.1 d_X_disturb_5 rfl hl (by decide) rfl (lv' := [(3, .ref (x + 4 + 10 * j)), (0, .ref (x)), (1, .int (nI j)), (2, .int (nI i))]) (fun ls hl => ?_)
  refine lv_iload_n C.1 C.2.1 d_X_disturb_6 rfl (lv_at hl 3 rfl) ?_
  refine hq_callS (lo := lo) (As := [.int (nI i)]) (rest := []) C tb_good hml Y_X_85 (c_checkBitTimes l D cI cZ cN cJ lo (nI i) (nI_nlt (a := i) (b := 1) h1 (by omega)) (nI_le (b := 200) h2 (by decide))) (fun _ _ _ _ h => h) (fun U hU hW => trivial) hL hl.1 rfl rfl ⟨⟨Nat.le_of_ble_eq_true rfl, Nat.le_of_ble_eq_true rfl⟩, Nat.le_of_ble_eq_true rfl, Nat.le_of_ble_eq_true rfl⟩ (Nat.le_of_ble_eq_true rfl) d_X_disturb_7 (fun v H42 locs hp hL => ?_)
  obtain ⟨rfl, rfl⟩ := hp
  refine W.eq (g2 := F0 m 10 ls []) rfl ?_
  refine lv_aload_n C.1 C.2.1 d_X_disturb_10 rfl (lv_at hl 0 rfl) ?_
  refine hq_get (v := .ref (x + 4 + 10 * j + 5)) C f_X_88 m0 rfl d_X_disturb_11 ?_
  refine lv_iload_n C.1 C.2.1 d_X_disturb_14 rfl (lv_at hl 3 rfl) ?_
  have m5t : va_at D vwCl (x + 4 + 10 * j + 5, .inr (1, [.ref (x + 4 + 10 * j + 5 + 1), .int (nI t)])) s.heap := by rw [← ht]; exact m5
  refine hq_callV (lo := lo) (As := [.int (nI i)]) (rest := []) C tb_good hml Y_X_92 (c_mark l D cI cZ cN cJ lo (x + 4 + 10 * j + 5) t i (R j 2) (by omega) ht2 h2) m5 rfl (fun _ _ _ _ h => h) (fun U hU hW => ⟨by rw [hU]; exact m5t, by rw [hU]; exact m6⟩) hL hl.1 rfl rfl ⟨⟨Nat.le_of_ble_eq_true rfl, Nat.le_of_ble_eq_true rfl⟩, Nat.le_of_ble_eq_true rfl, Nat.le_of_ble_eq_true rfl⟩ (Nat.le_of_ble_eq_true rfl) d_X_disturb_15 (fun v H43 locs hp hL => ?_)
  obtain ⟨rfl, hS⟩ := hp
  refine W.eq (g2 := F0 m 18 ls []) rfl ?_
  exact hq_vret C hret hlk (Nat.le_of_ble_eq_true rfl) (Nat.le_of_ble_eq_true rfl) hL ⟨rfl, hq_Scall hq_S0 hS (by omega) (by omega)⟩ d_X_disturb_18
set_option maxHeartbeats 4000000 in
set_option maxRecDepth 100000 in
theorem c_request (l : Launch) (D : va_G) (cI cZ cN cJ : ClassId) (lo : Nat) (x n : Nat) (N : Nat → Nat → Int32) (R : Nat → Nat → Nat → Int32) (lev tot : Nat → Int32) (j : Nat) (hn : n ≤ 4) (hj : j < n) (k : Nat) (a b d : Int32) (hlo : lo ≤ x) (hq : rq a b d) (hst : ¬ N j 0 = 7) (hk : N j 13 = nI k) (hk4 : k < 4) : hq_M l y_X_request b_X_request 6 (some .int) TB { frames := 3, cells := 0, slots := 0, locals := 80 } lo D vwCl (TY cI cZ cN cJ) [.ref (x), .int (nI j), .int (a), .int (b), .int (d)] (fun U => busP D cI cZ cN x n N R lev tot U.heap) (fun H v H' => v = some (.int (nI (k + 1))) ∧ hq_S x (4 + 10 * n) H H') := by
  refine hq_ofW (by decide) (Nat.le_of_ble_eq_true rfl) ?_
  intro p e s m below meth c ls C hml hret hlk hnm hl hP
  obtain ⟨kB, kN⟩ := hP
  have hL : hq_L lo [] := hq_L0
  have hl : lv_has ls 6 [(0, .ref (x)), (1, .int (nI j)), (2, .int (a)), (3, .int (b)), (4, .int (d))] := hl
  have k0 : va_at D vwCl (x, .inr (5, [.ref (x + 3), .ref (x + 1), .ref (x + 2)])) s.heap := kB 0 (by decide)
  obtain ⟨q1, q2, q3, q4, q5⟩ := hq
  refine lv_aload_n C.1 C.2.1 d_X_request_0 rfl (lv_at hl 0 rfl) ?_
  refine lv_iload_n C.1 C.2.1 d_X_request_1 rfl (lv_at hl 1 rfl) ?_
  refine hq_callV (lo := lo) (As := [.int (nI j)]) (rest := []) C tb_good hml Y_X_32 (c_nodeOf l D cI cZ cN cJ lo x n j N R lev tot hn hj) k0 rfl (fun _ _ _ _ h => h) (fun U hU hW => by show busP D cI cZ cN x n N R lev tot U.heap; rw [hU]; exact ⟨kB, kN⟩) hL hl.1 rfl rfl ⟨⟨Nat.le_of_ble_eq_true rfl, Nat.le_of_ble_eq_true rfl⟩, Nat.le_of_ble_eq_true rfl, Nat.le_of_ble_eq_true rfl⟩ (Nat.le_of_ble_eq_true rfl) d_X_request_2 (fun v H41 locs hp hL => ?_)
  obtain ⟨rfl, rfl⟩ := hp
  refine W.eq (g2 := F0 m 5 ls [.ref (x + 4 + 10 * j)]) rfl ?_
  have m0 : va_at D vwCl (x + 4 + 10 * j, .inr (3, [.ref (x + 4 + 10 * j + 1), .ref (x + 4 + 10 * j + 3), .ref (x + 4 + 10 * j + 5), .ref (x + 4 + 10 * j + 7), .ref (x + 4 + 10 * j + 9), .int (N j 0), .int (N j 1), .int (N j 2), .int (N j 3), .int (N j 4), .int (N j 5), .int (N j 6), .int (N j 7), .int (N j 8), .int (N j 9), .int (N j 10), .int (N j 11), .int (N j 12)])) s.heap := kN j hj 0 (by decide)
  have m1 : va_at D vwCl (x + 4 + 10 * j + 1, .inr (2, [.ref (x + 4 + 10 * j + 2), .int (N j 13)])) s.heap := kN j hj 1 (by decide)
  have m2 : va_at D vwCl (x + 4 + 10 * j + 2, .inl (cI, 4, .inl (R j 0))) s.heap := kN j hj 2 (by decide)
  refine lv_astore C.1 C.2.1 d_X_request_5 hl (by decide) rfl (lv' := [(5, .ref (x + 4 + 10 * j)), (0, .ref (x)), (1, .int (nI j)), (2, .int (a)), (3, .int (b)), (4, .int (d))]) (fun ls hl => ?_)
  refine lv_iload_n C.1 C.2.1 d_X_request_7 rfl (lv_at hl 3 rfl) ?_
  refine hq_callS (lo := lo) (As := [.int (a)]) (rest := []) C tb_good hml Y_X_36 (c_isEleven l D cI cZ cN cJ lo a) (fun _ _ _ _ h => h) (fun U hU hW => trivial) hL hl.1 rfl rfl ⟨⟨Nat.le_of_ble_eq_true rfl, Nat.le_of_ble_eq_true rfl⟩, Nat.le_of_ble_eq_true rfl, Nat.le_of_ble_eq_true rfl⟩ (Nat.le_of_ble_eq_true rfl) d_X_request_8 (fun v H42 locs hp hL => ?_)
  obtain ⟨rfl, rfl⟩ := hp
  refine W.eq (g2 := F0 m 11 ls [.int (el a)]) rfl ?_
  refine lv_if_eq (tgt := 39) C.1 C.2.1 d_X_request_11 (by decide) (fun hn => absurd hn (q1)) (fun _ => ?_)
  refine lv_iload_n C.1 C.2.1 d_X_request_14 rfl (lv_at hl 4 rfl) ?_
  refine lv_if_lt (tgt := 39) C.1 C.2.1 d_X_request_15 (by decide) (fun hn => absurd hn (q2)) (fun _ => ?_)
  refine lv_iload_n C.1 C.2.1 d_X_request_18 rfl (lv_at hl 4 rfl) ?_
  refine lv_iconst (v := 2) C.1 C.2.1 d_X_request_19 (by decide) ?_
  refine lv_icmp_gt (tgt := 39) C.1 C.2.1 d_X_request_20 (by decide) (fun hn => absurd hn (q3)) (fun _ => ?_)
  refine lv_iload C.1 C.2.1 d_X_request_23 (lv_at hl 5 rfl) ?_
  refine lv_if_lt (tgt := 39) C.1 C.2.1 d_X_request_25 (by decide) (fun hn => absurd hn (q4)) (fun _ => ?_)
  refine lv_iload C.1 C.2.1 d_X_request_28 (lv_at hl 5 rfl) ?_
  refine lv_iconst (v := 1) C.1 C.2.1 d_X_request_30 (by decide) ?_
  refine lv_bipush (v := 8) C.1 C.2.1 d_X_request_31 (by decide) ?_
  refine lv_iload_n C.1 C.2.1 d_X_request_33 rfl (lv_at hl 4 rfl) ?_
  refine lv_imul C.1 C.2.1 d_X_request_34 ?_
  refine lv_ishl C.1 C.2.1 d_X_request_35 ?_
  refine lv_icmp_lt (tgt := 49) C.1 C.2.1 d_X_request_36 (by decide) (fun _ => ?_) (fun hn => absurd (q5) hn)
  refine lv_aload C.1 C.2.1 d_X_request_49 (lv_at hl 0 rfl) ?_
  refine hq_get (v := .int (N j 0)) C f_X_47 m0 rfl d_X_request_51 ?_
  refine lv_bipush (v := 7) C.1 C.2.1 d_X_request_54 (by decide) ?_
  refine lv_icmp_eq (tgt := 70) C.1 C.2.1 d_X_request_56 (by decide) (fun hn => absurd hn (hst)) (fun _ => ?_)
  refine lv_aload C.1 C.2.1 d_X_request_59 (lv_at hl 0 rfl) ?_
  refine hq_get (v := .ref (x + 4 + 10 * j + 1)) C f_X_51 m0 rfl d_X_request_61 ?_
  have m1k : va_at D vwCl (x + 4 + 10 * j + 1, .inr (2, [.ref (x + 4 + 10 * j + 1 + 1), .int (nI k)])) s.heap := by rw [← hk]; exact m1
  refine hq_callV (lo := lo) (As := []) (rest := []) C tb_good hml Y_X_55 (c_isFull l D cI cZ cN cJ lo (x + 4 + 10 * j + 1) (x + 4 + 10 * j + 1 + 1) (nI k)) m1 rfl (fun _ _ _ _ h => h) (fun U hU hW => by show va_at D vwCl (x + 4 + 10 * j + 1, .inr (2, [.ref (x + 4 + 10 * j + 1 + 1), .int (nI k)])) U.heap; rw [hU]; exact m1k) hL hl.1 rfl rfl ⟨⟨Nat.le_of_ble_eq_true rfl, Nat.le_of_ble_eq_true rfl⟩, Nat.le_of_ble_eq_true rfl, Nat.le_of_ble_eq_true rfl⟩ (Nat.le_of_ble_eq_true rfl) d_X_request_64 (fun v H43 locs hp hL => ?_)
  obtain ⟨rfl, rfl⟩ := hp
  refine W.eq (g2 := F0 m 67 ls [.int (fl (nI k))]) rfl ?_
  have hfl : fl (nI k) = 0 := by unfold fl; rw [if_pos (show nI k < 4 from nI_lt hk4 (by decide))]
  refine lv_if_eq (tgt := 80) C.1 C.2.1 d_X_request_67 (by decide) (fun _ => ?_) (fun hn => absurd (hfl) hn)
  refine lv_aload C.1 C.2.1 d_X_request_80 (lv_at hl 0 rfl) ?_
  refine hq_get (v := .ref (x + 4 + 10 * j + 1)) C f_X_51 m0 rfl d_X_request_82 ?_
  refine lv_iload_n C.1 C.2.1 d_X_request_85 rfl (lv_at hl 3 rfl) ?_
  refine lv_iload_n C.1 C.2.1 d_X_request_86 rfl (lv_at hl 4 rfl) ?_
  refine lv_iload C.1 C.2.1 d_X_request_87 (lv_at hl 5 rfl) ?_
  refine hq_callS (lo := lo) (As := [.int (a), .int (b), .int (d)]) (rest := [.ref (x + 4 + 10 * j + 1)]) C tb_good hml Y_X_66 (c_packed l D cI cZ cN cJ lo a b d) (fun _ _ _ _ h => h) (fun U hU hW => trivial) hL hl.1 rfl rfl ⟨⟨Nat.le_of_ble_eq_true rfl, Nat.le_of_ble_eq_true rfl⟩, Nat.le_of_ble_eq_true rfl, Nat.le_of_ble_eq_true rfl⟩ (Nat.le_of_ble_eq_true rfl) d_X_request_89 (fun v H44 locs hp hL => ?_)
  obtain ⟨rfl, rfl⟩ := hp
  refine W.eq (g2 := F0 m 92 ls [.int (a + 2048 * b + 8192 * d), .ref (x + 4 + 10 * j + 1)]) rfl ?_
  refine hq_callV (lo := lo) (As := [.int (a + 2048 * b + 8192 * d)]) (rest := []) C tb_good hml Y_X_70 (c_add l D cI cZ cN cJ lo (x + 4 + 10 * j + 1) k (a + 2048 * b + 8192 * d) (R j 0) (by omega) hk4) m1 rfl (fun _ _ _ _ h => h) (fun U hU hW => ⟨by rw [hU]; exact m1k, by rw [hU]; exact m2⟩) hL hl.1 rfl rfl ⟨⟨Nat.le_of_ble_eq_true rfl, Nat.le_of_ble_eq_true rfl⟩, Nat.le_of_ble_eq_true rfl, Nat.le_of_ble_eq_true rfl⟩ (Nat.le_of_ble_eq_true rfl) d_X_request_92 (fun v H45 locs hp hL => ?_)
  obtain ⟨rfl, m1n, hS⟩ := hp
  refine W.eq (g2 := F0 m 95 ls []) rfl ?_
  refine lv_aload C.1 C.2.1 d_X_request_95 (lv_at hl 0 rfl) ?_
  have k46 := hq_as m0 hS (by omega)
  refine hq_get (v := .ref (x + 4 + 10 * j + 1)) C f_X_51 k46 rfl d_X_request_97 ?_
  refine hq_get (v := .int (nI (k + 1))) C f_X_74 m1n rfl d_X_request_100 ?_
  exact hq_iret C hret hlk (Nat.le_of_ble_eq_true rfl) (Nat.le_of_ble_eq_true rfl) hL ⟨rfl, hq_Scall hq_S0 hS (by omega) (by omega)⟩ d_X_request_103
end
section
/-! Methods with a table of handlers, and the script's own array. -/
def hq_MW (l : Launch) (y : MethodName) (bytes : ByteArray) (maxL : Nat) (ret : Option FieldType) (hh : List (Nat × Nat × Nat × Nat)) (TB : List Cond) (rm : Room) (lo : Nat) (D : va_G) (cl : List vw_C) (tys : List (ClassId × FieldType)) (av : List Value) (P : State → Prop) (Post : Heap → Option Value → Heap → Prop) : Prop :=
  Met l y (Cond.codeWith y bytes maxL ret hh :: TB) rm (va_Pc av (fun U => va_K D cl tys U ∧ P U)) (hq_Q Post) rm.cells rm.slots (fun q => lo ≤ q)
def hq_YW (TB : List Cond) (own : String) (index : Nat) (y : MethodName) (bytes : ByteArray) (maxL : Nat) (ret : Option FieldType) (hh : List (Nat × Nat × Nat × Nat)) (n : Nat) : Prop :=
  Cond.codeWith y bytes maxL ret hh ∈ TB ∧ Cond.methodLink own index y ∈ TB ∧ Cond.initialized y.cls ∈ TB ∧ Cond.static y ∈ TB ∧ y.cls ≠ "java/lang/invoke/MethodHandle" ∧ y.cls ≠ "java/lang/invoke/VarHandle" ∧ (parseMethodDescriptor y.desc).map (fun d => d.parameters.length) = some n
theorem hq_tab1 {L : List ExceptionTableEntry} {a b h t : Nat} (e : L.map (fun x => (x.startPc, x.endPc, x.handlerPc, x.catchType)) = [(a, b, h, t)]) : ∃ x, L = [] ++ x :: [] ∧ x.startPc = a ∧ x.endPc = b ∧ x.handlerPc = h ∧ x.catchType = t := by
  match L, e with
  | [x], e =>
    simp only [List.map_cons, List.map_nil, List.cons.injEq, Prod.mk.injEq, and_true] at e
    exact ⟨x, rfl, e⟩
theorem hq_tab2 {L : List ExceptionTableEntry} {a b h t a' b' h' t' : Nat} (e : L.map (fun x => (x.startPc, x.endPc, x.handlerPc, x.catchType)) = [(a, b, h, t), (a', b', h', t')]) : ∃ x y, L = [x, y] ∧ (x.startPc = a ∧ x.endPc = b ∧ x.handlerPc = h ∧ x.catchType = t) ∧ y.startPc = a' ∧ y.endPc = b' ∧ y.handlerPc = h' ∧ y.catchType = t' := by
  match L, e with
  | [x, y], e =>
    simp only [List.map_cons, List.map_nil, List.cons.injEq, Prod.mk.injEq, and_true] at e
    exact ⟨x, y, rfl, e⟩
section HQW
variable {p : Program} {l : Launch} {e : Env} {R : Room} {s : State} {m : MethodId} {args : Array Value} {below : List Frame} {meth : Method} {c : Code} {H : Heap} {locs : List Loc} {cells slots : Nat} {Q : State → Prop}
variable {cc : ByteArray} {pc : Nat} {ls : Array Slot} {rest st0 : List Value} {D : va_G} {cl : List vw_C} {lo nL : Nat} {tys : List (ClassId × FieldType)} {own : String} {TB : List Cond}
variable {index : Nat} {y : MethodName} {bytes : ByteArray} {maxL n : Nat} {ret : Option FieldType} {hh : List (Nat × Nat × Nat × Nat)} {rm : Room} {As : List Value} {P : State → Prop} {Post : Heap → Option Value → Heap → Prop}
theorem hq_ofWW (hy : plainName y.cls = true) {av : List Value} (hlen : (lg_sl av).length ≤ maxL)
    (body : ∀ (p : Program) (e : Env) (s : State) (m : MethodId) (below : List Frame) (meth : Method) (c : Code) (ls : Array Slot), hq_C p c s m av.toArray y.cls bytes TB D cl tys → c.maxLocals = maxL → meth.sig.returnType = ret → meth.locks = false → c.exceptionTable.toList.map (fun x => (x.startPc, x.endPc, x.handlerPc, x.catchType)) = hh → lv_has ls maxL (lv_args 0 av) → P s →
      W p l e rm s m av.toArray below meth c s.heap [] 0 0 (MQ below (hq_Q Post) av.toArray s rm.cells rm.slots (fun q => lo ≤ q)) (F0 m 0 ls [])) :
    hq_MW l y bytes maxL ret hh TB rm lo D cl tys av P Post := by
  refine va_MetW (cc := bytes) (maxL := maxL) (ret := ret) (hh := hh) hy rfl ?_
  intro p e s m args below meth c s₁ B hml hv
  obtain ⟨rfl, hK, hP⟩ := hv
  have hts := atoms_spec (ws := Cond.codeWith y bytes maxL ret hh :: TB) B.pre
  obtain ⟨m9, meth9, c9, hn9, h1, h2, -, -, h3, -⟩ := Cond.codeWith_spec (hts _ List.mem_cons_self)
  cases B.named.symm.trans hn9
  cases B.method.symm.trans h1
  cases (Stand.of_body B).code.symm.trans h2
  rw [lg_entry_eq]
  exact body p e s m below meth c _ ⟨B.exec, B.bytes, findClass_of_methodNamed B.named, fun w hw => hts w (List.mem_cons_of_mem _ hw), hK⟩ hml B.returns B.notSynchronized h3 (lv_entry av hlen) hP
theorem hq_callSW (C : hq_C p c s m args own cc TB D cl tys) (hG : GoodIn TB TB) (hml : c.maxLocals = nL) (Y : hq_YW TB own index y bytes maxL ret hh n) (hM : hq_MW l y bytes maxL ret hh TB rm lo D cl tys As P Post) (hPb : hq_Bl P) (hP : ∀ U : State, U.heap = H → s.WarmedH U.vm → P U) (hL : hq_L lo locs) (hls : ls.size = nL) (hn : As.length = n) (hst : st0 = As.reverse ++ rest) (hR : hq_R R rm maxL cells slots) (hW : (rest.map fun v => v.category).sum ≤ 8) (hdg : decode cc pc = .ok (.invokestatic index, 3))
    (kk : ∀ (v : Option Value) (H1 : Heap) (locs1 : List Loc), Post H v H1 → hq_L lo locs1 → W p l e R s m args below meth c H1 locs1 (cells + rm.cells) (slots + rm.slots) Q (F0 m (pc + 3) ls (v.toList ++ rest))) : W p l e R s m args below meth c H locs cells slots Q (F0 m pc ls st0) := by
  obtain ⟨hx, hbb, hown, hts, hK⟩ := C
  obtain ⟨y1, y2, y3, y4, y5, y6, y7⟩ := Y
  have hws : ∀ w ∈ Cond.codeWith y bytes maxL ret hh :: TB, ∀ (a' : Array Value) (U : State), s.WarmedH U.vm → w.before a' U = true := by
    intro w hw a' U hWU
    rcases List.mem_cons.mp hw with h | h
    · rw [h]; exact word_at hWU (hG _ y1).2 (hts _ y1)
    · exact word_at hWU (hG _ h).2 (hts _ h)
  have hB : Back l R p e below s args y 3 8 (PreOf R rm.cells rm.slots _) (PostOf (hq_Q Post) rm.cells rm.slots (fun q => lo ≤ q)) :=
    va_backW (bytes := bytes) (maxL := maxL) (ret := ret) (hh := hh) hM (hq_blind hPb) rfl rfl hR.1.1 hR.1.2 hws List.mem_cons_self (fun a' U hWU => word_at hWU (hG _ y3).2 (hts _ y3))
  refine hq_run (rm := rm) (Post := Post) (av9 := As.toArray) (fun T hT X => ?_) hL kk
  obtain ⟨mk, methM, cM, hnamed, hmethM, -, -, -, -, -, -, hsigM⟩ := Cond.codeWith_spec (hts _ y1)
  have hstatic : methM.isStatic = true := Cond.static_spec hnamed hmethM (hts _ y4)
  obtain ⟨kP, hkP, -⟩ := className_of_methodNamed hnamed
  have hinitP : kP.init = .initialized := Cond.initialized_spec (findClass_of_methodNamed hnamed) hkP (hts _ y3)
  have hlenP : As.length = methM.sig.parameters.length := by
    rw [hsigM] at y7
    exact hn.trans (Option.some.inj y7).symm
  obtain ⟨vm₁, X₁, hstep₁⟩ := X.invokestatic hx hown (hts _ y2) hnamed hmethM hstatic hkP hinitP ⟨y5, y6⟩ (g := F0 m pc ls st0) rfl (argsL := As) (rest := rest) hlenP hst (by rw [hbb]; exact hdg)
  obtain ⟨v, ⟨U', l2, c2, s2⟩, X', ⟨g', mk', t, L, e1, e2, hq, h1, hL1, h2, h3⟩, hsteps⟩ := hB m meth c ⟨T.setVm vm₁, locs, cells, slots⟩ (F0 m pc ls rest) (.invokestatic index) mk As.toArray X₁ rfl (hls.trans hml.symm) (by rw [hbb]; exact hdg) (lv_room hW) (X₁.named hnamed) ⟨hR.2.1, hR.2.2, rfl, va_K.moved X₁.warmed.alike hK, hP _ hT X₁.warmed⟩
  dsimp only [Pt.U, Pt.locs, Pt.cells, Pt.slots] at X' e1 e2 h1 h2 h3 hsteps
  subst h1; subst h2; subst h3
  exact ⟨v, (T.setVm vm₁).calling g' mk' As.toArray, t, U', L, hT, X', hL1, e1, hq, fun target h => hstep₁ _ fun acts => by rw [doInvoke_state]; exact hsteps.trans h⟩
theorem hq_sld (C : hq_C p c s m args own cc TB D cl tys) {b L : Nat} {xs : Nat → Int32} (hX : va_X b L xs s s.heap) (hb : b < s.heap.size) (hO : hq_O s.heap.size s.heap H) {i : Int32} (hin : vp_in i L) (hdg : decode cc pc = .ok (.iaload, 1))
    (kk : W p l e R s m args below meth c H locs cells slots Q (F0 m (pc + 1) ls (.int (xs i.toNatClampNeg) :: rest))) : W p l e R s m args below meth c H locs cells slots Q (F0 m pc ls (.int i :: .ref b :: rest)) := by
  obtain ⟨scr, h1, h2, h3, h4, h5⟩ := hX
  have hlt : i.toNatClampNeg < L := Nat.not_le.mp fun q => hin (Or.inr q)
  exact W.iald (v := .int (xs i.toNatClampNeg)) C.1 C.2.1 (by rw [hO b hb]; exact h1) h2 h3 (by rw [h4]; exact hin) (h5 _ hlt) rfl rfl hdg kk
theorem hq_slen (C : hq_C p c s m args own cc TB D cl tys) {b L : Nat} {xs : Nat → Int32} (hX : va_X b L xs s s.heap) (hb : b < s.heap.size) (hO : hq_O s.heap.size s.heap H) (hdg : decode cc pc = .ok (.arraylength, 1))
    (kk : W p l e R s m args below meth c H locs cells slots Q (F0 m (pc + 1) ls (.int (nI L) :: rest))) : W p l e R s m args below meth c H locs cells slots Q (F0 m pc ls (.ref b :: rest)) := by
  obtain ⟨scr, h1, h2, h3, h4, h5⟩ := hX
  exact W.alen (n := nI L) C.1 C.2.1 (by rw [hO b hb]; exact h1) h2 (by rw [h4] <;> rfl) rfl rfl hdg kk
end HQW
end
section
/-! The reader's methods, as functions. -/
theorem lv_nil {ls : Array Slot} {n : Nat} {L : List (Nat × Value)} (hl : lv_has ls n L) : lv_has ls n [] := ⟨hl.1, hl.2.1, fun _ h => by cases h⟩
theorem lv_push {ls : Array Slot} {n i : Nat} {v : Value} {L : List (Nat × Value)} (hl : lv_has ls n L) (h : ls[i]? = some (.val v)) : lv_has ls n ((i, v) :: L) := ⟨hl.1, hl.2.1, fun q hq => by rcases List.mem_cons.mp hq with rfl | hq; exact h; exact hl.2.2 q hq⟩
abbrev sRe := Int32 × Int32 × Int32 × Int32 × Int32 × Int32 × Int32 × Int32
abbrev sRe.p (r : sRe) : Int32 := r.1
abbrev sRe.c (r : sRe) : Int32 := r.2.1
abbrev sRe.l (r : sRe) : Int32 := r.2.2.1
abbrev sRe.e (r : sRe) : Int32 := r.2.2.2.1
abbrev sRe.g (r : sRe) : Int32 := r.2.2.2.2.1
abbrev sRe.i (r : sRe) : Int32 := r.2.2.2.2.2.1
abbrev sRe.b (r : sRe) : Int32 := r.2.2.2.2.2.2.1
abbrev sRe.d (r : sRe) : Int32 := r.2.2.2.2.2.2.2
abbrev sRe.mk (p c l e g i b d : Int32) : sRe := (p, c, l, e, g, i, b, d)
abbrev cRe (r : sRe) : va_E := .inr (4, [.int r.p, .int r.c, .int r.l, .int r.e, .int r.g, .int r.i, .int r.b, .int r.d])
def f_Fr_packed (x y z : Int32) : Int32 := x + 2048 * y + 8192 * z
theorem c_Fr_packed (l : Launch) (D : va_G) (cI cZ cN cJ : ClassId) (lo : Nat) (x y z : Int32) : hq_M l y_Fr_packed b_Fr_packed 3 (some .int) TB { frames := 0, cells := 0, slots := 0, locals := 0 } lo D vwCl (TY cI cZ cN cJ) [.int x, .int y, .int z] (fun _ => True) (fun H v H' => v = some (.int (f_Fr_packed x y z)) ∧ H' = H) := c_packed l D cI cZ cN cJ lo x y z
def f_Fr_idOf (x : Int32) : Int32 := x &&& 2047
set_option maxHeartbeats 4000000 in
set_option maxRecDepth 100000 in
theorem c_Fr_idOf (l : Launch) (D : va_G) (cI cZ cN cJ : ClassId) (lo : Nat)  (x : Int32) : hq_M l y_Fr_idOf b_Fr_idOf 1 (some .int) TB { frames := 0, cells := 0, slots := 0, locals := 0 } lo D vwCl (TY cI cZ cN cJ) [.int (x)] (fun _ => True) (fun H v H' => v = some (.int (f_Fr_idOf x)) ∧ H' = H) := by
  refine hq_ofW (by decide) (Nat.le_of_ble_eq_true rfl) ?_
  intro p e s m below meth c ls C hml hret hlk hnm hl hP
  have hL : hq_L lo [] := hq_L0
  have hl : lv_has ls 1 [(0, .int (x))] := hl
  refine lv_iload_n C.1 C.2.1 d_Fr_idOf_0 rfl (lv_at hl 0 rfl) ?_
  refine lv_sipush (v := 2047) C.1 C.2.1 d_Fr_idOf_1 (by decide) ?_
  refine lv_iand C.1 C.2.1 d_Fr_idOf_4 ?_
  have hf : f_Fr_idOf x = x &&& 2047 := rfl
  exact hq_iret C hret hlk (Nat.le_of_ble_eq_true rfl) (Nat.le_of_ble_eq_true rfl) hL ⟨by rw [hf], rfl⟩ d_Fr_idOf_5
def f_Fr_bytesOf (x : Int32) : Int32 := (x >>> (11 &&& 31)) &&& 3
set_option maxHeartbeats 4000000 in
set_option maxRecDepth 100000 in
theorem c_Fr_bytesOf (l : Launch) (D : va_G) (cI cZ cN cJ : ClassId) (lo : Nat)  (x : Int32) : hq_M l y_Fr_bytesOf b_Fr_bytesOf 1 (some .int) TB { frames := 0, cells := 0, slots := 0, locals := 0 } lo D vwCl (TY cI cZ cN cJ) [.int (x)] (fun _ => True) (fun H v H' => v = some (.int (f_Fr_bytesOf x)) ∧ H' = H) := by
  refine hq_ofW (by decide) (Nat.le_of_ble_eq_true rfl) ?_
  intro p e s m below meth c ls C hml hret hlk hnm hl hP
  have hL : hq_L lo [] := hq_L0
  have hl : lv_has ls 1 [(0, .int (x))] := hl
  refine lv_iload_n C.1 C.2.1 d_Fr_bytesOf_0 rfl (lv_at hl 0 rfl) ?_
  refine lv_bipush (v := 11) C.1 C.2.1 d_Fr_bytesOf_1 (by decide) ?_
  refine lv_ishr C.1 C.2.1 d_Fr_bytesOf_3 ?_
  refine lv_iconst (v := 3) C.1 C.2.1 d_Fr_bytesOf_4 (by decide) ?_
  refine lv_iand C.1 C.2.1 d_Fr_bytesOf_5 ?_
  have hf : f_Fr_bytesOf x = (x >>> (11 &&& 31)) &&& 3 := rfl
  exact hq_iret C hret hlk (Nat.le_of_ble_eq_true rfl) (Nat.le_of_ble_eq_true rfl) hL ⟨by rw [hf], rfl⟩ d_Fr_bytesOf_6
def f_Fr_dataOf (x : Int32) : Int32 := x >>> (13 &&& 31)
set_option maxHeartbeats 4000000 in
set_option maxRecDepth 100000 in
theorem c_Fr_dataOf (l : Launch) (D : va_G) (cI cZ cN cJ : ClassId) (lo : Nat)  (x : Int32) : hq_M l y_Fr_dataOf b_Fr_dataOf 1 (some .int) TB { frames := 0, cells := 0, slots := 0, locals := 0 } lo D vwCl (TY cI cZ cN cJ) [.int (x)] (fun _ => True) (fun H v H' => v = some (.int (f_Fr_dataOf x)) ∧ H' = H) := by
  refine hq_ofW (by decide) (Nat.le_of_ble_eq_true rfl) ?_
  intro p e s m below meth c ls C hml hret hlk hnm hl hP
  have hL : hq_L lo [] := hq_L0
  have hl : lv_has ls 1 [(0, .int (x))] := hl
  refine lv_iload_n C.1 C.2.1 d_Fr_dataOf_0 rfl (lv_at hl 0 rfl) ?_
  refine lv_bipush (v := 13) C.1 C.2.1 d_Fr_dataOf_1 (by decide) ?_
  refine lv_ishr C.1 C.2.1 d_Fr_dataOf_3 ?_
  have hf : f_Fr_dataOf x = x >>> (13 &&& 31) := rfl
  exact hq_iret C hret hlk (Nat.le_of_ble_eq_true rfl) (Nat.le_of_ble_eq_true rfl) hL ⟨by rw [hf], rfl⟩ d_Fr_dataOf_4
def f_Co_lengthFor (x : Int32) : Int32 := (19 + (8 * x)) + 15
set_option maxHeartbeats 4000000 in
set_option maxRecDepth 100000 in
theorem c_Co_lengthFor (l : Launch) (D : va_G) (cI cZ cN cJ : ClassId) (lo : Nat)  (x : Int32) : hq_M l y_Co_lengthFor b_Co_lengthFor 1 (some .int) TB { frames := 0, cells := 0, slots := 0, locals := 0 } lo D vwCl (TY cI cZ cN cJ) [.int (x)] (fun _ => True) (fun H v H' => v = some (.int (f_Co_lengthFor x)) ∧ H' = H) := by
  refine hq_ofW (by decide) (Nat.le_of_ble_eq_true rfl) ?_
  intro p e s m below meth c ls C hml hret hlk hnm hl hP
  have hL : hq_L lo [] := hq_L0
  have hl : lv_has ls 1 [(0, .int (x))] := hl
  refine lv_bipush (v := 19) C.1 C.2.1 d_Co_lengthFor_0 (by decide) ?_
  refine lv_bipush (v := 8) C.1 C.2.1 d_Co_lengthFor_2 (by decide) ?_
  refine lv_iload_n C.1 C.2.1 d_Co_lengthFor_4 rfl (lv_at hl 0 rfl) ?_
  refine lv_imul C.1 C.2.1 d_Co_lengthFor_5 ?_
  refine lv_iadd C.1 C.2.1 d_Co_lengthFor_6 ?_
  refine lv_bipush (v := 15) C.1 C.2.1 d_Co_lengthFor_7 (by decide) ?_
  refine lv_iadd C.1 C.2.1 d_Co_lengthFor_9 ?_
  have hf : f_Co_lengthFor x = (19 + (8 * x)) + 15 := rfl
  exact hq_iret C hret hlk (Nat.le_of_ble_eq_true rfl) (Nat.le_of_ble_eq_true rfl) hL ⟨by rw [hf], rfl⟩ d_Co_lengthFor_10
def f_Co_registerBehind (x y : Int32) : Int32 := if y = ((x >>> (14 &&& 31)) &&& 1) then ((x <<< (1 &&& 31)) &&& 32767) else (((x <<< (1 &&& 31)) &&& 32767) ^^^ 17817)
set_option maxHeartbeats 4000000 in
set_option maxRecDepth 100000 in
theorem c_Co_registerBehind (l : Launch) (D : va_G) (cI cZ cN cJ : ClassId) (lo : Nat)  (x y : Int32) : hq_M l y_Co_registerBehind b_Co_registerBehind 3 (some .int) TB { frames := 0, cells := 0, slots := 0, locals := 0 } lo D vwCl (TY cI cZ cN cJ) [.int (x), .int (y)] (fun _ => True) (fun H v H' => v = some (.int (f_Co_registerBehind x y)) ∧ H' = H) := by
  refine hq_ofW (by decide) (Nat.le_of_ble_eq_true rfl) ?_
  intro p e s m below meth c ls C hml hret hlk hnm hl hP
  have hL : hq_L lo [] := hq_L0
  have hl : lv_has ls 3 [(0, .int (x)), (1, .int (y))] := hl
  refine lv_iload_n C.1 C.2.1 d_Co_registerBehind_0 rfl (lv_at hl 0 rfl) ?_
  refine lv_iconst (v := 1) C.1 C.2.1 d_Co_registerBehind_1 (by decide) ?_
  refine lv_ishl C.1 C.2.1 d_Co_registerBehind_2 ?_
  refine lv_sipush (v := 32767) C.1 C.2.1 d_Co_registerBehind_3 (by decide) ?_
  refine lv_iand C.1 C.2.1 d_Co_registerBehind_6 ?_
  refine lv_istore_n C.1 C.2.1 d_Co_registerBehind_7 rfl hl (by decide) rfl (lv' := [(2, .int ((x <<< (1 &&& 31)) &&& 32767)), (0, .int (x)), (1, .int (y))]) (fun ls hl => ?_)
  refine lv_iload_n C.1 C.2.1 d_Co_registerBehind_8 rfl (lv_at hl 2 rfl) ?_
  refine lv_iload_n C.1 C.2.1 d_Co_registerBehind_9 rfl (lv_at hl 1 rfl) ?_
  refine lv_bipush (v := 14) C.1 C.2.1 d_Co_registerBehind_10 (by decide) ?_
  refine lv_ishr C.1 C.2.1 d_Co_registerBehind_12 ?_
  refine lv_iconst (v := 1) C.1 C.2.1 d_Co_registerBehind_13 (by decide) ?_
  refine lv_iand C.1 C.2.1 d_Co_registerBehind_14 ?_
  refine lv_icmp_eq (tgt := 26) C.1 C.2.1 d_Co_registerBehind_15 (by decide) ?_ ?_
  · intro c41
    refine lv_iload_n C.1 C.2.1 d_Co_registerBehind_26 rfl (lv_at hl 0 rfl) ?_
    have hf : f_Co_registerBehind x y = (x <<< (1 &&& 31)) &&& 32767 := by unfold f_Co_registerBehind; rw [if_pos c41]
    exact hq_iret C hret hlk (Nat.le_of_ble_eq_true rfl) (Nat.le_of_ble_eq_true rfl) hL ⟨by rw [hf], rfl⟩ d_Co_registerBehind_27
  · intro c41
    refine lv_iload_n C.1 C.2.1 d_Co_registerBehind_18 rfl (lv_at hl 0 rfl) ?_
    refine lv_sipush (v := 17817) C.1 C.2.1 d_Co_registerBehind_19 (by decide) ?_
    refine lv_ixor C.1 C.2.1 d_Co_registerBehind_22 ?_
    refine lv_goto (tgt := 27) C.1 C.2.1 d_Co_registerBehind_23 (by decide) ?_
    have hf : f_Co_registerBehind x y = ((x <<< (1 &&& 31)) &&& 32767) ^^^ 17817 := by unfold f_Co_registerBehind; rw [if_neg c41]
    exact hq_iret C hret hlk (Nat.le_of_ble_eq_true rfl) (Nat.le_of_ble_eq_true rfl) hL ⟨by rw [hf], rfl⟩ d_Co_registerBehind_27
def f_Re_padIsDue (r : sRe) : Int32 := if r.e = 5 then ((1 : Int32)) else ((0 : Int32))
set_option maxHeartbeats 4000000 in
set_option maxRecDepth 100000 in
theorem c_Re_padIsDue (l : Launch) (D : va_G) (cI cZ cN cJ : ClassId) (lo : Nat) (a : Nat) (r : sRe) : hq_M l y_Re_padIsDue b_Re_padIsDue 1 (some .boolean) TB { frames := 0, cells := 0, slots := 0, locals := 0 } lo D vwCl (TY cI cZ cN cJ) [.ref (a)] (fun U => va_at D vwCl (a, cRe r) U.heap) (fun H v H' => v = some (.int (f_Re_padIsDue r)) ∧ H' = H) := by
  refine hq_ofW (by decide) (Nat.le_of_ble_eq_true rfl) ?_
  intro p e s m below meth c ls C hml hret hlk hnm hl hP
  have hL : hq_L lo [] := hq_L0
  have hl : lv_has ls 1 [(0, .ref (a))] := hl
  have k0 : va_at D vwCl (a, .inr (4, [.int (r.p), .int (r.c), .int (r.l), .int (r.e), .int (r.g), .int (r.i), .int (r.b), .int (r.d)])) s.heap := hP
  refine lv_aload_n C.1 C.2.1 d_Re_padIsDue_0 rfl (lv_at hl 0 rfl) ?_
  refine hq_get (v := .int (r.e)) C f_Re_23 k0 rfl d_Re_padIsDue_1 ?_
  refine lv_iconst (v := 5) C.1 C.2.1 d_Re_padIsDue_4 (by decide) ?_
  refine lv_icmp_ne (tgt := 12) C.1 C.2.1 d_Re_padIsDue_5 (by decide) ?_ ?_
  · intro c41
    refine lv_iconst (v := 0) C.1 C.2.1 d_Re_padIsDue_12 (by decide) ?_
    have hf : f_Re_padIsDue r = (0 : Int32) := by unfold f_Re_padIsDue; rw [if_neg c41]
    exact hq_zret C hret hlk (by decide) (Nat.le_of_ble_eq_true rfl) (Nat.le_of_ble_eq_true rfl) hL ⟨by rw [hf], rfl⟩ d_Re_padIsDue_13
  · intro c41
    refine lv_iconst (v := 1) C.1 C.2.1 d_Re_padIsDue_8 (by decide) ?_
    refine lv_goto (tgt := 13) C.1 C.2.1 d_Re_padIsDue_9 (by decide) ?_
    have hf : f_Re_padIsDue r = (1 : Int32) := by unfold f_Re_padIsDue; rw [if_pos c41]
    exact hq_zret C hret hlk (by decide) (Nat.le_of_ble_eq_true rfl) (Nat.le_of_ble_eq_true rfl) hL ⟨by rw [hf], rfl⟩ d_Re_padIsDue_13
def f_Re_isBehindCore (r : sRe) : Int32 := if r.p < r.c then ((0 : Int32)) else (if (f_Re_padIsDue r) = 0 then ((1 : Int32)) else ((0 : Int32)))
set_option maxHeartbeats 4000000 in
set_option maxRecDepth 100000 in
theorem c_Re_isBehindCore (l : Launch) (D : va_G) (cI cZ cN cJ : ClassId) (lo : Nat) (a : Nat) (r : sRe) : hq_M l y_Re_isBehindCore b_Re_isBehindCore 1 (some .boolean) TB { frames := 1, cells := 0, slots := 0, locals := 20 } lo D vwCl (TY cI cZ cN cJ) [.ref (a)] (fun U => va_at D vwCl (a, cRe r) U.heap) (fun H v H' => v = some (.int (f_Re_isBehindCore r)) ∧ H' = H) := by
  refine hq_ofW (by decide) (Nat.le_of_ble_eq_true rfl) ?_
  intro p e s m below meth c ls C hml hret hlk hnm hl hP
  have hL : hq_L lo [] := hq_L0
  have hl : lv_has ls 1 [(0, .ref (a))] := hl
  have k0 : va_at D vwCl (a, .inr (4, [.int (r.p), .int (r.c), .int (r.l), .int (r.e), .int (r.g), .int (r.i), .int (r.b), .int (r.d)])) s.heap := hP
  refine lv_aload_n C.1 C.2.1 d_Re_isBehindCore_0 rfl (lv_at hl 0 rfl) ?_
  refine hq_get (v := .int (r.p)) C f_Re_9 k0 rfl d_Re_isBehindCore_1 ?_
  refine lv_aload_n C.1 C.2.1 d_Re_isBehindCore_4 rfl (lv_at hl 0 rfl) ?_
  refine hq_get (v := .int (r.c)) C f_Re_17 k0 rfl d_Re_isBehindCore_5 ?_
  refine lv_icmp_lt (tgt := 22) C.1 C.2.1 d_Re_isBehindCore_8 (by decide) ?_ ?_
  · intro c41
    refine lv_iconst (v := 0) C.1 C.2.1 d_Re_isBehindCore_22 (by decide) ?_
    have hf : f_Re_isBehindCore r = (0 : Int32) := by unfold f_Re_isBehindCore; rw [if_pos c41]
    exact hq_zret C hret hlk (by decide) (Nat.le_of_ble_eq_true rfl) (Nat.le_of_ble_eq_true rfl) hL ⟨by rw [hf], rfl⟩ d_Re_isBehindCore_23
  · intro c41
    refine lv_aload_n C.1 C.2.1 d_Re_isBehindCore_11 rfl (lv_at hl 0 rfl) ?_
    refine hq_callV (lo := lo) (As := []) (rest := []) C tb_good hml Y_Re_38 (c_Re_padIsDue l D cI cZ cN cJ lo a r) k0 rfl (fun _ _ _ _ h => h) (fun U hU hW => by show va_at D vwCl (a, .inr (4, [.int (r.p), .int (r.c), .int (r.l), .int (r.e), .int (r.g), .int (r.i), .int (r.b), .int (r.d)])) U.heap; rw [hU]; exact k0) hL hl.1 rfl rfl ⟨⟨Nat.le_of_ble_eq_true rfl, Nat.le_of_ble_eq_true rfl⟩, Nat.le_of_ble_eq_true rfl, Nat.le_of_ble_eq_true rfl⟩ (Nat.le_of_ble_eq_true rfl) d_Re_isBehindCore_12 (fun v H42 locs hp hL => ?_)
    obtain ⟨rfl, rfl⟩ := hp
    refine W.eq (g2 := F0 m 15 ls [.int (f_Re_padIsDue r)]) rfl ?_
    refine lv_if_ne (tgt := 22) C.1 C.2.1 d_Re_isBehindCore_15 (by decide) ?_ ?_
    · intro c43
      refine lv_iconst (v := 0) C.1 C.2.1 d_Re_isBehindCore_22 (by decide) ?_
      have hf : f_Re_isBehindCore r = (0 : Int32) := by unfold f_Re_isBehindCore; rw [if_neg c41, if_neg c43]
      exact hq_zret C hret hlk (by decide) (Nat.le_of_ble_eq_true rfl) (Nat.le_of_ble_eq_true rfl) hL ⟨by rw [hf], rfl⟩ d_Re_isBehindCore_23
    · intro c43
      refine lv_iconst (v := 1) C.1 C.2.1 d_Re_isBehindCore_18 (by decide) ?_
      refine lv_goto (tgt := 23) C.1 C.2.1 d_Re_isBehindCore_19 (by decide) ?_
      have hf : f_Re_isBehindCore r = (1 : Int32) := by unfold f_Re_isBehindCore; rw [if_neg c41, if_pos c43]
      exact hq_zret C hret hlk (by decide) (Nat.le_of_ble_eq_true rfl) (Nat.le_of_ble_eq_true rfl) hL ⟨by rw [hf], rfl⟩ d_Re_isBehindCore_23
def f_Re_isInId (r : sRe) : Int32 := if r.p < 1 then ((0 : Int32)) else (if 12 ≤ r.p then ((0 : Int32)) else (if (f_Re_padIsDue r) = 0 then ((1 : Int32)) else ((0 : Int32))))
set_option maxHeartbeats 4000000 in
set_option maxRecDepth 100000 in
theorem c_Re_isInId (l : Launch) (D : va_G) (cI cZ cN cJ : ClassId) (lo : Nat) (a : Nat) (r : sRe) : hq_M l y_Re_isInId b_Re_isInId 1 (some .boolean) TB { frames := 1, cells := 0, slots := 0, locals := 20 } lo D vwCl (TY cI cZ cN cJ) [.ref (a)] (fun U => va_at D vwCl (a, cRe r) U.heap) (fun H v H' => v = some (.int (f_Re_isInId r)) ∧ H' = H) := by
  refine hq_ofW (by decide) (Nat.le_of_ble_eq_true rfl) ?_
  intro p e s m below meth c ls C hml hret hlk hnm hl hP
  have hL : hq_L lo [] := hq_L0
  have hl : lv_has ls 1 [(0, .ref (a))] := hl
  have k0 : va_at D vwCl (a, .inr (4, [.int (r.p), .int (r.c), .int (r.l), .int (r.e), .int (r.g), .int (r.i), .int (r.b), .int (r.d)])) s.heap := hP
  refine lv_aload_n C.1 C.2.1 d_Re_isInId_0 rfl (lv_at hl 0 rfl) ?_
  refine hq_get (v := .int (r.p)) C f_Re_9 k0 rfl d_Re_isInId_1 ?_
  refine lv_iconst (v := 1) C.1 C.2.1 d_Re_isInId_4 (by decide) ?_
  refine lv_icmp_lt (tgt := 28) C.1 C.2.1 d_Re_isInId_5 (by decide) ?_ ?_
  · intro c41
    refine lv_iconst (v := 0) C.1 C.2.1 d_Re_isInId_28 (by decide) ?_
    have hf : f_Re_isInId r = (0 : Int32) := by unfold f_Re_isInId; rw [if_pos c41]
    exact hq_zret C hret hlk (by decide) (Nat.le_of_ble_eq_true rfl) (Nat.le_of_ble_eq_true rfl) hL ⟨by rw [hf], rfl⟩ d_Re_isInId_29
  · intro c41
    refine lv_aload_n C.1 C.2.1 d_Re_isInId_8 rfl (lv_at hl 0 rfl) ?_
    refine hq_get (v := .int (r.p)) C f_Re_9 k0 rfl d_Re_isInId_9 ?_
    refine lv_bipush (v := 12) C.1 C.2.1 d_Re_isInId_12 (by decide) ?_
    refine lv_icmp_ge (tgt := 28) C.1 C.2.1 d_Re_isInId_14 (by decide) ?_ ?_
    · intro c42
      refine lv_iconst (v := 0) C.1 C.2.1 d_Re_isInId_28 (by decide) ?_
      have hf : f_Re_isInId r = (0 : Int32) := by unfold f_Re_isInId; rw [if_neg c41, if_pos c42]
      exact hq_zret C hret hlk (by decide) (Nat.le_of_ble_eq_true rfl) (Nat.le_of_ble_eq_true rfl) hL ⟨by rw [hf], rfl⟩ d_Re_isInId_29
    · intro c42
      refine lv_aload_n C.1 C.2.1 d_Re_isInId_17 rfl (lv_at hl 0 rfl) ?_
      refine hq_callV (lo := lo) (As := []) (rest := []) C tb_good hml Y_Re_38 (c_Re_padIsDue l D cI cZ cN cJ lo a r) k0 rfl (fun _ _ _ _ h => h) (fun U hU hW => by show va_at D vwCl (a, .inr (4, [.int (r.p), .int (r.c), .int (r.l), .int (r.e), .int (r.g), .int (r.i), .int (r.b), .int (r.d)])) U.heap; rw [hU]; exact k0) hL hl.1 rfl rfl ⟨⟨Nat.le_of_ble_eq_true rfl, Nat.le_of_ble_eq_true rfl⟩, Nat.le_of_ble_eq_true rfl, Nat.le_of_ble_eq_true rfl⟩ (Nat.le_of_ble_eq_true rfl) d_Re_isInId_18 (fun v H43 locs hp hL => ?_)
      obtain ⟨rfl, rfl⟩ := hp
      refine W.eq (g2 := F0 m 21 ls [.int (f_Re_padIsDue r)]) rfl ?_
      refine lv_if_ne (tgt := 28) C.1 C.2.1 d_Re_isInId_21 (by decide) ?_ ?_
      · intro c44
        refine lv_iconst (v := 0) C.1 C.2.1 d_Re_isInId_28 (by decide) ?_
        have hf : f_Re_isInId r = (0 : Int32) := by unfold f_Re_isInId; rw [if_neg c41, if_neg c42, if_neg c44]
        exact hq_zret C hret hlk (by decide) (Nat.le_of_ble_eq_true rfl) (Nat.le_of_ble_eq_true rfl) hL ⟨by rw [hf], rfl⟩ d_Re_isInId_29
      · intro c44
        refine lv_iconst (v := 1) C.1 C.2.1 d_Re_isInId_24 (by decide) ?_
        refine lv_goto (tgt := 29) C.1 C.2.1 d_Re_isInId_25 (by decide) ?_
        have hf : f_Re_isInId r = (1 : Int32) := by unfold f_Re_isInId; rw [if_neg c41, if_neg c42, if_pos c44]
        exact hq_zret C hret hlk (by decide) (Nat.le_of_ble_eq_true rfl) (Nat.le_of_ble_eq_true rfl) hL ⟨by rw [hf], rfl⟩ d_Re_isInId_29
def f_Re_isAtAnswer (r : sRe) : Int32 := if (f_Re_isBehindCore r) = 0 then ((0 : Int32)) else (if (r.p - r.c) = 1 then ((1 : Int32)) else ((0 : Int32)))
set_option maxHeartbeats 4000000 in
set_option maxRecDepth 100000 in
theorem c_Re_isAtAnswer (l : Launch) (D : va_G) (cI cZ cN cJ : ClassId) (lo : Nat) (a : Nat) (r : sRe) : hq_M l y_Re_isAtAnswer b_Re_isAtAnswer 1 (some .boolean) TB { frames := 2, cells := 0, slots := 0, locals := 40 } lo D vwCl (TY cI cZ cN cJ) [.ref (a)] (fun U => va_at D vwCl (a, cRe r) U.heap) (fun H v H' => v = some (.int (f_Re_isAtAnswer r)) ∧ H' = H) := by
  refine hq_ofW (by decide) (Nat.le_of_ble_eq_true rfl) ?_
  intro p e s m below meth c ls C hml hret hlk hnm hl hP
  have hL : hq_L lo [] := hq_L0
  have hl : lv_has ls 1 [(0, .ref (a))] := hl
  have k0 : va_at D vwCl (a, .inr (4, [.int (r.p), .int (r.c), .int (r.l), .int (r.e), .int (r.g), .int (r.i), .int (r.b), .int (r.d)])) s.heap := hP
  refine lv_aload_n C.1 C.2.1 d_Re_isAtAnswer_0 rfl (lv_at hl 0 rfl) ?_
  refine hq_callV (lo := lo) (As := []) (rest := []) C tb_good hml Y_Re_42 (c_Re_isBehindCore l D cI cZ cN cJ lo a r) k0 rfl (fun _ _ _ _ h => h) (fun U hU hW => by show va_at D vwCl (a, .inr (4, [.int (r.p), .int (r.c), .int (r.l), .int (r.e), .int (r.g), .int (r.i), .int (r.b), .int (r.d)])) U.heap; rw [hU]; exact k0) hL hl.1 rfl rfl ⟨⟨Nat.le_of_ble_eq_true rfl, Nat.le_of_ble_eq_true rfl⟩, Nat.le_of_ble_eq_true rfl, Nat.le_of_ble_eq_true rfl⟩ (Nat.le_of_ble_eq_true rfl) d_Re_isAtAnswer_1 (fun v H41 locs hp hL => ?_)
  obtain ⟨rfl, rfl⟩ := hp
  refine W.eq (g2 := F0 m 4 ls [.int (f_Re_isBehindCore r)]) rfl ?_
  refine lv_if_eq (tgt := 24) C.1 C.2.1 d_Re_isAtAnswer_4 (by decide) ?_ ?_
  · intro c42
    refine lv_iconst (v := 0) C.1 C.2.1 d_Re_isAtAnswer_24 (by decide) ?_
    have hf : f_Re_isAtAnswer r = (0 : Int32) := by unfold f_Re_isAtAnswer; rw [if_pos c42]
    exact hq_zret C hret hlk (by decide) (Nat.le_of_ble_eq_true rfl) (Nat.le_of_ble_eq_true rfl) hL ⟨by rw [hf], rfl⟩ d_Re_isAtAnswer_25
  · intro c42
    refine lv_aload_n C.1 C.2.1 d_Re_isAtAnswer_7 rfl (lv_at hl 0 rfl) ?_
    refine hq_get (v := .int (r.p)) C f_Re_9 k0 rfl d_Re_isAtAnswer_8 ?_
    refine lv_aload_n C.1 C.2.1 d_Re_isAtAnswer_11 rfl (lv_at hl 0 rfl) ?_
    refine hq_get (v := .int (r.c)) C f_Re_17 k0 rfl d_Re_isAtAnswer_12 ?_
    refine lv_isub C.1 C.2.1 d_Re_isAtAnswer_15 ?_
    refine lv_iconst (v := 1) C.1 C.2.1 d_Re_isAtAnswer_16 (by decide) ?_
    refine lv_icmp_ne (tgt := 24) C.1 C.2.1 d_Re_isAtAnswer_17 (by decide) ?_ ?_
    · intro c43
      refine lv_iconst (v := 0) C.1 C.2.1 d_Re_isAtAnswer_24 (by decide) ?_
      have hf : f_Re_isAtAnswer r = (0 : Int32) := by unfold f_Re_isAtAnswer; rw [if_neg c42, if_neg c43]
      exact hq_zret C hret hlk (by decide) (Nat.le_of_ble_eq_true rfl) (Nat.le_of_ble_eq_true rfl) hL ⟨by rw [hf], rfl⟩ d_Re_isAtAnswer_25
    · intro c43
      refine lv_iconst (v := 1) C.1 C.2.1 d_Re_isAtAnswer_20 (by decide) ?_
      refine lv_goto (tgt := 25) C.1 C.2.1 d_Re_isAtAnswer_21 (by decide) ?_
      have hf : f_Re_isAtAnswer r = (1 : Int32) := by unfold f_Re_isAtAnswer; rw [if_neg c42, if_pos c43]
      exact hq_zret C hret hlk (by decide) (Nat.le_of_ble_eq_true rfl) (Nat.le_of_ble_eq_true rfl) hL ⟨by rw [hf], rfl⟩ d_Re_isAtAnswer_25
def f_Re_isAtEnd (r : sRe) : Int32 := if (r.p - r.c) ≤ 9 then ((0 : Int32)) else ((1 : Int32))
set_option maxHeartbeats 4000000 in
set_option maxRecDepth 100000 in
theorem c_Re_isAtEnd (l : Launch) (D : va_G) (cI cZ cN cJ : ClassId) (lo : Nat) (a : Nat) (r : sRe) : hq_M l y_Re_isAtEnd b_Re_isAtEnd 1 (some .boolean) TB { frames := 0, cells := 0, slots := 0, locals := 0 } lo D vwCl (TY cI cZ cN cJ) [.ref (a)] (fun U => va_at D vwCl (a, cRe r) U.heap) (fun H v H' => v = some (.int (f_Re_isAtEnd r)) ∧ H' = H) := by
  refine hq_ofW (by decide) (Nat.le_of_ble_eq_true rfl) ?_
  intro p e s m below meth c ls C hml hret hlk hnm hl hP
  have hL : hq_L lo [] := hq_L0
  have hl : lv_has ls 1 [(0, .ref (a))] := hl
  have k0 : va_at D vwCl (a, .inr (4, [.int (r.p), .int (r.c), .int (r.l), .int (r.e), .int (r.g), .int (r.i), .int (r.b), .int (r.d)])) s.heap := hP
  refine lv_aload_n C.1 C.2.1 d_Re_isAtEnd_0 rfl (lv_at hl 0 rfl) ?_
  refine hq_get (v := .int (r.p)) C f_Re_9 k0 rfl d_Re_isAtEnd_1 ?_
  refine lv_aload_n C.1 C.2.1 d_Re_isAtEnd_4 rfl (lv_at hl 0 rfl) ?_
  refine hq_get (v := .int (r.c)) C f_Re_17 k0 rfl d_Re_isAtEnd_5 ?_
  refine lv_isub C.1 C.2.1 d_Re_isAtEnd_8 ?_
  refine lv_bipush (v := 9) C.1 C.2.1 d_Re_isAtEnd_9 (by decide) ?_
  refine lv_icmp_le (tgt := 18) C.1 C.2.1 d_Re_isAtEnd_11 (by decide) ?_ ?_
  · intro c41
    refine lv_iconst (v := 0) C.1 C.2.1 d_Re_isAtEnd_18 (by decide) ?_
    have hf : f_Re_isAtEnd r = (0 : Int32) := by unfold f_Re_isAtEnd; rw [if_pos c41]
    exact hq_zret C hret hlk (by decide) (Nat.le_of_ble_eq_true rfl) (Nat.le_of_ble_eq_true rfl) hL ⟨by rw [hf], rfl⟩ d_Re_isAtEnd_19
  · intro c41
    refine lv_iconst (v := 1) C.1 C.2.1 d_Re_isAtEnd_14 (by decide) ?_
    refine lv_goto (tgt := 19) C.1 C.2.1 d_Re_isAtEnd_15 (by decide) ?_
    have hf : f_Re_isAtEnd r = (1 : Int32) := by unfold f_Re_isAtEnd; rw [if_neg c41]
    exact hq_zret C hret hlk (by decide) (Nat.le_of_ble_eq_true rfl) (Nat.le_of_ble_eq_true rfl) hL ⟨by rw [hf], rfl⟩ d_Re_isAtEnd_19
def f_Re_isRight (r : sRe) : Int32 := if r.g = 0 then ((1 : Int32)) else ((0 : Int32))
set_option maxHeartbeats 4000000 in
set_option maxRecDepth 100000 in
theorem c_Re_isRight (l : Launch) (D : va_G) (cI cZ cN cJ : ClassId) (lo : Nat) (a : Nat) (r : sRe) : hq_M l y_Re_isRight b_Re_isRight 1 (some .boolean) TB { frames := 0, cells := 0, slots := 0, locals := 0 } lo D vwCl (TY cI cZ cN cJ) [.ref (a)] (fun U => va_at D vwCl (a, cRe r) U.heap) (fun H v H' => v = some (.int (f_Re_isRight r)) ∧ H' = H) := by
  refine hq_ofW (by decide) (Nat.le_of_ble_eq_true rfl) ?_
  intro p e s m below meth c ls C hml hret hlk hnm hl hP
  have hL : hq_L lo [] := hq_L0
  have hl : lv_has ls 1 [(0, .ref (a))] := hl
  have k0 : va_at D vwCl (a, .inr (4, [.int (r.p), .int (r.c), .int (r.l), .int (r.e), .int (r.g), .int (r.i), .int (r.b), .int (r.d)])) s.heap := hP
  refine lv_aload_n C.1 C.2.1 d_Re_isRight_0 rfl (lv_at hl 0 rfl) ?_
  refine hq_get (v := .int (r.g)) C f_Re_26 k0 rfl d_Re_isRight_1 ?_
  refine lv_if_ne (tgt := 11) C.1 C.2.1 d_Re_isRight_4 (by decide) ?_ ?_
  · intro c41
    refine lv_iconst (v := 0) C.1 C.2.1 d_Re_isRight_11 (by decide) ?_
    have hf : f_Re_isRight r = (0 : Int32) := by unfold f_Re_isRight; rw [if_neg c41]
    exact hq_zret C hret hlk (by decide) (Nat.le_of_ble_eq_true rfl) (Nat.le_of_ble_eq_true rfl) hL ⟨by rw [hf], rfl⟩ d_Re_isRight_12
  · intro c41
    refine lv_iconst (v := 1) C.1 C.2.1 d_Re_isRight_7 (by decide) ?_
    refine lv_goto (tgt := 12) C.1 C.2.1 d_Re_isRight_8 (by decide) ?_
    have hf : f_Re_isRight r = (1 : Int32) := by unfold f_Re_isRight; rw [if_pos c41]
    exact hq_zret C hret hlk (by decide) (Nat.le_of_ble_eq_true rfl) (Nat.le_of_ble_eq_true rfl) hL ⟨by rw [hf], rfl⟩ d_Re_isRight_12
def f_Re_frame (r : sRe) : Int32 := f_Fr_packed r.i r.b r.d
set_option maxHeartbeats 4000000 in
set_option maxRecDepth 100000 in
theorem c_Re_frame (l : Launch) (D : va_G) (cI cZ cN cJ : ClassId) (lo : Nat) (a : Nat) (r : sRe) : hq_M l y_Re_frame b_Re_frame 1 (some .int) TB { frames := 1, cells := 0, slots := 0, locals := 22 } lo D vwCl (TY cI cZ cN cJ) [.ref (a)] (fun U => va_at D vwCl (a, cRe r) U.heap) (fun H v H' => v = some (.int (f_Re_frame r)) ∧ H' = H) := by
  refine hq_ofW (by decide) (Nat.le_of_ble_eq_true rfl) ?_
  intro p e s m below meth c ls C hml hret hlk hnm hl hP
  have hL : hq_L lo [] := hq_L0
  have hl : lv_has ls 1 [(0, .ref (a))] := hl
  have k0 : va_at D vwCl (a, .inr (4, [.int (r.p), .int (r.c), .int (r.l), .int (r.e), .int (r.g), .int (r.i), .int (r.b), .int (r.d)])) s.heap := hP
  refine lv_aload_n C.1 C.2.1 d_Re_frame_0 rfl (lv_at hl 0 rfl) ?_
  refine hq_get (v := .int (r.i)) C f_Re_29 k0 rfl d_Re_frame_1 ?_
  refine lv_aload_n C.1 C.2.1 d_Re_frame_4 rfl (lv_at hl 0 rfl) ?_
  refine hq_get (v := .int (r.b)) C f_Re_32 k0 rfl d_Re_frame_5 ?_
  refine lv_aload_n C.1 C.2.1 d_Re_frame_8 rfl (lv_at hl 0 rfl) ?_
  refine hq_get (v := .int (r.d)) C f_Re_35 k0 rfl d_Re_frame_9 ?_
  refine hq_callS (lo := lo) (As := [.int (r.i), .int (r.b), .int (r.d)]) (rest := []) C tb_good hml Y_Re_45 (c_Fr_packed l D cI cZ cN cJ lo r.i r.b r.d) (fun _ _ _ _ h => h) (fun U hU hW => trivial) hL hl.1 rfl rfl ⟨⟨Nat.le_of_ble_eq_true rfl, Nat.le_of_ble_eq_true rfl⟩, Nat.le_of_ble_eq_true rfl, Nat.le_of_ble_eq_true rfl⟩ (Nat.le_of_ble_eq_true rfl) d_Re_frame_12 (fun v H41 locs hp hL => ?_)
  obtain ⟨rfl, rfl⟩ := hp
  refine W.eq (g2 := F0 m 15 ls [.int (f_Fr_packed r.i r.b r.d)]) rfl ?_
  have hf : f_Re_frame r = f_Fr_packed r.i r.b r.d := rfl
  exact hq_iret C hret hlk (Nat.le_of_ble_eq_true rfl) (Nat.le_of_ble_eq_true rfl) hL ⟨by rw [hf], rfl⟩ d_Re_frame_15
def f_Re_begin (r : sRe) : sRe := (sRe.mk 0 50 1 0 0 0 0 0)
set_option maxHeartbeats 4000000 in
set_option maxRecDepth 100000 in
theorem c_Re_begin (l : Launch) (D : va_G) (cI cZ cN cJ : ClassId) (lo : Nat) (a : Nat) (hlo : lo ≤ a) (r : sRe) : hq_M l y_Re_begin b_Re_begin 1 none TB { frames := 0, cells := 0, slots := 0, locals := 0 } lo D vwCl (TY cI cZ cN cJ) [.ref (a)] (fun U => va_at D vwCl (a, cRe r) U.heap) (fun H v H' => v = none ∧ va_at D vwCl (a, cRe (f_Re_begin r)) H' ∧ hq_S a 1 H H') := by
  refine hq_ofW (by decide) (Nat.le_of_ble_eq_true rfl) ?_
  intro p e s m below meth c ls C hml hret hlk hnm hl hP
  have hL : hq_L lo [] := hq_L0
  have hl : lv_has ls 1 [(0, .ref (a))] := hl
  have k0 : va_at D vwCl (a, .inr (4, [.int (r.p), .int (r.c), .int (r.l), .int (r.e), .int (r.g), .int (r.i), .int (r.b), .int (r.d)])) s.heap := hP
  refine lv_aload_n C.1 C.2.1 d_Re_begin_0 rfl (lv_at hl 0 rfl) ?_
  refine lv_iconst (v := 0) C.1 C.2.1 d_Re_begin_1 (by decide) ?_
  refine hq_put (lo := lo) C f_Re_9 k0 rfl rfl (Nat.le_of_ble_eq_true rfl) hL (by omega) d_Re_begin_2 (fun H41 locs u42 hL => ?_)
  have k43 : va_at D vwCl (a, .inr (4, [.int (0), .int (r.c), .int (r.l), .int (r.e), .int (r.g), .int (r.i), .int (r.b), .int (r.d)])) H41 := u42.2.2
  refine lv_aload_n C.1 C.2.1 d_Re_begin_5 rfl (lv_at hl 0 rfl) ?_
  refine lv_bipush (v := 50) C.1 C.2.1 d_Re_begin_6 (by decide) ?_
  refine hq_put (lo := lo) C f_Re_17 k43 rfl rfl (Nat.le_of_ble_eq_true rfl) hL (by omega) d_Re_begin_8 (fun H44 locs u45 hL => ?_)
  have k46 : va_at D vwCl (a, .inr (4, [.int (0), .int (50), .int (r.l), .int (r.e), .int (r.g), .int (r.i), .int (r.b), .int (r.d)])) H44 := u45.2.2
  refine lv_aload_n C.1 C.2.1 d_Re_begin_11 rfl (lv_at hl 0 rfl) ?_
  refine lv_iconst (v := 1) C.1 C.2.1 d_Re_begin_12 (by decide) ?_
  refine hq_put (lo := lo) C f_Re_20 k46 rfl rfl (Nat.le_of_ble_eq_true rfl) hL (by omega) d_Re_begin_13 (fun H47 locs u48 hL => ?_)
  have k49 : va_at D vwCl (a, .inr (4, [.int (0), .int (50), .int (1), .int (r.e), .int (r.g), .int (r.i), .int (r.b), .int (r.d)])) H47 := u48.2.2
  refine lv_aload_n C.1 C.2.1 d_Re_begin_16 rfl (lv_at hl 0 rfl) ?_
  refine lv_iconst (v := 0) C.1 C.2.1 d_Re_begin_17 (by decide) ?_
  refine hq_put (lo := lo) C f_Re_23 k49 rfl rfl (Nat.le_of_ble_eq_true rfl) hL (by omega) d_Re_begin_18 (fun H50 locs u51 hL => ?_)
  have k52 : va_at D vwCl (a, .inr (4, [.int (0), .int (50), .int (1), .int (0), .int (r.g), .int (r.i), .int (r.b), .int (r.d)])) H50 := u51.2.2
  refine lv_aload_n C.1 C.2.1 d_Re_begin_21 rfl (lv_at hl 0 rfl) ?_
  refine lv_iconst (v := 0) C.1 C.2.1 d_Re_begin_22 (by decide) ?_
  refine hq_put (lo := lo) C f_Re_26 k52 rfl rfl (Nat.le_of_ble_eq_true rfl) hL (by omega) d_Re_begin_23 (fun H53 locs u54 hL => ?_)
  have k55 : va_at D vwCl (a, .inr (4, [.int (0), .int (50), .int (1), .int (0), .int (0), .int (r.i), .int (r.b), .int (r.d)])) H53 := u54.2.2
  refine lv_aload_n C.1 C.2.1 d_Re_begin_26 rfl (lv_at hl 0 rfl) ?_
  refine lv_iconst (v := 0) C.1 C.2.1 d_Re_begin_27 (by decide) ?_
  refine hq_put (lo := lo) C f_Re_29 k55 rfl rfl (Nat.le_of_ble_eq_true rfl) hL (by omega) d_Re_begin_28 (fun H56 locs u57 hL => ?_)
  have k58 : va_at D vwCl (a, .inr (4, [.int (0), .int (50), .int (1), .int (0), .int (0), .int (0), .int (r.b), .int (r.d)])) H56 := u57.2.2
  refine lv_aload_n C.1 C.2.1 d_Re_begin_31 rfl (lv_at hl 0 rfl) ?_
  refine lv_iconst (v := 0) C.1 C.2.1 d_Re_begin_32 (by decide) ?_
  refine hq_put (lo := lo) C f_Re_32 k58 rfl rfl (Nat.le_of_ble_eq_true rfl) hL (by omega) d_Re_begin_33 (fun H59 locs u60 hL => ?_)
  have k61 : va_at D vwCl (a, .inr (4, [.int (0), .int (50), .int (1), .int (0), .int (0), .int (0), .int (0), .int (r.d)])) H59 := u60.2.2
  refine lv_aload_n C.1 C.2.1 d_Re_begin_36 rfl (lv_at hl 0 rfl) ?_
  refine lv_iconst (v := 0) C.1 C.2.1 d_Re_begin_37 (by decide) ?_
  refine hq_put (lo := lo) C f_Re_35 k61 rfl rfl (Nat.le_of_ble_eq_true rfl) hL (by omega) d_Re_begin_38 (fun H62 locs u63 hL => ?_)
  have k64 : va_at D vwCl (a, .inr (4, [.int (0), .int (50), .int (1), .int (0), .int (0), .int (0), .int (0), .int (0)])) H62 := u63.2.2
  have hf : f_Re_begin r = (sRe.mk 0 50 1 0 0 0 0 0) := rfl
  exact hq_vret C hret hlk (Nat.le_of_ble_eq_true rfl) (Nat.le_of_ble_eq_true rfl) hL ⟨rfl, by rw [hf]; exact k64, hq_Sput (hq_Sput (hq_Sput (hq_Sput (hq_Sput (hq_Sput (hq_Sput (hq_Sput (hq_S0) u42 (by omega) (by omega)) u45 (by omega) (by omega)) u48 (by omega) (by omega)) u51 (by omega) (by omega)) u54 (by omega) (by omega)) u57 (by omega) (by omega)) u60 (by omega) (by omega)) u63 (by omega) (by omega)⟩ d_Re_begin_41
def f_Re_readData (r : sRe) (x : Int32) : sRe := (sRe.mk r.p r.c r.l r.e r.g r.i r.b (r.d ||| (x <<< ((((8 * ((r.p - 19) / 8)) + 7) - ((r.p - 19) - (r.p - 19) / 8 * 8)) &&& 31))))
set_option maxHeartbeats 4000000 in
set_option maxRecDepth 100000 in
theorem c_Re_readData (l : Launch) (D : va_G) (cI cZ cN cJ : ClassId) (lo : Nat) (a : Nat) (hlo : lo ≤ a) (r : sRe) (x : Int32) : hq_M l y_Re_readData b_Re_readData 4 none TB { frames := 0, cells := 0, slots := 0, locals := 0 } lo D vwCl (TY cI cZ cN cJ) [.ref (a), .int (x)] (fun U => va_at D vwCl (a, cRe r) U.heap) (fun H v H' => v = none ∧ va_at D vwCl (a, cRe (f_Re_readData r x)) H' ∧ hq_S a 1 H H') := by
  refine hq_ofW (by decide) (Nat.le_of_ble_eq_true rfl) ?_
  intro p e s m below meth c ls C hml hret hlk hnm hl hP
  have hL : hq_L lo [] := hq_L0
  have hl : lv_has ls 4 [(0, .ref (a)), (1, .int (x))] := hl
  have k0 : va_at D vwCl (a, .inr (4, [.int (r.p), .int (r.c), .int (r.l), .int (r.e), .int (r.g), .int (r.i), .int (r.b), .int (r.d)])) s.heap := hP
  refine lv_aload_n C.1 C.2.1 d_Re_readData_0 rfl (lv_at hl 0 rfl) ?_
  refine hq_get (v := .int (r.p)) C f_Re_9 k0 rfl d_Re_readData_1 ?_
  refine lv_bipush (v := 19) C.1 C.2.1 d_Re_readData_4 (by decide) ?_
  refine lv_isub C.1 C.2.1 d_Re_readData_6 ?_
  refine lv_istore_n C.1 C.2.1 d_Re_readData_7 rfl hl (by decide) rfl (lv' := [(2, .int (r.p - 19)), (0, .ref (a)), (1, .int (x))]) (fun ls hl => ?_)
  refine lv_bipush (v := 8) C.1 C.2.1 d_Re_readData_8 (by decide) ?_
  refine lv_iload_n C.1 C.2.1 d_Re_readData_10 rfl (lv_at hl 0 rfl) ?_
  refine lv_bipush (v := 8) C.1 C.2.1 d_Re_readData_11 (by decide) ?_
  refine lv_idiv C.1 C.2.1 d_Re_readData_13 (by decide) ?_
  refine lv_imul C.1 C.2.1 d_Re_readData_14 ?_
  refine lv_bipush (v := 7) C.1 C.2.1 d_Re_readData_15 (by decide) ?_
  refine lv_iadd C.1 C.2.1 d_Re_readData_17 ?_
  refine lv_iload_n C.1 C.2.1 d_Re_readData_18 rfl (lv_at hl 0 rfl) ?_
  refine lv_bipush (v := 8) C.1 C.2.1 d_Re_readData_19 (by decide) ?_
  refine lv_irem C.1 C.2.1 d_Re_readData_21 (by decide) ?_
  refine lv_isub C.1 C.2.1 d_Re_readData_22 ?_
  refine lv_istore_n C.1 C.2.1 d_Re_readData_23 rfl hl (by decide) rfl (lv' := [(3, .int (((8 * ((r.p - 19) / 8)) + 7) - ((r.p - 19) - (r.p - 19) / 8 * 8))), (2, .int (r.p - 19)), (0, .ref (a)), (1, .int (x))]) (fun ls hl => ?_)
  refine lv_aload_n C.1 C.2.1 d_Re_readData_24 rfl (lv_at hl 2 rfl) ?_
  refine lv_dup C.1 C.2.1 d_Re_readData_25 rfl ?_
  refine hq_get (v := .int (r.d)) C f_Re_35 k0 rfl d_Re_readData_26 ?_
  refine lv_iload_n C.1 C.2.1 d_Re_readData_29 rfl (lv_at hl 3 rfl) ?_
  refine lv_iload_n C.1 C.2.1 d_Re_readData_30 rfl (lv_at hl 0 rfl) ?_
  refine lv_ishl C.1 C.2.1 d_Re_readData_31 ?_
  refine lv_ior C.1 C.2.1 d_Re_readData_32 ?_
  refine hq_put (lo := lo) C f_Re_35 k0 rfl rfl (Nat.le_of_ble_eq_true rfl) hL (by omega) d_Re_readData_33 (fun H41 locs u42 hL => ?_)
  have k43 : va_at D vwCl (a, .inr (4, [.int (r.p), .int (r.c), .int (r.l), .int (r.e), .int (r.g), .int (r.i), .int (r.b), .int (r.d ||| (x <<< ((((8 * ((r.p - 19) / 8)) + 7) - ((r.p - 19) - (r.p - 19) / 8 * 8)) &&& 31)))])) H41 := u42.2.2
  have hf : f_Re_readData r x = (sRe.mk r.p r.c r.l r.e r.g r.i r.b (r.d ||| (x <<< ((((8 * ((r.p - 19) / 8)) + 7) - ((r.p - 19) - (r.p - 19) / 8 * 8)) &&& 31)))) := rfl
  exact hq_vret C hret hlk (Nat.le_of_ble_eq_true rfl) (Nat.le_of_ble_eq_true rfl) hL ⟨rfl, by rw [hf]; exact k43, hq_Sput (hq_S0) u42 (by omega) (by omega)⟩ d_Re_readData_36
def f_Re_readCore_142 (r : sRe) (v1 : Int32) : sRe := if (r.p + 1) = 19 then ((sRe.mk (r.p + 1) (f_Co_lengthFor r.b) r.l r.e r.g r.i r.b r.d)) else ((sRe.mk (r.p + 1) r.c r.l r.e r.g r.i r.b r.d))
def f_Re_readCore_46 (r : sRe) (v1 : Int32) : sRe := if r.p < 1 then (if r.p < 15 then (if r.p < 19 then (f_Re_readCore_142 r v1) else (if (19 + (8 * r.b)) ≤ r.p then (f_Re_readCore_142 r v1) else (f_Re_readCore_142 (f_Re_readData r v1) v1))) else (if 19 ≤ r.p then (if r.p < 19 then (f_Re_readCore_142 r v1) else (if (19 + (8 * r.b)) ≤ r.p then (f_Re_readCore_142 r v1) else (f_Re_readCore_142 (f_Re_readData r v1) v1))) else (f_Re_readCore_142 (sRe.mk r.p r.c r.l r.e r.g r.i ((r.b <<< (1 &&& 31)) ||| v1) r.d) v1))) else (if 12 ≤ r.p then (if r.p < 15 then (if r.p < 19 then (f_Re_readCore_142 r v1) else (if (19 + (8 * r.b)) ≤ r.p then (f_Re_readCore_142 r v1) else (f_Re_readCore_142 (f_Re_readData r v1) v1))) else (if 19 ≤ r.p then (if r.p < 19 then (f_Re_readCore_142 r v1) else (if (19 + (8 * r.b)) ≤ r.p then (f_Re_readCore_142 r v1) else (f_Re_readCore_142 (f_Re_readData r v1) v1))) else (f_Re_readCore_142 (sRe.mk r.p r.c r.l r.e r.g r.i ((r.b <<< (1 &&& 31)) ||| v1) r.d) v1))) else (f_Re_readCore_142 (sRe.mk r.p r.c r.l r.e r.g ((r.i <<< (1 &&& 31)) ||| v1) r.b r.d) v1))
def f_Re_readCore (r : sRe) (x : Int32) : sRe := if x = r.l then (if r.p ≤ 0 then (f_Re_readCore_46 (sRe.mk r.p r.c x 1 (f_Co_registerBehind r.g x) r.i r.b r.d) x) else (f_Re_readCore_46 (sRe.mk r.p r.c x (r.e + 1) (f_Co_registerBehind r.g x) r.i r.b r.d) x)) else (f_Re_readCore_46 (sRe.mk r.p r.c x 1 (f_Co_registerBehind r.g x) r.i r.b r.d) x)
set_option maxHeartbeats 4000000 in
set_option maxRecDepth 100000 in
theorem s_Re_readCore_142 {p : Program} {l : Launch} {e : Env} {s : State} {m : MethodId} {args : Array Value} {below : List Frame} {meth : Method} {c : Code} {H : Heap} {locs : List Loc} {ls : Array Slot} (D : va_G) (cI cZ cN cJ : ClassId) (lo a : Nat) (hlo : lo ≤ a) (r : sRe) (v1 : Int32) {R9 : sRe} (hR : f_Re_readCore_142 r v1 = R9) (C : hq_C p c s m args R_Re b_Re_readCore TB D vwCl (TY cI cZ cN cJ)) (hml : c.maxLocals = 2) (hret : meth.sig.returnType = none) (hlk : meth.locks = false) (hL : hq_L lo locs) (k0 : va_at D vwCl (a, .inr (4, [.int (r.p), .int (r.c), .int (r.l), .int (r.e), .int (r.g), .int (r.i), .int (r.b), .int (r.d)])) H) (hS : hq_S a 1 s.heap H) (hl : lv_has ls 2 [(0, .ref (a)), (1, .int (v1))]) : W p l e { frames := 1, cells := 0, slots := 0, locals := 23 } s m args below meth c H locs 0 0 (MQ below (hq_Q (fun H v H' => v = none ∧ va_at D vwCl (a, cRe (R9)) H' ∧ hq_S a 1 H H')) args s 0 0 (fun q => lo ≤ q)) (F0 m 142 ls []) := by
  refine lv_aload_n C.1 C.2.1 d_Re_readCore_142 rfl (lv_at hl 0 rfl) ?_
  refine lv_dup C.1 C.2.1 d_Re_readCore_143 rfl ?_
  refine hq_get (v := .int (r.p)) C f_Re_9 k0 rfl d_Re_readCore_144 ?_
  refine lv_iconst (v := 1) C.1 C.2.1 d_Re_readCore_147 (by decide) ?_
  refine lv_iadd C.1 C.2.1 d_Re_readCore_148 ?_
  refine hq_put (lo := lo) C f_Re_9 k0 rfl rfl (Nat.le_of_ble_eq_true rfl) hL (by omega) d_Re_readCore_149 (fun H61 locs u62 hL => ?_)
  have k63 : va_at D vwCl (a, .inr (4, [.int (r.p + 1), .int (r.c), .int (r.l), .int (r.e), .int (r.g), .int (r.i), .int (r.b), .int (r.d)])) H61 := u62.2.2
  refine lv_aload_n C.1 C.2.1 d_Re_readCore_152 rfl (lv_at hl 0 rfl) ?_
  refine hq_get (v := .int (r.p + 1)) C f_Re_9 k63 rfl d_Re_readCore_153 ?_
  refine lv_bipush (v := 19) C.1 C.2.1 d_Re_readCore_156 (by decide) ?_
  refine lv_icmp_ne (tgt := 172) C.1 C.2.1 d_Re_readCore_158 (by decide) ?_ ?_
  · intro c64
    have hf : R9 = (sRe.mk (r.p + 1) r.c r.l r.e r.g r.i r.b r.d) := by rw [← hR]; unfold f_Re_readCore_142; rw [if_neg c64]
    exact hq_vret C hret hlk (Nat.le_of_ble_eq_true rfl) (Nat.le_of_ble_eq_true rfl) hL ⟨rfl, by rw [hf]; exact k63, hq_Sput (hS) u62 (by omega) (by omega)⟩ d_Re_readCore_172
  · intro c64
    refine lv_aload_n C.1 C.2.1 d_Re_readCore_161 rfl (lv_at hl 0 rfl) ?_
    refine lv_aload_n C.1 C.2.1 d_Re_readCore_162 rfl (lv_at hl 0 rfl) ?_
    refine hq_get (v := .int (r.b)) C f_Re_32 k63 rfl d_Re_readCore_163 ?_
    refine hq_callS (lo := lo) (As := [.int (r.b)]) (rest := [.ref (a)]) C tb_good hml Y_Re_62 (c_Co_lengthFor l D cI cZ cN cJ lo r.b) (fun _ _ _ _ h => h) (fun U hU hW => trivial) hL hl.1 rfl rfl ⟨⟨Nat.le_of_ble_eq_true rfl, Nat.le_of_ble_eq_true rfl⟩, Nat.le_of_ble_eq_true rfl, Nat.le_of_ble_eq_true rfl⟩ (Nat.le_of_ble_eq_true rfl) d_Re_readCore_166 (fun v H65 locs hp hL => ?_)
    obtain ⟨rfl, rfl⟩ := hp
    refine W.eq (g2 := F0 m 169 ls [.int (f_Co_lengthFor r.b), .ref (a)]) rfl ?_
    refine hq_put (lo := lo) C f_Re_17 k63 rfl rfl (Nat.le_of_ble_eq_true rfl) hL (by omega) d_Re_readCore_169 (fun H66 locs u67 hL => ?_)
    have k68 : va_at D vwCl (a, .inr (4, [.int (r.p + 1), .int (f_Co_lengthFor r.b), .int (r.l), .int (r.e), .int (r.g), .int (r.i), .int (r.b), .int (r.d)])) H66 := u67.2.2
    have hf : R9 = (sRe.mk (r.p + 1) (f_Co_lengthFor r.b) r.l r.e r.g r.i r.b r.d) := by rw [← hR]; unfold f_Re_readCore_142; rw [if_pos c64]
    exact hq_vret C hret hlk (Nat.le_of_ble_eq_true rfl) (Nat.le_of_ble_eq_true rfl) hL ⟨rfl, by rw [hf]; exact k68, hq_Sput (hq_Sput (hS) u62 (by omega) (by omega)) u67 (by omega) (by omega)⟩ d_Re_readCore_172
set_option maxHeartbeats 4000000 in
set_option maxRecDepth 100000 in
theorem s_Re_readCore_46 {p : Program} {l : Launch} {e : Env} {s : State} {m : MethodId} {args : Array Value} {below : List Frame} {meth : Method} {c : Code} {H : Heap} {locs : List Loc} {ls : Array Slot} (D : va_G) (cI cZ cN cJ : ClassId) (lo a : Nat) (hlo : lo ≤ a) (r : sRe) (v1 : Int32) {R9 : sRe} (hR : f_Re_readCore_46 r v1 = R9) (C : hq_C p c s m args R_Re b_Re_readCore TB D vwCl (TY cI cZ cN cJ)) (hml : c.maxLocals = 2) (hret : meth.sig.returnType = none) (hlk : meth.locks = false) (hL : hq_L lo locs) (k0 : va_at D vwCl (a, .inr (4, [.int (r.p), .int (r.c), .int (r.l), .int (r.e), .int (r.g), .int (r.i), .int (r.b), .int (r.d)])) H) (hS : hq_S a 1 s.heap H) (hl : lv_has ls 2 [(0, .ref (a)), (1, .int (v1))]) : W p l e { frames := 1, cells := 0, slots := 0, locals := 23 } s m args below meth c H locs 0 0 (MQ below (hq_Q (fun H v H' => v = none ∧ va_at D vwCl (a, cRe (R9)) H' ∧ hq_S a 1 H H')) args s 0 0 (fun q => lo ≤ q)) (F0 m 46 ls []) := by
  refine lv_aload_n C.1 C.2.1 d_Re_readCore_46 rfl (lv_at hl 0 rfl) ?_
  refine hq_get (v := .int (r.p)) C f_Re_9 k0 rfl d_Re_readCore_47 ?_
  refine lv_iconst (v := 1) C.1 C.2.1 d_Re_readCore_50 (by decide) ?_
  refine lv_icmp_lt (tgt := 78) C.1 C.2.1 d_Re_readCore_51 (by decide) ?_ ?_
  · intro c61
    refine lv_aload_n C.1 C.2.1 d_Re_readCore_78 rfl (lv_at hl 0 rfl) ?_
    refine hq_get (v := .int (r.p)) C f_Re_9 k0 rfl d_Re_readCore_79 ?_
    refine lv_bipush (v := 15) C.1 C.2.1 d_Re_readCore_82 (by decide) ?_
    refine lv_icmp_lt (tgt := 111) C.1 C.2.1 d_Re_readCore_84 (by decide) ?_ ?_
    · intro c62
      refine lv_aload_n C.1 C.2.1 d_Re_readCore_111 rfl (lv_at hl 0 rfl) ?_
      refine hq_get (v := .int (r.p)) C f_Re_9 k0 rfl d_Re_readCore_112 ?_
      refine lv_bipush (v := 19) C.1 C.2.1 d_Re_readCore_115 (by decide) ?_
      refine lv_icmp_lt (tgt := 142) C.1 C.2.1 d_Re_readCore_117 (by decide) ?_ ?_
      · intro c63
        exact s_Re_readCore_142 D cI cZ cN cJ lo a hlo r v1 ((show f_Re_readCore_142 r v1 = f_Re_readCore_46 r v1 from (show f_Re_readCore_46 r v1 = f_Re_readCore_142 r v1 from by unfold f_Re_readCore_46; rw [if_pos c61, if_pos c62, if_pos c63]).symm).trans hR) C hml hret hlk hL k0 (hS) (lv_push (lv_push (lv_nil hl) (lv_at hl 1 rfl)) (lv_at hl 0 rfl))
      · intro c63
        refine lv_aload_n C.1 C.2.1 d_Re_readCore_120 rfl (lv_at hl 0 rfl) ?_
        refine hq_get (v := .int (r.p)) C f_Re_9 k0 rfl d_Re_readCore_121 ?_
        refine lv_bipush (v := 19) C.1 C.2.1 d_Re_readCore_124 (by decide) ?_
        refine lv_bipush (v := 8) C.1 C.2.1 d_Re_readCore_126 (by decide) ?_
        refine lv_aload_n C.1 C.2.1 d_Re_readCore_128 rfl (lv_at hl 0 rfl) ?_
        refine hq_get (v := .int (r.b)) C f_Re_32 k0 rfl d_Re_readCore_129 ?_
        refine lv_imul C.1 C.2.1 d_Re_readCore_132 ?_
        refine lv_iadd C.1 C.2.1 d_Re_readCore_133 ?_
        refine lv_icmp_ge (tgt := 142) C.1 C.2.1 d_Re_readCore_134 (by decide) ?_ ?_
        · intro c64
          exact s_Re_readCore_142 D cI cZ cN cJ lo a hlo r v1 ((show f_Re_readCore_142 r v1 = f_Re_readCore_46 r v1 from (show f_Re_readCore_46 r v1 = f_Re_readCore_142 r v1 from by unfold f_Re_readCore_46; rw [if_pos c61, if_pos c62, if_neg c63, if_pos c64]).symm).trans hR) C hml hret hlk hL k0 (hS) (lv_push (lv_push (lv_nil hl) (lv_at hl 1 rfl)) (lv_at hl 0 rfl))
        · intro c64
          refine lv_aload_n C.1 C.2.1 d_Re_readCore_137 rfl (lv_at hl 0 rfl) ?_
          refine lv_iload_n C.1 C.2.1 d_Re_readCore_138 rfl (lv_at hl 1 rfl) ?_
          refine hq_callV (lo := lo) (As := [.int (v1)]) (rest := []) C tb_good hml Y_Re_59 (c_Re_readData l D cI cZ cN cJ lo a (by omega) r v1) k0 rfl (fun _ _ _ _ h => h) (fun U hU hW => by show va_at D vwCl (a, .inr (4, [.int (r.p), .int (r.c), .int (r.l), .int (r.e), .int (r.g), .int (r.i), .int (r.b), .int (r.d)])) U.heap; rw [hU]; exact k0) hL hl.1 rfl rfl ⟨⟨Nat.le_of_ble_eq_true rfl, Nat.le_of_ble_eq_true rfl⟩, Nat.le_of_ble_eq_true rfl, Nat.le_of_ble_eq_true rfl⟩ (Nat.le_of_ble_eq_true rfl) d_Re_readCore_139 (fun v H67 locs hp hL => ?_)
          obtain ⟨rfl, k66, S65⟩ := hp
          refine W.eq (g2 := F0 m 142 ls []) rfl ?_
          exact s_Re_readCore_142 D cI cZ cN cJ lo a hlo (f_Re_readData r v1) v1 ((show f_Re_readCore_142 (f_Re_readData r v1) v1 = f_Re_readCore_46 r v1 from (show f_Re_readCore_46 r v1 = f_Re_readCore_142 (f_Re_readData r v1) v1 from by unfold f_Re_readCore_46; rw [if_pos c61, if_pos c62, if_neg c63, if_neg c64]).symm).trans hR) C hml hret hlk hL k66 (hq_Scall (hS) S65 (by omega) (by omega)) (lv_push (lv_push (lv_nil hl) (lv_at hl 1 rfl)) (lv_at hl 0 rfl))
    · intro c62
      refine lv_aload_n C.1 C.2.1 d_Re_readCore_87 rfl (lv_at hl 0 rfl) ?_
      refine hq_get (v := .int (r.p)) C f_Re_9 k0 rfl d_Re_readCore_88 ?_
      refine lv_bipush (v := 19) C.1 C.2.1 d_Re_readCore_91 (by decide) ?_
      refine lv_icmp_ge (tgt := 111) C.1 C.2.1 d_Re_readCore_93 (by decide) ?_ ?_
      · intro c68
        refine lv_aload_n C.1 C.2.1 d_Re_readCore_111 rfl (lv_at hl 0 rfl) ?_
        refine hq_get (v := .int (r.p)) C f_Re_9 k0 rfl d_Re_readCore_112 ?_
        refine lv_bipush (v := 19) C.1 C.2.1 d_Re_readCore_115 (by decide) ?_
        refine lv_icmp_lt (tgt := 142) C.1 C.2.1 d_Re_readCore_117 (by decide) ?_ ?_
        · intro c69
          exact s_Re_readCore_142 D cI cZ cN cJ lo a hlo r v1 ((show f_Re_readCore_142 r v1 = f_Re_readCore_46 r v1 from (show f_Re_readCore_46 r v1 = f_Re_readCore_142 r v1 from by unfold f_Re_readCore_46; rw [if_pos c61, if_neg c62, if_pos c68, if_pos c69]).symm).trans hR) C hml hret hlk hL k0 (hS) (lv_push (lv_push (lv_nil hl) (lv_at hl 1 rfl)) (lv_at hl 0 rfl))
        · intro c69
          refine lv_aload_n C.1 C.2.1 d_Re_readCore_120 rfl (lv_at hl 0 rfl) ?_
          refine hq_get (v := .int (r.p)) C f_Re_9 k0 rfl d_Re_readCore_121 ?_
          refine lv_bipush (v := 19) C.1 C.2.1 d_Re_readCore_124 (by decide) ?_
          refine lv_bipush (v := 8) C.1 C.2.1 d_Re_readCore_126 (by decide) ?_
          refine lv_aload_n C.1 C.2.1 d_Re_readCore_128 rfl (lv_at hl 0 rfl) ?_
          refine hq_get (v := .int (r.b)) C f_Re_32 k0 rfl d_Re_readCore_129 ?_
          refine lv_imul C.1 C.2.1 d_Re_readCore_132 ?_
          refine lv_iadd C.1 C.2.1 d_Re_readCore_133 ?_
          refine lv_icmp_ge (tgt := 142) C.1 C.2.1 d_Re_readCore_134 (by decide) ?_ ?_
          · intro c70
            exact s_Re_readCore_142 D cI cZ cN cJ lo a hlo r v1 ((show f_Re_readCore_142 r v1 = f_Re_readCore_46 r v1 from (show f_Re_readCore_46 r v1 = f_Re_readCore_142 r v1 from by unfold f_Re_readCore_46; rw [if_pos c61, if_neg c62, if_pos c68, if_neg c69, if_pos c70]).symm).trans hR) C hml hret hlk hL k0 (hS) (lv_push (lv_push (lv_nil hl) (lv_at hl 1 rfl)) (lv_at hl 0 rfl))
          · intro c70
            refine lv_aload_n C.1 C.2.1 d_Re_readCore_137 rfl (lv_at hl 0 rfl) ?_
            refine lv_iload_n C.1 C.2.1 d_Re_readCore_138 rfl (lv_at hl 1 rfl) ?_
            refine hq_callV (lo := lo) (As := [.int (v1)]) (rest := []) C tb_good hml Y_Re_59 (c_Re_readData l D cI cZ cN cJ lo a (by omega) r v1) k0 rfl (fun _ _ _ _ h => h) (fun U hU hW => by show va_at D vwCl (a, .inr (4, [.int (r.p), .int (r.c), .int (r.l), .int (r.e), .int (r.g), .int (r.i), .int (r.b), .int (r.d)])) U.heap; rw [hU]; exact k0) hL hl.1 rfl rfl ⟨⟨Nat.le_of_ble_eq_true rfl, Nat.le_of_ble_eq_true rfl⟩, Nat.le_of_ble_eq_true rfl, Nat.le_of_ble_eq_true rfl⟩ (Nat.le_of_ble_eq_true rfl) d_Re_readCore_139 (fun v H73 locs hp hL => ?_)
            obtain ⟨rfl, k72, S71⟩ := hp
            refine W.eq (g2 := F0 m 142 ls []) rfl ?_
            exact s_Re_readCore_142 D cI cZ cN cJ lo a hlo (f_Re_readData r v1) v1 ((show f_Re_readCore_142 (f_Re_readData r v1) v1 = f_Re_readCore_46 r v1 from (show f_Re_readCore_46 r v1 = f_Re_readCore_142 (f_Re_readData r v1) v1 from by unfold f_Re_readCore_46; rw [if_pos c61, if_neg c62, if_pos c68, if_neg c69, if_neg c70]).symm).trans hR) C hml hret hlk hL k72 (hq_Scall (hS) S71 (by omega) (by omega)) (lv_push (lv_push (lv_nil hl) (lv_at hl 1 rfl)) (lv_at hl 0 rfl))
      · intro c68
        refine lv_aload_n C.1 C.2.1 d_Re_readCore_96 rfl (lv_at hl 0 rfl) ?_
        refine lv_aload_n C.1 C.2.1 d_Re_readCore_97 rfl (lv_at hl 0 rfl) ?_
        refine hq_get (v := .int (r.b)) C f_Re_32 k0 rfl d_Re_readCore_98 ?_
        refine lv_iconst (v := 1) C.1 C.2.1 d_Re_readCore_101 (by decide) ?_
        refine lv_ishl C.1 C.2.1 d_Re_readCore_102 ?_
        refine lv_iload_n C.1 C.2.1 d_Re_readCore_103 rfl (lv_at hl 1 rfl) ?_
        refine lv_ior C.1 C.2.1 d_Re_readCore_104 ?_
        refine hq_put (lo := lo) C f_Re_32 k0 rfl rfl (Nat.le_of_ble_eq_true rfl) hL (by omega) d_Re_readCore_105 (fun H74 locs u75 hL => ?_)
        have k76 : va_at D vwCl (a, .inr (4, [.int (r.p), .int (r.c), .int (r.l), .int (r.e), .int (r.g), .int (r.i), .int ((r.b <<< (1 &&& 31)) ||| v1), .int (r.d)])) H74 := u75.2.2
        refine lv_goto (tgt := 142) C.1 C.2.1 d_Re_readCore_108 (by decide) ?_
        exact s_Re_readCore_142 D cI cZ cN cJ lo a hlo (sRe.mk r.p r.c r.l r.e r.g r.i ((r.b <<< (1 &&& 31)) ||| v1) r.d) v1 ((show f_Re_readCore_142 (sRe.mk r.p r.c r.l r.e r.g r.i ((r.b <<< (1 &&& 31)) ||| v1) r.d) v1 = f_Re_readCore_46 r v1 from (show f_Re_readCore_46 r v1 = f_Re_readCore_142 (sRe.mk r.p r.c r.l r.e r.g r.i ((r.b <<< (1 &&& 31)) ||| v1) r.d) v1 from by unfold f_Re_readCore_46; rw [if_pos c61, if_neg c62, if_neg c68]).symm).trans hR) C hml hret hlk hL k76 (hq_Sput (hS) u75 (by omega) (by omega)) (lv_push (lv_push (lv_nil hl) (lv_at hl 1 rfl)) (lv_at hl 0 rfl))
  · intro c61
    refine lv_aload_n C.1 C.2.1 d_Re_readCore_54 rfl (lv_at hl 0 rfl) ?_
    refine hq_get (v := .int (r.p)) C f_Re_9 k0 rfl d_Re_readCore_55 ?_
    refine lv_bipush (v := 12) C.1 C.2.1 d_Re_readCore_58 (by decide) ?_
    refine lv_icmp_ge (tgt := 78) C.1 C.2.1 d_Re_readCore_60 (by decide) ?_ ?_
    · intro c77
      refine lv_aload_n C.1 C.2.1 d_Re_readCore_78 rfl (lv_at hl 0 rfl) ?_
      refine hq_get (v := .int (r.p)) C f_Re_9 k0 rfl d_Re_readCore_79 ?_
      refine lv_bipush (v := 15) C.1 C.2.1 d_Re_readCore_82 (by decide) ?_
      refine lv_icmp_lt (tgt := 111) C.1 C.2.1 d_Re_readCore_84 (by decide) ?_ ?_
      · intro c78
        refine lv_aload_n C.1 C.2.1 d_Re_readCore_111 rfl (lv_at hl 0 rfl) ?_
        refine hq_get (v := .int (r.p)) C f_Re_9 k0 rfl d_Re_readCore_112 ?_
        refine lv_bipush (v := 19) C.1 C.2.1 d_Re_readCore_115 (by decide) ?_
        refine lv_icmp_lt (tgt := 142) C.1 C.2.1 d_Re_readCore_117 (by decide) ?_ ?_
        · intro c79
          exact s_Re_readCore_142 D cI cZ cN cJ lo a hlo r v1 ((show f_Re_readCore_142 r v1 = f_Re_readCore_46 r v1 from (show f_Re_readCore_46 r v1 = f_Re_readCore_142 r v1 from by unfold f_Re_readCore_46; rw [if_neg c61, if_pos c77, if_pos c78, if_pos c79]).symm).trans hR) C hml hret hlk hL k0 (hS) (lv_push (lv_push (lv_nil hl) (lv_at hl 1 rfl)) (lv_at hl 0 rfl))
        · intro c79
          refine lv_aload_n C.1 C.2.1 d_Re_readCore_120 rfl (lv_at hl 0 rfl) ?_
          refine hq_get (v := .int (r.p)) C f_Re_9 k0 rfl d_Re_readCore_121 ?_
          refine lv_bipush (v := 19) C.1 C.2.1 d_Re_readCore_124 (by decide) ?_
          refine lv_bipush (v := 8) C.1 C.2.1 d_Re_readCore_126 (by decide) ?_
          refine lv_aload_n C.1 C.2.1 d_Re_readCore_128 rfl (lv_at hl 0 rfl) ?_
          refine hq_get (v := .int (r.b)) C f_Re_32 k0 rfl d_Re_readCore_129 ?_
          refine lv_imul C.1 C.2.1 d_Re_readCore_132 ?_
          refine lv_iadd C.1 C.2.1 d_Re_readCore_133 ?_
          refine lv_icmp_ge (tgt := 142) C.1 C.2.1 d_Re_readCore_134 (by decide) ?_ ?_
          · intro c80
            exact s_Re_readCore_142 D cI cZ cN cJ lo a hlo r v1 ((show f_Re_readCore_142 r v1 = f_Re_readCore_46 r v1 from (show f_Re_readCore_46 r v1 = f_Re_readCore_142 r v1 from by unfold f_Re_readCore_46; rw [if_neg c61, if_pos c77, if_pos c78, if_neg c79, if_pos c80]).symm).trans hR) C hml hret hlk hL k0 (hS) (lv_push (lv_push (lv_nil hl) (lv_at hl 1 rfl)) (lv_at hl 0 rfl))
          · intro c80
            refine lv_aload_n C.1 C.2.1 d_Re_readCore_137 rfl (lv_at hl 0 rfl) ?_
            refine lv_iload_n C.1 C.2.1 d_Re_readCore_138 rfl (lv_at hl 1 rfl) ?_
            refine hq_callV (lo := lo) (As := [.int (v1)]) (rest := []) C tb_good hml Y_Re_59 (c_Re_readData l D cI cZ cN cJ lo a (by omega) r v1) k0 rfl (fun _ _ _ _ h => h) (fun U hU hW => by show va_at D vwCl (a, .inr (4, [.int (r.p), .int (r.c), .int (r.l), .int (r.e), .int (r.g), .int (r.i), .int (r.b), .int (r.d)])) U.heap; rw [hU]; exact k0) hL hl.1 rfl rfl ⟨⟨Nat.le_of_ble_eq_true rfl, Nat.le_of_ble_eq_true rfl⟩, Nat.le_of_ble_eq_true rfl, Nat.le_of_ble_eq_true rfl⟩ (Nat.le_of_ble_eq_true rfl) d_Re_readCore_139 (fun v H83 locs hp hL => ?_)
            obtain ⟨rfl, k82, S81⟩ := hp
            refine W.eq (g2 := F0 m 142 ls []) rfl ?_
            exact s_Re_readCore_142 D cI cZ cN cJ lo a hlo (f_Re_readData r v1) v1 ((show f_Re_readCore_142 (f_Re_readData r v1) v1 = f_Re_readCore_46 r v1 from (show f_Re_readCore_46 r v1 = f_Re_readCore_142 (f_Re_readData r v1) v1 from by unfold f_Re_readCore_46; rw [if_neg c61, if_pos c77, if_pos c78, if_neg c79, if_neg c80]).symm).trans hR) C hml hret hlk hL k82 (hq_Scall (hS) S81 (by omega) (by omega)) (lv_push (lv_push (lv_nil hl) (lv_at hl 1 rfl)) (lv_at hl 0 rfl))
      · intro c78
        refine lv_aload_n C.1 C.2.1 d_Re_readCore_87 rfl (lv_at hl 0 rfl) ?_
        refine hq_get (v := .int (r.p)) C f_Re_9 k0 rfl d_Re_readCore_88 ?_
        refine lv_bipush (v := 19) C.1 C.2.1 d_Re_readCore_91 (by decide) ?_
        refine lv_icmp_ge (tgt := 111) C.1 C.2.1 d_Re_readCore_93 (by decide) ?_ ?_
        · intro c84
          refine lv_aload_n C.1 C.2.1 d_Re_readCore_111 rfl (lv_at hl 0 rfl) ?_
          refine hq_get (v := .int (r.p)) C f_Re_9 k0 rfl d_Re_readCore_112 ?_
          refine lv_bipush (v := 19) C.1 C.2.1 d_Re_readCore_115 (by decide) ?_
          refine lv_icmp_lt (tgt := 142) C.1 C.2.1 d_Re_readCore_117 (by decide) ?_ ?_
          · intro c85
            exact s_Re_readCore_142 D cI cZ cN cJ lo a hlo r v1 ((show f_Re_readCore_142 r v1 = f_Re_readCore_46 r v1 from (show f_Re_readCore_46 r v1 = f_Re_readCore_142 r v1 from by unfold f_Re_readCore_46; rw [if_neg c61, if_pos c77, if_neg c78, if_pos c84, if_pos c85]).symm).trans hR) C hml hret hlk hL k0 (hS) (lv_push (lv_push (lv_nil hl) (lv_at hl 1 rfl)) (lv_at hl 0 rfl))
          · intro c85
            refine lv_aload_n C.1 C.2.1 d_Re_readCore_120 rfl (lv_at hl 0 rfl) ?_
            refine hq_get (v := .int (r.p)) C f_Re_9 k0 rfl d_Re_readCore_121 ?_
            refine lv_bipush (v := 19) C.1 C.2.1 d_Re_readCore_124 (by decide) ?_
            refine lv_bipush (v := 8) C.1 C.2.1 d_Re_readCore_126 (by decide) ?_
            refine lv_aload_n C.1 C.2.1 d_Re_readCore_128 rfl (lv_at hl 0 rfl) ?_
            refine hq_get (v := .int (r.b)) C f_Re_32 k0 rfl d_Re_readCore_129 ?_
            refine lv_imul C.1 C.2.1 d_Re_readCore_132 ?_
            refine lv_iadd C.1 C.2.1 d_Re_readCore_133 ?_
            refine lv_icmp_ge (tgt := 142) C.1 C.2.1 d_Re_readCore_134 (by decide) ?_ ?_
            · intro c86
              exact s_Re_readCore_142 D cI cZ cN cJ lo a hlo r v1 ((show f_Re_readCore_142 r v1 = f_Re_readCore_46 r v1 from (show f_Re_readCore_46 r v1 = f_Re_readCore_142 r v1 from by unfold f_Re_readCore_46; rw [if_neg c61, if_pos c77, if_neg c78, if_pos c84, if_neg c85, if_pos c86]).symm).trans hR) C hml hret hlk hL k0 (hS) (lv_push (lv_push (lv_nil hl) (lv_at hl 1 rfl)) (lv_at hl 0 rfl))
            · intro c86
              refine lv_aload_n C.1 C.2.1 d_Re_readCore_137 rfl (lv_at hl 0 rfl) ?_
              refine lv_iload_n C.1 C.2.1 d_Re_readCore_138 rfl (lv_at hl 1 rfl) ?_
              refine hq_callV (lo := lo) (As := [.int (v1)]) (rest := []) C tb_good hml Y_Re_59 (c_Re_readData l D cI cZ cN cJ lo a (by omega) r v1) k0 rfl (fun _ _ _ _ h => h) (fun U hU hW => by show va_at D vwCl (a, .inr (4, [.int (r.p), .int (r.c), .int (r.l), .int (r.e), .int (r.g), .int (r.i), .int (r.b), .int (r.d)])) U.heap; rw [hU]; exact k0) hL hl.1 rfl rfl ⟨⟨Nat.le_of_ble_eq_true rfl, Nat.le_of_ble_eq_true rfl⟩, Nat.le_of_ble_eq_true rfl, Nat.le_of_ble_eq_true rfl⟩ (Nat.le_of_ble_eq_true rfl) d_Re_readCore_139 (fun v H89 locs hp hL => ?_)
              obtain ⟨rfl, k88, S87⟩ := hp
              refine W.eq (g2 := F0 m 142 ls []) rfl ?_
              exact s_Re_readCore_142 D cI cZ cN cJ lo a hlo (f_Re_readData r v1) v1 ((show f_Re_readCore_142 (f_Re_readData r v1) v1 = f_Re_readCore_46 r v1 from (show f_Re_readCore_46 r v1 = f_Re_readCore_142 (f_Re_readData r v1) v1 from by unfold f_Re_readCore_46; rw [if_neg c61, if_pos c77, if_neg c78, if_pos c84, if_neg c85, if_neg c86]).symm).trans hR) C hml hret hlk hL k88 (hq_Scall (hS) S87 (by omega) (by omega)) (lv_push (lv_push (lv_nil hl) (lv_at hl 1 rfl)) (lv_at hl 0 rfl))
        · intro c84
          refine lv_aload_n C.1 C.2.1 d_Re_readCore_96 rfl (lv_at hl 0 rfl) ?_
          refine lv_aload_n C.1 C.2.1 d_Re_readCore_97 rfl (lv_at hl 0 rfl) ?_
          refine hq_get (v := .int (r.b)) C f_Re_32 k0 rfl d_Re_readCore_98 ?_
          refine lv_iconst (v := 1) C.1 C.2.1 d_Re_readCore_101 (by decide) ?_
          refine lv_ishl C.1 C.2.1 d_Re_readCore_102 ?_
          refine lv_iload_n C.1 C.2.1 d_Re_readCore_103 rfl (lv_at hl 1 rfl) ?_
          refine lv_ior C.1 C.2.1 d_Re_readCore_104 ?_
          refine hq_put (lo := lo) C f_Re_32 k0 rfl rfl (Nat.le_of_ble_eq_true rfl) hL (by omega) d_Re_readCore_105 (fun H90 locs u91 hL => ?_)
          have k92 : va_at D vwCl (a, .inr (4, [.int (r.p), .int (r.c), .int (r.l), .int (r.e), .int (r.g), .int (r.i), .int ((r.b <<< (1 &&& 31)) ||| v1), .int (r.d)])) H90 := u91.2.2
          refine lv_goto (tgt := 142) C.1 C.2.1 d_Re_readCore_108 (by decide) ?_
          exact s_Re_readCore_142 D cI cZ cN cJ lo a hlo (sRe.mk r.p r.c r.l r.e r.g r.i ((r.b <<< (1 &&& 31)) ||| v1) r.d) v1 ((show f_Re_readCore_142 (sRe.mk r.p r.c r.l r.e r.g r.i ((r.b <<< (1 &&& 31)) ||| v1) r.d) v1 = f_Re_readCore_46 r v1 from (show f_Re_readCore_46 r v1 = f_Re_readCore_142 (sRe.mk r.p r.c r.l r.e r.g r.i ((r.b <<< (1 &&& 31)) ||| v1) r.d) v1 from by unfold f_Re_readCore_46; rw [if_neg c61, if_pos c77, if_neg c78, if_neg c84]).symm).trans hR) C hml hret hlk hL k92 (hq_Sput (hS) u91 (by omega) (by omega)) (lv_push (lv_push (lv_nil hl) (lv_at hl 1 rfl)) (lv_at hl 0 rfl))
    · intro c77
      refine lv_aload_n C.1 C.2.1 d_Re_readCore_63 rfl (lv_at hl 0 rfl) ?_
      refine lv_aload_n C.1 C.2.1 d_Re_readCore_64 rfl (lv_at hl 0 rfl) ?_
      refine hq_get (v := .int (r.i)) C f_Re_29 k0 rfl d_Re_readCore_65 ?_
      refine lv_iconst (v := 1) C.1 C.2.1 d_Re_readCore_68 (by decide) ?_
      refine lv_ishl C.1 C.2.1 d_Re_readCore_69 ?_
      refine lv_iload_n C.1 C.2.1 d_Re_readCore_70 rfl (lv_at hl 1 rfl) ?_
      refine lv_ior C.1 C.2.1 d_Re_readCore_71 ?_
      refine hq_put (lo := lo) C f_Re_29 k0 rfl rfl (Nat.le_of_ble_eq_true rfl) hL (by omega) d_Re_readCore_72 (fun H93 locs u94 hL => ?_)
      have k95 : va_at D vwCl (a, .inr (4, [.int (r.p), .int (r.c), .int (r.l), .int (r.e), .int (r.g), .int ((r.i <<< (1 &&& 31)) ||| v1), .int (r.b), .int (r.d)])) H93 := u94.2.2
      refine lv_goto (tgt := 142) C.1 C.2.1 d_Re_readCore_75 (by decide) ?_
      exact s_Re_readCore_142 D cI cZ cN cJ lo a hlo (sRe.mk r.p r.c r.l r.e r.g ((r.i <<< (1 &&& 31)) ||| v1) r.b r.d) v1 ((show f_Re_readCore_142 (sRe.mk r.p r.c r.l r.e r.g ((r.i <<< (1 &&& 31)) ||| v1) r.b r.d) v1 = f_Re_readCore_46 r v1 from (show f_Re_readCore_46 r v1 = f_Re_readCore_142 (sRe.mk r.p r.c r.l r.e r.g ((r.i <<< (1 &&& 31)) ||| v1) r.b r.d) v1 from by unfold f_Re_readCore_46; rw [if_neg c61, if_neg c77]).symm).trans hR) C hml hret hlk hL k95 (hq_Sput (hS) u94 (by omega) (by omega)) (lv_push (lv_push (lv_nil hl) (lv_at hl 1 rfl)) (lv_at hl 0 rfl))
set_option maxHeartbeats 4000000 in
set_option maxRecDepth 100000 in
theorem c_Re_readCore (l : Launch) (D : va_G) (cI cZ cN cJ : ClassId) (lo : Nat) (a : Nat) (hlo : lo ≤ a) (r : sRe) (x : Int32) : hq_M l y_Re_readCore b_Re_readCore 2 none TB { frames := 1, cells := 0, slots := 0, locals := 23 } lo D vwCl (TY cI cZ cN cJ) [.ref (a), .int (x)] (fun U => va_at D vwCl (a, cRe r) U.heap) (fun H v H' => v = none ∧ va_at D vwCl (a, cRe (f_Re_readCore r x)) H' ∧ hq_S a 1 H H') := by
  refine hq_ofW (by decide) (Nat.le_of_ble_eq_true rfl) ?_
  intro p e s m below meth c ls C hml hret hlk hnm hl hP
  have hL : hq_L lo [] := hq_L0
  have hl : lv_has ls 2 [(0, .ref (a)), (1, .int (x))] := hl
  have k0 : va_at D vwCl (a, .inr (4, [.int (r.p), .int (r.c), .int (r.l), .int (r.e), .int (r.g), .int (r.i), .int (r.b), .int (r.d)])) s.heap := hP
  refine lv_aload_n C.1 C.2.1 d_Re_readCore_0 rfl (lv_at hl 0 rfl) ?_
  refine lv_iload_n C.1 C.2.1 d_Re_readCore_1 rfl (lv_at hl 1 rfl) ?_
  refine lv_aload_n C.1 C.2.1 d_Re_readCore_2 rfl (lv_at hl 0 rfl) ?_
  refine hq_get (v := .int (r.l)) C f_Re_20 k0 rfl d_Re_readCore_3 ?_
  refine lv_icmp_ne (tgt := 25) C.1 C.2.1 d_Re_readCore_6 (by decide) ?_ ?_
  · intro c41
    refine lv_iconst (v := 1) C.1 C.2.1 d_Re_readCore_25 (by decide) ?_
    refine hq_put (lo := lo) C f_Re_23 k0 rfl rfl (Nat.le_of_ble_eq_true rfl) hL (by omega) d_Re_readCore_26 (fun H42 locs u43 hL => ?_)
    have k44 : va_at D vwCl (a, .inr (4, [.int (r.p), .int (r.c), .int (r.l), .int (1), .int (r.g), .int (r.i), .int (r.b), .int (r.d)])) H42 := u43.2.2
    refine lv_aload_n C.1 C.2.1 d_Re_readCore_29 rfl (lv_at hl 0 rfl) ?_
    refine lv_iload_n C.1 C.2.1 d_Re_readCore_30 rfl (lv_at hl 1 rfl) ?_
    refine hq_put (lo := lo) C f_Re_20 k44 rfl rfl (Nat.le_of_ble_eq_true rfl) hL (by omega) d_Re_readCore_31 (fun H45 locs u46 hL => ?_)
    have k47 : va_at D vwCl (a, .inr (4, [.int (r.p), .int (r.c), .int (x), .int (1), .int (r.g), .int (r.i), .int (r.b), .int (r.d)])) H45 := u46.2.2
    refine lv_aload_n C.1 C.2.1 d_Re_readCore_34 rfl (lv_at hl 0 rfl) ?_
    refine lv_aload_n C.1 C.2.1 d_Re_readCore_35 rfl (lv_at hl 0 rfl) ?_
    refine hq_get (v := .int (r.g)) C f_Re_26 k47 rfl d_Re_readCore_36 ?_
    refine lv_iload_n C.1 C.2.1 d_Re_readCore_39 rfl (lv_at hl 1 rfl) ?_
    refine hq_callS (lo := lo) (As := [.int (r.g), .int (x)]) (rest := [.ref (a)]) C tb_good hml Y_Re_55 (c_Co_registerBehind l D cI cZ cN cJ lo r.g x) (fun _ _ _ _ h => h) (fun U hU hW => trivial) hL hl.1 rfl rfl ⟨⟨Nat.le_of_ble_eq_true rfl, Nat.le_of_ble_eq_true rfl⟩, Nat.le_of_ble_eq_true rfl, Nat.le_of_ble_eq_true rfl⟩ (Nat.le_of_ble_eq_true rfl) d_Re_readCore_40 (fun v H48 locs hp hL => ?_)
    obtain ⟨rfl, rfl⟩ := hp
    refine W.eq (g2 := F0 m 43 ls [.int (f_Co_registerBehind r.g x), .ref (a)]) rfl ?_
    refine hq_put (lo := lo) C f_Re_26 k47 rfl rfl (Nat.le_of_ble_eq_true rfl) hL (by omega) d_Re_readCore_43 (fun H49 locs u50 hL => ?_)
    have k51 : va_at D vwCl (a, .inr (4, [.int (r.p), .int (r.c), .int (x), .int (1), .int (f_Co_registerBehind r.g x), .int (r.i), .int (r.b), .int (r.d)])) H49 := u50.2.2
    exact s_Re_readCore_46 D cI cZ cN cJ lo a hlo (sRe.mk r.p r.c x 1 (f_Co_registerBehind r.g x) r.i r.b r.d) x (show f_Re_readCore_46 (sRe.mk r.p r.c x 1 (f_Co_registerBehind r.g x) r.i r.b r.d) x = f_Re_readCore r x from (show f_Re_readCore r x = f_Re_readCore_46 (sRe.mk r.p r.c x 1 (f_Co_registerBehind r.g x) r.i r.b r.d) x from by unfold f_Re_readCore; rw [if_neg c41]).symm) C hml hret hlk hL k51 (hq_Sput (hq_Sput (hq_Sput (hq_S0) u43 (by omega) (by omega)) u46 (by omega) (by omega)) u50 (by omega) (by omega)) (lv_push (lv_push (lv_nil hl) (lv_at hl 1 rfl)) (lv_at hl 0 rfl))
  · intro c41
    refine lv_aload_n C.1 C.2.1 d_Re_readCore_9 rfl (lv_at hl 0 rfl) ?_
    refine hq_get (v := .int (r.p)) C f_Re_9 k0 rfl d_Re_readCore_10 ?_
    refine lv_if_le (tgt := 25) C.1 C.2.1 d_Re_readCore_13 (by decide) ?_ ?_
    · intro c52
      refine lv_iconst (v := 1) C.1 C.2.1 d_Re_readCore_25 (by decide) ?_
      refine hq_put (lo := lo) C f_Re_23 k0 rfl rfl (Nat.le_of_ble_eq_true rfl) hL (by omega) d_Re_readCore_26 (fun H53 locs u54 hL => ?_)
      have k55 : va_at D vwCl (a, .inr (4, [.int (r.p), .int (r.c), .int (r.l), .int (1), .int (r.g), .int (r.i), .int (r.b), .int (r.d)])) H53 := u54.2.2
      refine lv_aload_n C.1 C.2.1 d_Re_readCore_29 rfl (lv_at hl 0 rfl) ?_
      refine lv_iload_n C.1 C.2.1 d_Re_readCore_30 rfl (lv_at hl 1 rfl) ?_
      refine hq_put (lo := lo) C f_Re_20 k55 rfl rfl (Nat.le_of_ble_eq_true rfl) hL (by omega) d_Re_readCore_31 (fun H56 locs u57 hL => ?_)
      have k58 : va_at D vwCl (a, .inr (4, [.int (r.p), .int (r.c), .int (x), .int (1), .int (r.g), .int (r.i), .int (r.b), .int (r.d)])) H56 := u57.2.2
      refine lv_aload_n C.1 C.2.1 d_Re_readCore_34 rfl (lv_at hl 0 rfl) ?_
      refine lv_aload_n C.1 C.2.1 d_Re_readCore_35 rfl (lv_at hl 0 rfl) ?_
      refine hq_get (v := .int (r.g)) C f_Re_26 k58 rfl d_Re_readCore_36 ?_
      refine lv_iload_n C.1 C.2.1 d_Re_readCore_39 rfl (lv_at hl 1 rfl) ?_
      refine hq_callS (lo := lo) (As := [.int (r.g), .int (x)]) (rest := [.ref (a)]) C tb_good hml Y_Re_55 (c_Co_registerBehind l D cI cZ cN cJ lo r.g x) (fun _ _ _ _ h => h) (fun U hU hW => trivial) hL hl.1 rfl rfl ⟨⟨Nat.le_of_ble_eq_true rfl, Nat.le_of_ble_eq_true rfl⟩, Nat.le_of_ble_eq_true rfl, Nat.le_of_ble_eq_true rfl⟩ (Nat.le_of_ble_eq_true rfl) d_Re_readCore_40 (fun v H59 locs hp hL => ?_)
      obtain ⟨rfl, rfl⟩ := hp
      refine W.eq (g2 := F0 m 43 ls [.int (f_Co_registerBehind r.g x), .ref (a)]) rfl ?_
      refine hq_put (lo := lo) C f_Re_26 k58 rfl rfl (Nat.le_of_ble_eq_true rfl) hL (by omega) d_Re_readCore_43 (fun H60 locs u61 hL => ?_)
      have k62 : va_at D vwCl (a, .inr (4, [.int (r.p), .int (r.c), .int (x), .int (1), .int (f_Co_registerBehind r.g x), .int (r.i), .int (r.b), .int (r.d)])) H60 := u61.2.2
      exact s_Re_readCore_46 D cI cZ cN cJ lo a hlo (sRe.mk r.p r.c x 1 (f_Co_registerBehind r.g x) r.i r.b r.d) x (show f_Re_readCore_46 (sRe.mk r.p r.c x 1 (f_Co_registerBehind r.g x) r.i r.b r.d) x = f_Re_readCore r x from (show f_Re_readCore r x = f_Re_readCore_46 (sRe.mk r.p r.c x 1 (f_Co_registerBehind r.g x) r.i r.b r.d) x from by unfold f_Re_readCore; rw [if_pos c41, if_pos c52]).symm) C hml hret hlk hL k62 (hq_Sput (hq_Sput (hq_Sput (hq_S0) u54 (by omega) (by omega)) u57 (by omega) (by omega)) u61 (by omega) (by omega)) (lv_push (lv_push (lv_nil hl) (lv_at hl 1 rfl)) (lv_at hl 0 rfl))
    · intro c52
      refine lv_aload_n C.1 C.2.1 d_Re_readCore_16 rfl (lv_at hl 0 rfl) ?_
      refine hq_get (v := .int (r.e)) C f_Re_23 k0 rfl d_Re_readCore_17 ?_
      refine lv_iconst (v := 1) C.1 C.2.1 d_Re_readCore_20 (by decide) ?_
      refine lv_iadd C.1 C.2.1 d_Re_readCore_21 ?_
      refine lv_goto (tgt := 26) C.1 C.2.1 d_Re_readCore_22 (by decide) ?_
      refine hq_put (lo := lo) C f_Re_23 k0 rfl rfl (Nat.le_of_ble_eq_true rfl) hL (by omega) d_Re_readCore_26 (fun H63 locs u64 hL => ?_)
      have k65 : va_at D vwCl (a, .inr (4, [.int (r.p), .int (r.c), .int (r.l), .int (r.e + 1), .int (r.g), .int (r.i), .int (r.b), .int (r.d)])) H63 := u64.2.2
      refine lv_aload_n C.1 C.2.1 d_Re_readCore_29 rfl (lv_at hl 0 rfl) ?_
      refine lv_iload_n C.1 C.2.1 d_Re_readCore_30 rfl (lv_at hl 1 rfl) ?_
      refine hq_put (lo := lo) C f_Re_20 k65 rfl rfl (Nat.le_of_ble_eq_true rfl) hL (by omega) d_Re_readCore_31 (fun H66 locs u67 hL => ?_)
      have k68 : va_at D vwCl (a, .inr (4, [.int (r.p), .int (r.c), .int (x), .int (r.e + 1), .int (r.g), .int (r.i), .int (r.b), .int (r.d)])) H66 := u67.2.2
      refine lv_aload_n C.1 C.2.1 d_Re_readCore_34 rfl (lv_at hl 0 rfl) ?_
      refine lv_aload_n C.1 C.2.1 d_Re_readCore_35 rfl (lv_at hl 0 rfl) ?_
      refine hq_get (v := .int (r.g)) C f_Re_26 k68 rfl d_Re_readCore_36 ?_
      refine lv_iload_n C.1 C.2.1 d_Re_readCore_39 rfl (lv_at hl 1 rfl) ?_
      refine hq_callS (lo := lo) (As := [.int (r.g), .int (x)]) (rest := [.ref (a)]) C tb_good hml Y_Re_55 (c_Co_registerBehind l D cI cZ cN cJ lo r.g x) (fun _ _ _ _ h => h) (fun U hU hW => trivial) hL hl.1 rfl rfl ⟨⟨Nat.le_of_ble_eq_true rfl, Nat.le_of_ble_eq_true rfl⟩, Nat.le_of_ble_eq_true rfl, Nat.le_of_ble_eq_true rfl⟩ (Nat.le_of_ble_eq_true rfl) d_Re_readCore_40 (fun v H69 locs hp hL => ?_)
      obtain ⟨rfl, rfl⟩ := hp
      refine W.eq (g2 := F0 m 43 ls [.int (f_Co_registerBehind r.g x), .ref (a)]) rfl ?_
      refine hq_put (lo := lo) C f_Re_26 k68 rfl rfl (Nat.le_of_ble_eq_true rfl) hL (by omega) d_Re_readCore_43 (fun H70 locs u71 hL => ?_)
      have k72 : va_at D vwCl (a, .inr (4, [.int (r.p), .int (r.c), .int (x), .int (r.e + 1), .int (f_Co_registerBehind r.g x), .int (r.i), .int (r.b), .int (r.d)])) H70 := u71.2.2
      exact s_Re_readCore_46 D cI cZ cN cJ lo a hlo (sRe.mk r.p r.c x (r.e + 1) (f_Co_registerBehind r.g x) r.i r.b r.d) x (show f_Re_readCore_46 (sRe.mk r.p r.c x (r.e + 1) (f_Co_registerBehind r.g x) r.i r.b r.d) x = f_Re_readCore r x from (show f_Re_readCore r x = f_Re_readCore_46 (sRe.mk r.p r.c x (r.e + 1) (f_Co_registerBehind r.g x) r.i r.b r.d) x from by unfold f_Re_readCore; rw [if_pos c41, if_neg c52]).symm) C hml hret hlk hL k72 (hq_Sput (hq_Sput (hq_Sput (hq_S0) u64 (by omega) (by omega)) u67 (by omega) (by omega)) u71 (by omega) (by omega)) (lv_push (lv_push (lv_nil hl) (lv_at hl 1 rfl)) (lv_at hl 0 rfl))
def f_Re_read (r : sRe) (x : Int32) : sRe := if (f_Re_padIsDue r) = 0 then (if (f_Re_isBehindCore r) = 0 then ((f_Re_readCore r x)) else ((sRe.mk (r.p + 1) r.c r.l r.e r.g r.i r.b r.d))) else ((sRe.mk r.p r.c x 1 r.g r.i r.b r.d))
set_option maxHeartbeats 4000000 in
set_option maxRecDepth 100000 in
theorem c_Re_read (l : Launch) (D : va_G) (cI cZ cN cJ : ClassId) (lo : Nat) (a : Nat) (hlo : lo ≤ a) (r : sRe) (x : Int32) : hq_M l y_Re_read b_Re_read 2 none TB { frames := 2, cells := 0, slots := 0, locals := 44 } lo D vwCl (TY cI cZ cN cJ) [.ref (a), .int (x)] (fun U => va_at D vwCl (a, cRe r) U.heap) (fun H v H' => v = none ∧ va_at D vwCl (a, cRe (f_Re_read r x)) H' ∧ hq_S a 1 H H') := by
  refine hq_ofW (by decide) (Nat.le_of_ble_eq_true rfl) ?_
  intro p e s m below meth c ls C hml hret hlk hnm hl hP
  have hL : hq_L lo [] := hq_L0
  have hl : lv_has ls 2 [(0, .ref (a)), (1, .int (x))] := hl
  have k0 : va_at D vwCl (a, .inr (4, [.int (r.p), .int (r.c), .int (r.l), .int (r.e), .int (r.g), .int (r.i), .int (r.b), .int (r.d)])) s.heap := hP
  refine lv_aload_n C.1 C.2.1 d_Re_read_0 rfl (lv_at hl 0 rfl) ?_
  refine hq_callV (lo := lo) (As := []) (rest := []) C tb_good hml Y_Re_38 (c_Re_padIsDue l D cI cZ cN cJ lo a r) k0 rfl (fun _ _ _ _ h => h) (fun U hU hW => by show va_at D vwCl (a, .inr (4, [.int (r.p), .int (r.c), .int (r.l), .int (r.e), .int (r.g), .int (r.i), .int (r.b), .int (r.d)])) U.heap; rw [hU]; exact k0) hL hl.1 rfl rfl ⟨⟨Nat.le_of_ble_eq_true rfl, Nat.le_of_ble_eq_true rfl⟩, Nat.le_of_ble_eq_true rfl, Nat.le_of_ble_eq_true rfl⟩ (Nat.le_of_ble_eq_true rfl) d_Re_read_1 (fun v H41 locs hp hL => ?_)
  obtain ⟨rfl, rfl⟩ := hp
  refine W.eq (g2 := F0 m 4 ls [.int (f_Re_padIsDue r)]) rfl ?_
  refine lv_if_eq (tgt := 20) C.1 C.2.1 d_Re_read_4 (by decide) ?_ ?_
  · intro c42
    refine lv_aload_n C.1 C.2.1 d_Re_read_20 rfl (lv_at hl 0 rfl) ?_
    refine hq_callV (lo := lo) (As := []) (rest := []) C tb_good hml Y_Re_42 (c_Re_isBehindCore l D cI cZ cN cJ lo a r) k0 rfl (fun _ _ _ _ h => h) (fun U hU hW => by show va_at D vwCl (a, .inr (4, [.int (r.p), .int (r.c), .int (r.l), .int (r.e), .int (r.g), .int (r.i), .int (r.b), .int (r.d)])) U.heap; rw [hU]; exact k0) hL hl.1 rfl rfl ⟨⟨Nat.le_of_ble_eq_true rfl, Nat.le_of_ble_eq_true rfl⟩, Nat.le_of_ble_eq_true rfl, Nat.le_of_ble_eq_true rfl⟩ (Nat.le_of_ble_eq_true rfl) d_Re_read_21 (fun v H43 locs hp hL => ?_)
    obtain ⟨rfl, rfl⟩ := hp
    refine W.eq (g2 := F0 m 24 ls [.int (f_Re_isBehindCore r)]) rfl ?_
    refine lv_if_eq (tgt := 40) C.1 C.2.1 d_Re_read_24 (by decide) ?_ ?_
    · intro c44
      refine lv_aload_n C.1 C.2.1 d_Re_read_40 rfl (lv_at hl 0 rfl) ?_
      refine lv_iload_n C.1 C.2.1 d_Re_read_41 rfl (lv_at hl 1 rfl) ?_
      refine hq_callV (lo := lo) (As := [.int (x)]) (rest := []) C tb_good hml Y_Re_51 (c_Re_readCore l D cI cZ cN cJ lo a (by omega) r x) k0 rfl (fun _ _ _ _ h => h) (fun U hU hW => by show va_at D vwCl (a, .inr (4, [.int (r.p), .int (r.c), .int (r.l), .int (r.e), .int (r.g), .int (r.i), .int (r.b), .int (r.d)])) U.heap; rw [hU]; exact k0) hL hl.1 rfl rfl ⟨⟨Nat.le_of_ble_eq_true rfl, Nat.le_of_ble_eq_true rfl⟩, Nat.le_of_ble_eq_true rfl, Nat.le_of_ble_eq_true rfl⟩ (Nat.le_of_ble_eq_true rfl) d_Re_read_42 (fun v H47 locs hp hL => ?_)
      obtain ⟨rfl, k46, S45⟩ := hp
      refine W.eq (g2 := F0 m 45 ls []) rfl ?_
      have hf : f_Re_read r x = (f_Re_readCore r x) := by unfold f_Re_read; rw [if_pos c42, if_pos c44]
      exact hq_vret C hret hlk (Nat.le_of_ble_eq_true rfl) (Nat.le_of_ble_eq_true rfl) hL ⟨rfl, by rw [hf]; exact k46, hq_Scall (hq_S0) S45 (by omega) (by omega)⟩ d_Re_read_45
    · intro c44
      refine lv_aload_n C.1 C.2.1 d_Re_read_27 rfl (lv_at hl 0 rfl) ?_
      refine lv_dup C.1 C.2.1 d_Re_read_28 rfl ?_
      refine hq_get (v := .int (r.p)) C f_Re_9 k0 rfl d_Re_read_29 ?_
      refine lv_iconst (v := 1) C.1 C.2.1 d_Re_read_32 (by decide) ?_
      refine lv_iadd C.1 C.2.1 d_Re_read_33 ?_
      refine hq_put (lo := lo) C f_Re_9 k0 rfl rfl (Nat.le_of_ble_eq_true rfl) hL (by omega) d_Re_read_34 (fun H48 locs u49 hL => ?_)
      have k50 : va_at D vwCl (a, .inr (4, [.int (r.p + 1), .int (r.c), .int (r.l), .int (r.e), .int (r.g), .int (r.i), .int (r.b), .int (r.d)])) H48 := u49.2.2
      refine lv_goto (tgt := 45) C.1 C.2.1 d_Re_read_37 (by decide) ?_
      have hf : f_Re_read r x = (sRe.mk (r.p + 1) r.c r.l r.e r.g r.i r.b r.d) := by unfold f_Re_read; rw [if_pos c42, if_neg c44]
      exact hq_vret C hret hlk (Nat.le_of_ble_eq_true rfl) (Nat.le_of_ble_eq_true rfl) hL ⟨rfl, by rw [hf]; exact k50, hq_Sput (hq_S0) u49 (by omega) (by omega)⟩ d_Re_read_45
  · intro c42
    refine lv_aload_n C.1 C.2.1 d_Re_read_7 rfl (lv_at hl 0 rfl) ?_
    refine lv_iload_n C.1 C.2.1 d_Re_read_8 rfl (lv_at hl 1 rfl) ?_
    refine hq_put (lo := lo) C f_Re_20 k0 rfl rfl (Nat.le_of_ble_eq_true rfl) hL (by omega) d_Re_read_9 (fun H51 locs u52 hL => ?_)
    have k53 : va_at D vwCl (a, .inr (4, [.int (r.p), .int (r.c), .int (x), .int (r.e), .int (r.g), .int (r.i), .int (r.b), .int (r.d)])) H51 := u52.2.2
    refine lv_aload_n C.1 C.2.1 d_Re_read_12 rfl (lv_at hl 0 rfl) ?_
    refine lv_iconst (v := 1) C.1 C.2.1 d_Re_read_13 (by decide) ?_
    refine hq_put (lo := lo) C f_Re_23 k53 rfl rfl (Nat.le_of_ble_eq_true rfl) hL (by omega) d_Re_read_14 (fun H54 locs u55 hL => ?_)
    have k56 : va_at D vwCl (a, .inr (4, [.int (r.p), .int (r.c), .int (x), .int (1), .int (r.g), .int (r.i), .int (r.b), .int (r.d)])) H54 := u55.2.2
    refine lv_goto (tgt := 45) C.1 C.2.1 d_Re_read_17 (by decide) ?_
    have hf : f_Re_read r x = (sRe.mk r.p r.c x 1 r.g r.i r.b r.d) := by unfold f_Re_read; rw [if_neg c42]
    exact hq_vret C hret hlk (Nat.le_of_ble_eq_true rfl) (Nat.le_of_ble_eq_true rfl) hL ⟨rfl, by rw [hf]; exact k56, hq_Sput (hq_Sput (hq_S0) u52 (by omega) (by omega)) u55 (by omega) (by omega)⟩ d_Re_read_45
def f_Re_errorBehindCore (r : sRe) (x y : Int32) : Int32 := if x = 2 then (if (f_Re_isRight r) = 0 then ((5 : Int32)) else (if x = 1 then (if y = 0 then ((0 : Int32)) else ((0 : Int32))) else (if x < 9 then (if y = 0 then ((4 : Int32)) else ((0 : Int32))) else (if y = 0 then ((0 : Int32)) else ((0 : Int32)))))) else (if x = 1 then (if y = 0 then ((0 : Int32)) else ((0 : Int32))) else (if x < 9 then (if y = 0 then ((4 : Int32)) else ((0 : Int32))) else (if y = 0 then ((0 : Int32)) else ((0 : Int32)))))
set_option maxHeartbeats 4000000 in
set_option maxRecDepth 100000 in
theorem c_Re_errorBehindCore (l : Launch) (D : va_G) (cI cZ cN cJ : ClassId) (lo : Nat) (a : Nat) (r : sRe) (x y : Int32) : hq_M l y_Re_errorBehindCore b_Re_errorBehindCore 4 (some .int) TB { frames := 1, cells := 0, slots := 0, locals := 20 } lo D vwCl (TY cI cZ cN cJ) [.ref (a), .int (x), .int (y)] (fun U => va_at D vwCl (a, cRe r) U.heap) (fun H v H' => v = some (.int (f_Re_errorBehindCore r x y)) ∧ H' = H) := by
  refine hq_ofW (by decide) (Nat.le_of_ble_eq_true rfl) ?_
  intro p e s m below meth c ls C hml hret hlk hnm hl hP
  have hL : hq_L lo [] := hq_L0
  have hl : lv_has ls 4 [(0, .ref (a)), (1, .int (x)), (2, .int (y))] := hl
  have k0 : va_at D vwCl (a, .inr (4, [.int (r.p), .int (r.c), .int (r.l), .int (r.e), .int (r.g), .int (r.i), .int (r.b), .int (r.d)])) s.heap := hP
  refine lv_iload_n C.1 C.2.1 d_Re_errorBehindCore_0 rfl (lv_at hl 1 rfl) ?_
  refine lv_iconst (v := 2) C.1 C.2.1 d_Re_errorBehindCore_1 (by decide) ?_
  refine lv_icmp_ne (tgt := 14) C.1 C.2.1 d_Re_errorBehindCore_2 (by decide) ?_ ?_
  · intro c41
    refine lv_iload_n C.1 C.2.1 d_Re_errorBehindCore_14 rfl (lv_at hl 1 rfl) ?_
    refine lv_iconst (v := 1) C.1 C.2.1 d_Re_errorBehindCore_15 (by decide) ?_
    refine lv_icmp_eq (tgt := 25) C.1 C.2.1 d_Re_errorBehindCore_16 (by decide) ?_ ?_
    · intro c42
      refine lv_iconst (v := 1) C.1 C.2.1 d_Re_errorBehindCore_25 (by decide) ?_
      refine lv_goto (tgt := 30) C.1 C.2.1 d_Re_errorBehindCore_26 (by decide) ?_
      refine lv_istore_n C.1 C.2.1 d_Re_errorBehindCore_30 rfl hl (by decide) rfl (lv' := [(3, .int (1)), (0, .ref (a)), (1, .int (x)), (2, .int (y))]) (fun ls hl => ?_)
      refine lv_iload_n C.1 C.2.1 d_Re_errorBehindCore_31 rfl (lv_at hl 3 rfl) ?_
      refine lv_if_ne (tgt := 43) C.1 C.2.1 d_Re_errorBehindCore_32 (by decide) ?_ ?_
      · intro c43
        refine lv_iconst (v := 0) C.1 C.2.1 d_Re_errorBehindCore_43 (by decide) ?_
        have hf : f_Re_errorBehindCore r x y = (0 : Int32) := by unfold f_Re_errorBehindCore; rw [if_neg c41, if_pos c42, if_neg c43]
        exact hq_iret C hret hlk (Nat.le_of_ble_eq_true rfl) (Nat.le_of_ble_eq_true rfl) hL ⟨by rw [hf], rfl⟩ d_Re_errorBehindCore_44
      · intro c43
        refine lv_iload_n C.1 C.2.1 d_Re_errorBehindCore_35 rfl (lv_at hl 0 rfl) ?_
        refine lv_if_ne (tgt := 43) C.1 C.2.1 d_Re_errorBehindCore_36 (by decide) (fun _ => ?_) (fun hn => absurd hn (by decide))
        refine lv_iconst (v := 0) C.1 C.2.1 d_Re_errorBehindCore_43 (by decide) ?_
        have hf : f_Re_errorBehindCore r x y = (0 : Int32) := by unfold f_Re_errorBehindCore; rw [if_neg c41, if_pos c42, if_pos c43]
        exact hq_iret C hret hlk (Nat.le_of_ble_eq_true rfl) (Nat.le_of_ble_eq_true rfl) hL ⟨by rw [hf], rfl⟩ d_Re_errorBehindCore_44
    · intro c42
      refine lv_iload_n C.1 C.2.1 d_Re_errorBehindCore_19 rfl (lv_at hl 1 rfl) ?_
      refine lv_bipush (v := 9) C.1 C.2.1 d_Re_errorBehindCore_20 (by decide) ?_
      refine lv_icmp_lt (tgt := 29) C.1 C.2.1 d_Re_errorBehindCore_22 (by decide) ?_ ?_
      · intro c44
        refine lv_iconst (v := 0) C.1 C.2.1 d_Re_errorBehindCore_29 (by decide) ?_
        refine lv_istore_n C.1 C.2.1 d_Re_errorBehindCore_30 rfl hl (by decide) rfl (lv' := [(3, .int (0)), (0, .ref (a)), (1, .int (x)), (2, .int (y))]) (fun ls hl => ?_)
        refine lv_iload_n C.1 C.2.1 d_Re_errorBehindCore_31 rfl (lv_at hl 3 rfl) ?_
        refine lv_if_ne (tgt := 43) C.1 C.2.1 d_Re_errorBehindCore_32 (by decide) ?_ ?_
        · intro c45
          refine lv_iconst (v := 0) C.1 C.2.1 d_Re_errorBehindCore_43 (by decide) ?_
          have hf : f_Re_errorBehindCore r x y = (0 : Int32) := by unfold f_Re_errorBehindCore; rw [if_neg c41, if_neg c42, if_pos c44, if_neg c45]
          exact hq_iret C hret hlk (Nat.le_of_ble_eq_true rfl) (Nat.le_of_ble_eq_true rfl) hL ⟨by rw [hf], rfl⟩ d_Re_errorBehindCore_44
        · intro c45
          refine lv_iload_n C.1 C.2.1 d_Re_errorBehindCore_35 rfl (lv_at hl 0 rfl) ?_
          refine lv_if_ne (tgt := 43) C.1 C.2.1 d_Re_errorBehindCore_36 (by decide) (fun hn => absurd hn (by decide)) (fun _ => ?_)
          refine lv_iconst (v := 4) C.1 C.2.1 d_Re_errorBehindCore_39 (by decide) ?_
          refine lv_goto (tgt := 44) C.1 C.2.1 d_Re_errorBehindCore_40 (by decide) ?_
          have hf : f_Re_errorBehindCore r x y = (4 : Int32) := by unfold f_Re_errorBehindCore; rw [if_neg c41, if_neg c42, if_pos c44, if_pos c45]
          exact hq_iret C hret hlk (Nat.le_of_ble_eq_true rfl) (Nat.le_of_ble_eq_true rfl) hL ⟨by rw [hf], rfl⟩ d_Re_errorBehindCore_44
      · intro c44
        refine lv_iconst (v := 1) C.1 C.2.1 d_Re_errorBehindCore_25 (by decide) ?_
        refine lv_goto (tgt := 30) C.1 C.2.1 d_Re_errorBehindCore_26 (by decide) ?_
        refine lv_istore_n C.1 C.2.1 d_Re_errorBehindCore_30 rfl hl (by decide) rfl (lv' := [(3, .int (1)), (0, .ref (a)), (1, .int (x)), (2, .int (y))]) (fun ls hl => ?_)
        refine lv_iload_n C.1 C.2.1 d_Re_errorBehindCore_31 rfl (lv_at hl 3 rfl) ?_
        refine lv_if_ne (tgt := 43) C.1 C.2.1 d_Re_errorBehindCore_32 (by decide) ?_ ?_
        · intro c46
          refine lv_iconst (v := 0) C.1 C.2.1 d_Re_errorBehindCore_43 (by decide) ?_
          have hf : f_Re_errorBehindCore r x y = (0 : Int32) := by unfold f_Re_errorBehindCore; rw [if_neg c41, if_neg c42, if_neg c44, if_neg c46]
          exact hq_iret C hret hlk (Nat.le_of_ble_eq_true rfl) (Nat.le_of_ble_eq_true rfl) hL ⟨by rw [hf], rfl⟩ d_Re_errorBehindCore_44
        · intro c46
          refine lv_iload_n C.1 C.2.1 d_Re_errorBehindCore_35 rfl (lv_at hl 0 rfl) ?_
          refine lv_if_ne (tgt := 43) C.1 C.2.1 d_Re_errorBehindCore_36 (by decide) (fun _ => ?_) (fun hn => absurd hn (by decide))
          refine lv_iconst (v := 0) C.1 C.2.1 d_Re_errorBehindCore_43 (by decide) ?_
          have hf : f_Re_errorBehindCore r x y = (0 : Int32) := by unfold f_Re_errorBehindCore; rw [if_neg c41, if_neg c42, if_neg c44, if_pos c46]
          exact hq_iret C hret hlk (Nat.le_of_ble_eq_true rfl) (Nat.le_of_ble_eq_true rfl) hL ⟨by rw [hf], rfl⟩ d_Re_errorBehindCore_44
  · intro c41
    refine lv_aload_n C.1 C.2.1 d_Re_errorBehindCore_5 rfl (lv_at hl 0 rfl) ?_
    refine hq_callV (lo := lo) (As := []) (rest := []) C tb_good hml Y_Re_69 (c_Re_isRight l D cI cZ cN cJ lo a r) k0 rfl (fun _ _ _ _ h => h) (fun U hU hW => by show va_at D vwCl (a, .inr (4, [.int (r.p), .int (r.c), .int (r.l), .int (r.e), .int (r.g), .int (r.i), .int (r.b), .int (r.d)])) U.heap; rw [hU]; exact k0) hL hl.1 rfl rfl ⟨⟨Nat.le_of_ble_eq_true rfl, Nat.le_of_ble_eq_true rfl⟩, Nat.le_of_ble_eq_true rfl, Nat.le_of_ble_eq_true rfl⟩ (Nat.le_of_ble_eq_true rfl) d_Re_errorBehindCore_6 (fun v H47 locs hp hL => ?_)
    obtain ⟨rfl, rfl⟩ := hp
    refine W.eq (g2 := F0 m 9 ls [.int (f_Re_isRight r)]) rfl ?_
    refine lv_if_ne (tgt := 14) C.1 C.2.1 d_Re_errorBehindCore_9 (by decide) ?_ ?_
    · intro c48
      refine lv_iload_n C.1 C.2.1 d_Re_errorBehindCore_14 rfl (lv_at hl 1 rfl) ?_
      refine lv_iconst (v := 1) C.1 C.2.1 d_Re_errorBehindCore_15 (by decide) ?_
      refine lv_icmp_eq (tgt := 25) C.1 C.2.1 d_Re_errorBehindCore_16 (by decide) ?_ ?_
      · intro c49
        refine lv_iconst (v := 1) C.1 C.2.1 d_Re_errorBehindCore_25 (by decide) ?_
        refine lv_goto (tgt := 30) C.1 C.2.1 d_Re_errorBehindCore_26 (by decide) ?_
        refine lv_istore_n C.1 C.2.1 d_Re_errorBehindCore_30 rfl hl (by decide) rfl (lv' := [(3, .int (1)), (0, .ref (a)), (1, .int (x)), (2, .int (y))]) (fun ls hl => ?_)
        refine lv_iload_n C.1 C.2.1 d_Re_errorBehindCore_31 rfl (lv_at hl 3 rfl) ?_
        refine lv_if_ne (tgt := 43) C.1 C.2.1 d_Re_errorBehindCore_32 (by decide) ?_ ?_
        · intro c50
          refine lv_iconst (v := 0) C.1 C.2.1 d_Re_errorBehindCore_43 (by decide) ?_
          have hf : f_Re_errorBehindCore r x y = (0 : Int32) := by unfold f_Re_errorBehindCore; rw [if_pos c41, if_neg c48, if_pos c49, if_neg c50]
          exact hq_iret C hret hlk (Nat.le_of_ble_eq_true rfl) (Nat.le_of_ble_eq_true rfl) hL ⟨by rw [hf], rfl⟩ d_Re_errorBehindCore_44
        · intro c50
          refine lv_iload_n C.1 C.2.1 d_Re_errorBehindCore_35 rfl (lv_at hl 0 rfl) ?_
          refine lv_if_ne (tgt := 43) C.1 C.2.1 d_Re_errorBehindCore_36 (by decide) (fun _ => ?_) (fun hn => absurd hn (by decide))
          refine lv_iconst (v := 0) C.1 C.2.1 d_Re_errorBehindCore_43 (by decide) ?_
          have hf : f_Re_errorBehindCore r x y = (0 : Int32) := by unfold f_Re_errorBehindCore; rw [if_pos c41, if_neg c48, if_pos c49, if_pos c50]
          exact hq_iret C hret hlk (Nat.le_of_ble_eq_true rfl) (Nat.le_of_ble_eq_true rfl) hL ⟨by rw [hf], rfl⟩ d_Re_errorBehindCore_44
      · intro c49
        refine lv_iload_n C.1 C.2.1 d_Re_errorBehindCore_19 rfl (lv_at hl 1 rfl) ?_
        refine lv_bipush (v := 9) C.1 C.2.1 d_Re_errorBehindCore_20 (by decide) ?_
        refine lv_icmp_lt (tgt := 29) C.1 C.2.1 d_Re_errorBehindCore_22 (by decide) ?_ ?_
        · intro c51
          refine lv_iconst (v := 0) C.1 C.2.1 d_Re_errorBehindCore_29 (by decide) ?_
          refine lv_istore_n C.1 C.2.1 d_Re_errorBehindCore_30 rfl hl (by decide) rfl (lv' := [(3, .int (0)), (0, .ref (a)), (1, .int (x)), (2, .int (y))]) (fun ls hl => ?_)
          refine lv_iload_n C.1 C.2.1 d_Re_errorBehindCore_31 rfl (lv_at hl 3 rfl) ?_
          refine lv_if_ne (tgt := 43) C.1 C.2.1 d_Re_errorBehindCore_32 (by decide) ?_ ?_
          · intro c52
            refine lv_iconst (v := 0) C.1 C.2.1 d_Re_errorBehindCore_43 (by decide) ?_
            have hf : f_Re_errorBehindCore r x y = (0 : Int32) := by unfold f_Re_errorBehindCore; rw [if_pos c41, if_neg c48, if_neg c49, if_pos c51, if_neg c52]
            exact hq_iret C hret hlk (Nat.le_of_ble_eq_true rfl) (Nat.le_of_ble_eq_true rfl) hL ⟨by rw [hf], rfl⟩ d_Re_errorBehindCore_44
          · intro c52
            refine lv_iload_n C.1 C.2.1 d_Re_errorBehindCore_35 rfl (lv_at hl 0 rfl) ?_
            refine lv_if_ne (tgt := 43) C.1 C.2.1 d_Re_errorBehindCore_36 (by decide) (fun hn => absurd hn (by decide)) (fun _ => ?_)
            refine lv_iconst (v := 4) C.1 C.2.1 d_Re_errorBehindCore_39 (by decide) ?_
            refine lv_goto (tgt := 44) C.1 C.2.1 d_Re_errorBehindCore_40 (by decide) ?_
            have hf : f_Re_errorBehindCore r x y = (4 : Int32) := by unfold f_Re_errorBehindCore; rw [if_pos c41, if_neg c48, if_neg c49, if_pos c51, if_pos c52]
            exact hq_iret C hret hlk (Nat.le_of_ble_eq_true rfl) (Nat.le_of_ble_eq_true rfl) hL ⟨by rw [hf], rfl⟩ d_Re_errorBehindCore_44
        · intro c51
          refine lv_iconst (v := 1) C.1 C.2.1 d_Re_errorBehindCore_25 (by decide) ?_
          refine lv_goto (tgt := 30) C.1 C.2.1 d_Re_errorBehindCore_26 (by decide) ?_
          refine lv_istore_n C.1 C.2.1 d_Re_errorBehindCore_30 rfl hl (by decide) rfl (lv' := [(3, .int (1)), (0, .ref (a)), (1, .int (x)), (2, .int (y))]) (fun ls hl => ?_)
          refine lv_iload_n C.1 C.2.1 d_Re_errorBehindCore_31 rfl (lv_at hl 3 rfl) ?_
          refine lv_if_ne (tgt := 43) C.1 C.2.1 d_Re_errorBehindCore_32 (by decide) ?_ ?_
          · intro c53
            refine lv_iconst (v := 0) C.1 C.2.1 d_Re_errorBehindCore_43 (by decide) ?_
            have hf : f_Re_errorBehindCore r x y = (0 : Int32) := by unfold f_Re_errorBehindCore; rw [if_pos c41, if_neg c48, if_neg c49, if_neg c51, if_neg c53]
            exact hq_iret C hret hlk (Nat.le_of_ble_eq_true rfl) (Nat.le_of_ble_eq_true rfl) hL ⟨by rw [hf], rfl⟩ d_Re_errorBehindCore_44
          · intro c53
            refine lv_iload_n C.1 C.2.1 d_Re_errorBehindCore_35 rfl (lv_at hl 0 rfl) ?_
            refine lv_if_ne (tgt := 43) C.1 C.2.1 d_Re_errorBehindCore_36 (by decide) (fun _ => ?_) (fun hn => absurd hn (by decide))
            refine lv_iconst (v := 0) C.1 C.2.1 d_Re_errorBehindCore_43 (by decide) ?_
            have hf : f_Re_errorBehindCore r x y = (0 : Int32) := by unfold f_Re_errorBehindCore; rw [if_pos c41, if_neg c48, if_neg c49, if_neg c51, if_pos c53]
            exact hq_iret C hret hlk (Nat.le_of_ble_eq_true rfl) (Nat.le_of_ble_eq_true rfl) hL ⟨by rw [hf], rfl⟩ d_Re_errorBehindCore_44
    · intro c48
      refine lv_iconst (v := 5) C.1 C.2.1 d_Re_errorBehindCore_12 (by decide) ?_
      have hf : f_Re_errorBehindCore r x y = (5 : Int32) := by unfold f_Re_errorBehindCore; rw [if_pos c41, if_pos c48]
      exact hq_iret C hret hlk (Nat.le_of_ble_eq_true rfl) (Nat.le_of_ble_eq_true rfl) hL ⟨by rw [hf], rfl⟩ d_Re_errorBehindCore_13
def f_Re_errorOf (r : sRe) (x : Int32) : Int32 := if (f_Re_padIsDue r) = 0 then (if (f_Re_isBehindCore r) = 0 then (if r.p < 12 then (if r.p = 18 then (if ((r.b <<< (1 &&& 31)) ||| x) ≤ 2 then ((0 : Int32)) else ((4 : Int32))) else ((0 : Int32))) else (if 15 ≤ r.p then (if r.p = 18 then (if ((r.b <<< (1 &&& 31)) ||| x) ≤ 2 then ((0 : Int32)) else ((4 : Int32))) else ((0 : Int32))) else (if x = 0 then (if r.p = 18 then (if ((r.b <<< (1 &&& 31)) ||| x) ≤ 2 then ((0 : Int32)) else ((4 : Int32))) else ((0 : Int32))) else (if r.p = 18 then (if ((r.b <<< (1 &&& 31)) ||| x) ≤ 2 then ((4 : Int32)) else ((4 : Int32))) else ((4 : Int32)))))) else (f_Re_errorBehindCore r (r.p - r.c) x)) else (if x = r.l then ((3 : Int32)) else ((0 : Int32)))
set_option maxHeartbeats 4000000 in
set_option maxRecDepth 100000 in
theorem c_Re_errorOf (l : Launch) (D : va_G) (cI cZ cN cJ : ClassId) (lo : Nat) (a : Nat) (r : sRe) (x : Int32) : hq_M l y_Re_errorOf b_Re_errorOf 4 (some .int) TB { frames := 2, cells := 0, slots := 0, locals := 43 } lo D vwCl (TY cI cZ cN cJ) [.ref (a), .int (x)] (fun U => va_at D vwCl (a, cRe r) U.heap) (fun H v H' => v = some (.int (f_Re_errorOf r x)) ∧ H' = H) := by
  refine hq_ofW (by decide) (Nat.le_of_ble_eq_true rfl) ?_
  intro p e s m below meth c ls C hml hret hlk hnm hl hP
  have hL : hq_L lo [] := hq_L0
  have hl : lv_has ls 4 [(0, .ref (a)), (1, .int (x))] := hl
  have k0 : va_at D vwCl (a, .inr (4, [.int (r.p), .int (r.c), .int (r.l), .int (r.e), .int (r.g), .int (r.i), .int (r.b), .int (r.d)])) s.heap := hP
  refine lv_aload_n C.1 C.2.1 d_Re_errorOf_0 rfl (lv_at hl 0 rfl) ?_
  refine hq_callV (lo := lo) (As := []) (rest := []) C tb_good hml Y_Re_38 (c_Re_padIsDue l D cI cZ cN cJ lo a r) k0 rfl (fun _ _ _ _ h => h) (fun U hU hW => by show va_at D vwCl (a, .inr (4, [.int (r.p), .int (r.c), .int (r.l), .int (r.e), .int (r.g), .int (r.i), .int (r.b), .int (r.d)])) U.heap; rw [hU]; exact k0) hL hl.1 rfl rfl ⟨⟨Nat.le_of_ble_eq_true rfl, Nat.le_of_ble_eq_true rfl⟩, Nat.le_of_ble_eq_true rfl, Nat.le_of_ble_eq_true rfl⟩ (Nat.le_of_ble_eq_true rfl) d_Re_errorOf_1 (fun v H41 locs hp hL => ?_)
  obtain ⟨rfl, rfl⟩ := hp
  refine W.eq (g2 := F0 m 4 ls [.int (f_Re_padIsDue r)]) rfl ?_
  refine lv_if_eq (tgt := 21) C.1 C.2.1 d_Re_errorOf_4 (by decide) ?_ ?_
  · intro c42
    refine lv_aload_n C.1 C.2.1 d_Re_errorOf_21 rfl (lv_at hl 0 rfl) ?_
    refine hq_callV (lo := lo) (As := []) (rest := []) C tb_good hml Y_Re_42 (c_Re_isBehindCore l D cI cZ cN cJ lo a r) k0 rfl (fun _ _ _ _ h => h) (fun U hU hW => by show va_at D vwCl (a, .inr (4, [.int (r.p), .int (r.c), .int (r.l), .int (r.e), .int (r.g), .int (r.i), .int (r.b), .int (r.d)])) U.heap; rw [hU]; exact k0) hL hl.1 rfl rfl ⟨⟨Nat.le_of_ble_eq_true rfl, Nat.le_of_ble_eq_true rfl⟩, Nat.le_of_ble_eq_true rfl, Nat.le_of_ble_eq_true rfl⟩ (Nat.le_of_ble_eq_true rfl) d_Re_errorOf_22 (fun v H43 locs hp hL => ?_)
    obtain ⟨rfl, rfl⟩ := hp
    refine W.eq (g2 := F0 m 25 ls [.int (f_Re_isBehindCore r)]) rfl ?_
    refine lv_if_eq (tgt := 43) C.1 C.2.1 d_Re_errorOf_25 (by decide) ?_ ?_
    · intro c44
      refine lv_aload_n C.1 C.2.1 d_Re_errorOf_43 rfl (lv_at hl 0 rfl) ?_
      refine hq_get (v := .int (r.p)) C f_Re_9 k0 rfl d_Re_errorOf_44 ?_
      refine lv_bipush (v := 12) C.1 C.2.1 d_Re_errorOf_47 (by decide) ?_
      refine lv_icmp_lt (tgt := 69) C.1 C.2.1 d_Re_errorOf_49 (by decide) ?_ ?_
      · intro c45
        refine lv_iconst (v := 0) C.1 C.2.1 d_Re_errorOf_69 (by decide) ?_
        refine lv_istore_n C.1 C.2.1 d_Re_errorOf_70 rfl hl (by decide) rfl (lv' := [(2, .int (0)), (0, .ref (a)), (1, .int (x))]) (fun ls hl => ?_)
        refine lv_aload_n C.1 C.2.1 d_Re_errorOf_71 rfl (lv_at hl 1 rfl) ?_
        refine hq_get (v := .int (r.p)) C f_Re_9 k0 rfl d_Re_errorOf_72 ?_
        refine lv_bipush (v := 18) C.1 C.2.1 d_Re_errorOf_75 (by decide) ?_
        refine lv_icmp_ne (tgt := 96) C.1 C.2.1 d_Re_errorOf_77 (by decide) ?_ ?_
        · intro c46
          refine lv_iconst (v := 0) C.1 C.2.1 d_Re_errorOf_96 (by decide) ?_
          refine lv_istore_n C.1 C.2.1 d_Re_errorOf_97 rfl hl (by decide) rfl (lv' := [(3, .int (0)), (2, .int (0)), (0, .ref (a)), (1, .int (x))]) (fun ls hl => ?_)
          refine lv_iload_n C.1 C.2.1 d_Re_errorOf_98 rfl (lv_at hl 1 rfl) ?_
          refine lv_if_ne (tgt := 106) C.1 C.2.1 d_Re_errorOf_99 (by decide) (fun hn => absurd hn (by decide)) (fun _ => ?_)
          refine lv_iload_n C.1 C.2.1 d_Re_errorOf_102 rfl (lv_at hl 0 rfl) ?_
          refine lv_if_eq (tgt := 110) C.1 C.2.1 d_Re_errorOf_103 (by decide) (fun _ => ?_) (fun hn => absurd (by decide) hn)
          refine lv_iconst (v := 0) C.1 C.2.1 d_Re_errorOf_110 (by decide) ?_
          have hf : f_Re_errorOf r x = (0 : Int32) := by unfold f_Re_errorOf; rw [if_pos c42, if_pos c44, if_pos c45, if_neg c46]
          exact hq_iret C hret hlk (Nat.le_of_ble_eq_true rfl) (Nat.le_of_ble_eq_true rfl) hL ⟨by rw [hf], rfl⟩ d_Re_errorOf_111
        · intro c46
          refine lv_aload_n C.1 C.2.1 d_Re_errorOf_80 rfl (lv_at hl 1 rfl) ?_
          refine hq_get (v := .int (r.b)) C f_Re_32 k0 rfl d_Re_errorOf_81 ?_
          refine lv_iconst (v := 1) C.1 C.2.1 d_Re_errorOf_84 (by decide) ?_
          refine lv_ishl C.1 C.2.1 d_Re_errorOf_85 ?_
          refine lv_iload_n C.1 C.2.1 d_Re_errorOf_86 rfl (lv_at hl 2 rfl) ?_
          refine lv_ior C.1 C.2.1 d_Re_errorOf_87 ?_
          refine lv_iconst (v := 2) C.1 C.2.1 d_Re_errorOf_88 (by decide) ?_
          refine lv_icmp_le (tgt := 96) C.1 C.2.1 d_Re_errorOf_89 (by decide) ?_ ?_
          · intro c47
            refine lv_iconst (v := 0) C.1 C.2.1 d_Re_errorOf_96 (by decide) ?_
            refine lv_istore_n C.1 C.2.1 d_Re_errorOf_97 rfl hl (by decide) rfl (lv' := [(3, .int (0)), (2, .int (0)), (0, .ref (a)), (1, .int (x))]) (fun ls hl => ?_)
            refine lv_iload_n C.1 C.2.1 d_Re_errorOf_98 rfl (lv_at hl 1 rfl) ?_
            refine lv_if_ne (tgt := 106) C.1 C.2.1 d_Re_errorOf_99 (by decide) (fun hn => absurd hn (by decide)) (fun _ => ?_)
            refine lv_iload_n C.1 C.2.1 d_Re_errorOf_102 rfl (lv_at hl 0 rfl) ?_
            refine lv_if_eq (tgt := 110) C.1 C.2.1 d_Re_errorOf_103 (by decide) (fun _ => ?_) (fun hn => absurd (by decide) hn)
            refine lv_iconst (v := 0) C.1 C.2.1 d_Re_errorOf_110 (by decide) ?_
            have hf : f_Re_errorOf r x = (0 : Int32) := by unfold f_Re_errorOf; rw [if_pos c42, if_pos c44, if_pos c45, if_pos c46, if_pos c47]
            exact hq_iret C hret hlk (Nat.le_of_ble_eq_true rfl) (Nat.le_of_ble_eq_true rfl) hL ⟨by rw [hf], rfl⟩ d_Re_errorOf_111
          · intro c47
            refine lv_iconst (v := 1) C.1 C.2.1 d_Re_errorOf_92 (by decide) ?_
            refine lv_goto (tgt := 97) C.1 C.2.1 d_Re_errorOf_93 (by decide) ?_
            refine lv_istore_n C.1 C.2.1 d_Re_errorOf_97 rfl hl (by decide) rfl (lv' := [(3, .int (1)), (2, .int (0)), (0, .ref (a)), (1, .int (x))]) (fun ls hl => ?_)
            refine lv_iload_n C.1 C.2.1 d_Re_errorOf_98 rfl (lv_at hl 1 rfl) ?_
            refine lv_if_ne (tgt := 106) C.1 C.2.1 d_Re_errorOf_99 (by decide) (fun hn => absurd hn (by decide)) (fun _ => ?_)
            refine lv_iload_n C.1 C.2.1 d_Re_errorOf_102 rfl (lv_at hl 0 rfl) ?_
            refine lv_if_eq (tgt := 110) C.1 C.2.1 d_Re_errorOf_103 (by decide) (fun hn => absurd hn (by decide)) (fun _ => ?_)
            refine lv_iconst (v := 4) C.1 C.2.1 d_Re_errorOf_106 (by decide) ?_
            refine lv_goto (tgt := 111) C.1 C.2.1 d_Re_errorOf_107 (by decide) ?_
            have hf : f_Re_errorOf r x = (4 : Int32) := by unfold f_Re_errorOf; rw [if_pos c42, if_pos c44, if_pos c45, if_pos c46, if_neg c47]
            exact hq_iret C hret hlk (Nat.le_of_ble_eq_true rfl) (Nat.le_of_ble_eq_true rfl) hL ⟨by rw [hf], rfl⟩ d_Re_errorOf_111
      · intro c45
        refine lv_aload_n C.1 C.2.1 d_Re_errorOf_52 rfl (lv_at hl 0 rfl) ?_
        refine hq_get (v := .int (r.p)) C f_Re_9 k0 rfl d_Re_errorOf_53 ?_
        refine lv_bipush (v := 15) C.1 C.2.1 d_Re_errorOf_56 (by decide) ?_
        refine lv_icmp_ge (tgt := 69) C.1 C.2.1 d_Re_errorOf_58 (by decide) ?_ ?_
        · intro c48
          refine lv_iconst (v := 0) C.1 C.2.1 d_Re_errorOf_69 (by decide) ?_
          refine lv_istore_n C.1 C.2.1 d_Re_errorOf_70 rfl hl (by decide) rfl (lv' := [(2, .int (0)), (0, .ref (a)), (1, .int (x))]) (fun ls hl => ?_)
          refine lv_aload_n C.1 C.2.1 d_Re_errorOf_71 rfl (lv_at hl 1 rfl) ?_
          refine hq_get (v := .int (r.p)) C f_Re_9 k0 rfl d_Re_errorOf_72 ?_
          refine lv_bipush (v := 18) C.1 C.2.1 d_Re_errorOf_75 (by decide) ?_
          refine lv_icmp_ne (tgt := 96) C.1 C.2.1 d_Re_errorOf_77 (by decide) ?_ ?_
          · intro c49
            refine lv_iconst (v := 0) C.1 C.2.1 d_Re_errorOf_96 (by decide) ?_
            refine lv_istore_n C.1 C.2.1 d_Re_errorOf_97 rfl hl (by decide) rfl (lv' := [(3, .int (0)), (2, .int (0)), (0, .ref (a)), (1, .int (x))]) (fun ls hl => ?_)
            refine lv_iload_n C.1 C.2.1 d_Re_errorOf_98 rfl (lv_at hl 1 rfl) ?_
            refine lv_if_ne (tgt := 106) C.1 C.2.1 d_Re_errorOf_99 (by decide) (fun hn => absurd hn (by decide)) (fun _ => ?_)
            refine lv_iload_n C.1 C.2.1 d_Re_errorOf_102 rfl (lv_at hl 0 rfl) ?_
            refine lv_if_eq (tgt := 110) C.1 C.2.1 d_Re_errorOf_103 (by decide) (fun _ => ?_) (fun hn => absurd (by decide) hn)
            refine lv_iconst (v := 0) C.1 C.2.1 d_Re_errorOf_110 (by decide) ?_
            have hf : f_Re_errorOf r x = (0 : Int32) := by unfold f_Re_errorOf; rw [if_pos c42, if_pos c44, if_neg c45, if_pos c48, if_neg c49]
            exact hq_iret C hret hlk (Nat.le_of_ble_eq_true rfl) (Nat.le_of_ble_eq_true rfl) hL ⟨by rw [hf], rfl⟩ d_Re_errorOf_111
          · intro c49
            refine lv_aload_n C.1 C.2.1 d_Re_errorOf_80 rfl (lv_at hl 1 rfl) ?_
            refine hq_get (v := .int (r.b)) C f_Re_32 k0 rfl d_Re_errorOf_81 ?_
            refine lv_iconst (v := 1) C.1 C.2.1 d_Re_errorOf_84 (by decide) ?_
            refine lv_ishl C.1 C.2.1 d_Re_errorOf_85 ?_
            refine lv_iload_n C.1 C.2.1 d_Re_errorOf_86 rfl (lv_at hl 2 rfl) ?_
            refine lv_ior C.1 C.2.1 d_Re_errorOf_87 ?_
            refine lv_iconst (v := 2) C.1 C.2.1 d_Re_errorOf_88 (by decide) ?_
            refine lv_icmp_le (tgt := 96) C.1 C.2.1 d_Re_errorOf_89 (by decide) ?_ ?_
            · intro c50
              refine lv_iconst (v := 0) C.1 C.2.1 d_Re_errorOf_96 (by decide) ?_
              refine lv_istore_n C.1 C.2.1 d_Re_errorOf_97 rfl hl (by decide) rfl (lv' := [(3, .int (0)), (2, .int (0)), (0, .ref (a)), (1, .int (x))]) (fun ls hl => ?_)
              refine lv_iload_n C.1 C.2.1 d_Re_errorOf_98 rfl (lv_at hl 1 rfl) ?_
              refine lv_if_ne (tgt := 106) C.1 C.2.1 d_Re_errorOf_99 (by decide) (fun hn => absurd hn (by decide)) (fun _ => ?_)
              refine lv_iload_n C.1 C.2.1 d_Re_errorOf_102 rfl (lv_at hl 0 rfl) ?_
              refine lv_if_eq (tgt := 110) C.1 C.2.1 d_Re_errorOf_103 (by decide) (fun _ => ?_) (fun hn => absurd (by decide) hn)
              refine lv_iconst (v := 0) C.1 C.2.1 d_Re_errorOf_110 (by decide) ?_
              have hf : f_Re_errorOf r x = (0 : Int32) := by unfold f_Re_errorOf; rw [if_pos c42, if_pos c44, if_neg c45, if_pos c48, if_pos c49, if_pos c50]
              exact hq_iret C hret hlk (Nat.le_of_ble_eq_true rfl) (Nat.le_of_ble_eq_true rfl) hL ⟨by rw [hf], rfl⟩ d_Re_errorOf_111
            · intro c50
              refine lv_iconst (v := 1) C.1 C.2.1 d_Re_errorOf_92 (by decide) ?_
              refine lv_goto (tgt := 97) C.1 C.2.1 d_Re_errorOf_93 (by decide) ?_
              refine lv_istore_n C.1 C.2.1 d_Re_errorOf_97 rfl hl (by decide) rfl (lv' := [(3, .int (1)), (2, .int (0)), (0, .ref (a)), (1, .int (x))]) (fun ls hl => ?_)
              refine lv_iload_n C.1 C.2.1 d_Re_errorOf_98 rfl (lv_at hl 1 rfl) ?_
              refine lv_if_ne (tgt := 106) C.1 C.2.1 d_Re_errorOf_99 (by decide) (fun hn => absurd hn (by decide)) (fun _ => ?_)
              refine lv_iload_n C.1 C.2.1 d_Re_errorOf_102 rfl (lv_at hl 0 rfl) ?_
              refine lv_if_eq (tgt := 110) C.1 C.2.1 d_Re_errorOf_103 (by decide) (fun hn => absurd hn (by decide)) (fun _ => ?_)
              refine lv_iconst (v := 4) C.1 C.2.1 d_Re_errorOf_106 (by decide) ?_
              refine lv_goto (tgt := 111) C.1 C.2.1 d_Re_errorOf_107 (by decide) ?_
              have hf : f_Re_errorOf r x = (4 : Int32) := by unfold f_Re_errorOf; rw [if_pos c42, if_pos c44, if_neg c45, if_pos c48, if_pos c49, if_neg c50]
              exact hq_iret C hret hlk (Nat.le_of_ble_eq_true rfl) (Nat.le_of_ble_eq_true rfl) hL ⟨by rw [hf], rfl⟩ d_Re_errorOf_111
        · intro c48
          refine lv_iload_n C.1 C.2.1 d_Re_errorOf_61 rfl (lv_at hl 1 rfl) ?_
          refine lv_if_eq (tgt := 69) C.1 C.2.1 d_Re_errorOf_62 (by decide) ?_ ?_
          · intro c51
            refine lv_iconst (v := 0) C.1 C.2.1 d_Re_errorOf_69 (by decide) ?_
            refine lv_istore_n C.1 C.2.1 d_Re_errorOf_70 rfl hl (by decide) rfl (lv' := [(2, .int (0)), (0, .ref (a)), (1, .int (x))]) (fun ls hl => ?_)
            refine lv_aload_n C.1 C.2.1 d_Re_errorOf_71 rfl (lv_at hl 1 rfl) ?_
            refine hq_get (v := .int (r.p)) C f_Re_9 k0 rfl d_Re_errorOf_72 ?_
            refine lv_bipush (v := 18) C.1 C.2.1 d_Re_errorOf_75 (by decide) ?_
            refine lv_icmp_ne (tgt := 96) C.1 C.2.1 d_Re_errorOf_77 (by decide) ?_ ?_
            · intro c52
              refine lv_iconst (v := 0) C.1 C.2.1 d_Re_errorOf_96 (by decide) ?_
              refine lv_istore_n C.1 C.2.1 d_Re_errorOf_97 rfl hl (by decide) rfl (lv' := [(3, .int (0)), (2, .int (0)), (0, .ref (a)), (1, .int (x))]) (fun ls hl => ?_)
              refine lv_iload_n C.1 C.2.1 d_Re_errorOf_98 rfl (lv_at hl 1 rfl) ?_
              refine lv_if_ne (tgt := 106) C.1 C.2.1 d_Re_errorOf_99 (by decide) (fun hn => absurd hn (by decide)) (fun _ => ?_)
              refine lv_iload_n C.1 C.2.1 d_Re_errorOf_102 rfl (lv_at hl 0 rfl) ?_
              refine lv_if_eq (tgt := 110) C.1 C.2.1 d_Re_errorOf_103 (by decide) (fun _ => ?_) (fun hn => absurd (by decide) hn)
              refine lv_iconst (v := 0) C.1 C.2.1 d_Re_errorOf_110 (by decide) ?_
              have hf : f_Re_errorOf r x = (0 : Int32) := by unfold f_Re_errorOf; rw [if_pos c42, if_pos c44, if_neg c45, if_neg c48, if_pos c51, if_neg c52]
              exact hq_iret C hret hlk (Nat.le_of_ble_eq_true rfl) (Nat.le_of_ble_eq_true rfl) hL ⟨by rw [hf], rfl⟩ d_Re_errorOf_111
            · intro c52
              refine lv_aload_n C.1 C.2.1 d_Re_errorOf_80 rfl (lv_at hl 1 rfl) ?_
              refine hq_get (v := .int (r.b)) C f_Re_32 k0 rfl d_Re_errorOf_81 ?_
              refine lv_iconst (v := 1) C.1 C.2.1 d_Re_errorOf_84 (by decide) ?_
              refine lv_ishl C.1 C.2.1 d_Re_errorOf_85 ?_
              refine lv_iload_n C.1 C.2.1 d_Re_errorOf_86 rfl (lv_at hl 2 rfl) ?_
              refine lv_ior C.1 C.2.1 d_Re_errorOf_87 ?_
              refine lv_iconst (v := 2) C.1 C.2.1 d_Re_errorOf_88 (by decide) ?_
              refine lv_icmp_le (tgt := 96) C.1 C.2.1 d_Re_errorOf_89 (by decide) ?_ ?_
              · intro c53
                refine lv_iconst (v := 0) C.1 C.2.1 d_Re_errorOf_96 (by decide) ?_
                refine lv_istore_n C.1 C.2.1 d_Re_errorOf_97 rfl hl (by decide) rfl (lv' := [(3, .int (0)), (2, .int (0)), (0, .ref (a)), (1, .int (x))]) (fun ls hl => ?_)
                refine lv_iload_n C.1 C.2.1 d_Re_errorOf_98 rfl (lv_at hl 1 rfl) ?_
                refine lv_if_ne (tgt := 106) C.1 C.2.1 d_Re_errorOf_99 (by decide) (fun hn => absurd hn (by decide)) (fun _ => ?_)
                refine lv_iload_n C.1 C.2.1 d_Re_errorOf_102 rfl (lv_at hl 0 rfl) ?_
                refine lv_if_eq (tgt := 110) C.1 C.2.1 d_Re_errorOf_103 (by decide) (fun _ => ?_) (fun hn => absurd (by decide) hn)
                refine lv_iconst (v := 0) C.1 C.2.1 d_Re_errorOf_110 (by decide) ?_
                have hf : f_Re_errorOf r x = (0 : Int32) := by unfold f_Re_errorOf; rw [if_pos c42, if_pos c44, if_neg c45, if_neg c48, if_pos c51, if_pos c52, if_pos c53]
                exact hq_iret C hret hlk (Nat.le_of_ble_eq_true rfl) (Nat.le_of_ble_eq_true rfl) hL ⟨by rw [hf], rfl⟩ d_Re_errorOf_111
              · intro c53
                refine lv_iconst (v := 1) C.1 C.2.1 d_Re_errorOf_92 (by decide) ?_
                refine lv_goto (tgt := 97) C.1 C.2.1 d_Re_errorOf_93 (by decide) ?_
                refine lv_istore_n C.1 C.2.1 d_Re_errorOf_97 rfl hl (by decide) rfl (lv' := [(3, .int (1)), (2, .int (0)), (0, .ref (a)), (1, .int (x))]) (fun ls hl => ?_)
                refine lv_iload_n C.1 C.2.1 d_Re_errorOf_98 rfl (lv_at hl 1 rfl) ?_
                refine lv_if_ne (tgt := 106) C.1 C.2.1 d_Re_errorOf_99 (by decide) (fun hn => absurd hn (by decide)) (fun _ => ?_)
                refine lv_iload_n C.1 C.2.1 d_Re_errorOf_102 rfl (lv_at hl 0 rfl) ?_
                refine lv_if_eq (tgt := 110) C.1 C.2.1 d_Re_errorOf_103 (by decide) (fun hn => absurd hn (by decide)) (fun _ => ?_)
                refine lv_iconst (v := 4) C.1 C.2.1 d_Re_errorOf_106 (by decide) ?_
                refine lv_goto (tgt := 111) C.1 C.2.1 d_Re_errorOf_107 (by decide) ?_
                have hf : f_Re_errorOf r x = (4 : Int32) := by unfold f_Re_errorOf; rw [if_pos c42, if_pos c44, if_neg c45, if_neg c48, if_pos c51, if_pos c52, if_neg c53]
                exact hq_iret C hret hlk (Nat.le_of_ble_eq_true rfl) (Nat.le_of_ble_eq_true rfl) hL ⟨by rw [hf], rfl⟩ d_Re_errorOf_111
          · intro c51
            refine lv_iconst (v := 1) C.1 C.2.1 d_Re_errorOf_65 (by decide) ?_
            refine lv_goto (tgt := 70) C.1 C.2.1 d_Re_errorOf_66 (by decide) ?_
            refine lv_istore_n C.1 C.2.1 d_Re_errorOf_70 rfl hl (by decide) rfl (lv' := [(2, .int (1)), (0, .ref (a)), (1, .int (x))]) (fun ls hl => ?_)
            refine lv_aload_n C.1 C.2.1 d_Re_errorOf_71 rfl (lv_at hl 1 rfl) ?_
            refine hq_get (v := .int (r.p)) C f_Re_9 k0 rfl d_Re_errorOf_72 ?_
            refine lv_bipush (v := 18) C.1 C.2.1 d_Re_errorOf_75 (by decide) ?_
            refine lv_icmp_ne (tgt := 96) C.1 C.2.1 d_Re_errorOf_77 (by decide) ?_ ?_
            · intro c54
              refine lv_iconst (v := 0) C.1 C.2.1 d_Re_errorOf_96 (by decide) ?_
              refine lv_istore_n C.1 C.2.1 d_Re_errorOf_97 rfl hl (by decide) rfl (lv' := [(3, .int (0)), (2, .int (1)), (0, .ref (a)), (1, .int (x))]) (fun ls hl => ?_)
              refine lv_iload_n C.1 C.2.1 d_Re_errorOf_98 rfl (lv_at hl 1 rfl) ?_
              refine lv_if_ne (tgt := 106) C.1 C.2.1 d_Re_errorOf_99 (by decide) (fun _ => ?_) (fun hn => absurd hn (by decide))
              refine lv_iconst (v := 4) C.1 C.2.1 d_Re_errorOf_106 (by decide) ?_
              refine lv_goto (tgt := 111) C.1 C.2.1 d_Re_errorOf_107 (by decide) ?_
              have hf : f_Re_errorOf r x = (4 : Int32) := by unfold f_Re_errorOf; rw [if_pos c42, if_pos c44, if_neg c45, if_neg c48, if_neg c51, if_neg c54]
              exact hq_iret C hret hlk (Nat.le_of_ble_eq_true rfl) (Nat.le_of_ble_eq_true rfl) hL ⟨by rw [hf], rfl⟩ d_Re_errorOf_111
            · intro c54
              refine lv_aload_n C.1 C.2.1 d_Re_errorOf_80 rfl (lv_at hl 1 rfl) ?_
              refine hq_get (v := .int (r.b)) C f_Re_32 k0 rfl d_Re_errorOf_81 ?_
              refine lv_iconst (v := 1) C.1 C.2.1 d_Re_errorOf_84 (by decide) ?_
              refine lv_ishl C.1 C.2.1 d_Re_errorOf_85 ?_
              refine lv_iload_n C.1 C.2.1 d_Re_errorOf_86 rfl (lv_at hl 2 rfl) ?_
              refine lv_ior C.1 C.2.1 d_Re_errorOf_87 ?_
              refine lv_iconst (v := 2) C.1 C.2.1 d_Re_errorOf_88 (by decide) ?_
              refine lv_icmp_le (tgt := 96) C.1 C.2.1 d_Re_errorOf_89 (by decide) ?_ ?_
              · intro c55
                refine lv_iconst (v := 0) C.1 C.2.1 d_Re_errorOf_96 (by decide) ?_
                refine lv_istore_n C.1 C.2.1 d_Re_errorOf_97 rfl hl (by decide) rfl (lv' := [(3, .int (0)), (2, .int (1)), (0, .ref (a)), (1, .int (x))]) (fun ls hl => ?_)
                refine lv_iload_n C.1 C.2.1 d_Re_errorOf_98 rfl (lv_at hl 1 rfl) ?_
                refine lv_if_ne (tgt := 106) C.1 C.2.1 d_Re_errorOf_99 (by decide) (fun _ => ?_) (fun hn => absurd hn (by decide))
                refine lv_iconst (v := 4) C.1 C.2.1 d_Re_errorOf_106 (by decide) ?_
                refine lv_goto (tgt := 111) C.1 C.2.1 d_Re_errorOf_107 (by decide) ?_
                have hf : f_Re_errorOf r x = (4 : Int32) := by unfold f_Re_errorOf; rw [if_pos c42, if_pos c44, if_neg c45, if_neg c48, if_neg c51, if_pos c54, if_pos c55]
                exact hq_iret C hret hlk (Nat.le_of_ble_eq_true rfl) (Nat.le_of_ble_eq_true rfl) hL ⟨by rw [hf], rfl⟩ d_Re_errorOf_111
              · intro c55
                refine lv_iconst (v := 1) C.1 C.2.1 d_Re_errorOf_92 (by decide) ?_
                refine lv_goto (tgt := 97) C.1 C.2.1 d_Re_errorOf_93 (by decide) ?_
                refine lv_istore_n C.1 C.2.1 d_Re_errorOf_97 rfl hl (by decide) rfl (lv' := [(3, .int (1)), (2, .int (1)), (0, .ref (a)), (1, .int (x))]) (fun ls hl => ?_)
                refine lv_iload_n C.1 C.2.1 d_Re_errorOf_98 rfl (lv_at hl 1 rfl) ?_
                refine lv_if_ne (tgt := 106) C.1 C.2.1 d_Re_errorOf_99 (by decide) (fun _ => ?_) (fun hn => absurd hn (by decide))
                refine lv_iconst (v := 4) C.1 C.2.1 d_Re_errorOf_106 (by decide) ?_
                refine lv_goto (tgt := 111) C.1 C.2.1 d_Re_errorOf_107 (by decide) ?_
                have hf : f_Re_errorOf r x = (4 : Int32) := by unfold f_Re_errorOf; rw [if_pos c42, if_pos c44, if_neg c45, if_neg c48, if_neg c51, if_pos c54, if_neg c55]
                exact hq_iret C hret hlk (Nat.le_of_ble_eq_true rfl) (Nat.le_of_ble_eq_true rfl) hL ⟨by rw [hf], rfl⟩ d_Re_errorOf_111
    · intro c44
      refine lv_aload_n C.1 C.2.1 d_Re_errorOf_28 rfl (lv_at hl 0 rfl) ?_
      refine lv_aload_n C.1 C.2.1 d_Re_errorOf_29 rfl (lv_at hl 0 rfl) ?_
      refine hq_get (v := .int (r.p)) C f_Re_9 k0 rfl d_Re_errorOf_30 ?_
      refine lv_aload_n C.1 C.2.1 d_Re_errorOf_33 rfl (lv_at hl 0 rfl) ?_
      refine hq_get (v := .int (r.c)) C f_Re_17 k0 rfl d_Re_errorOf_34 ?_
      refine lv_isub C.1 C.2.1 d_Re_errorOf_37 ?_
      refine lv_iload_n C.1 C.2.1 d_Re_errorOf_38 rfl (lv_at hl 1 rfl) ?_
      refine hq_callV (lo := lo) (As := [.int (r.p - r.c), .int (x)]) (rest := []) C tb_good hml Y_Re_66 (c_Re_errorBehindCore l D cI cZ cN cJ lo a r (r.p - r.c) x) k0 rfl (fun _ _ _ _ h => h) (fun U hU hW => by show va_at D vwCl (a, .inr (4, [.int (r.p), .int (r.c), .int (r.l), .int (r.e), .int (r.g), .int (r.i), .int (r.b), .int (r.d)])) U.heap; rw [hU]; exact k0) hL hl.1 rfl rfl ⟨⟨Nat.le_of_ble_eq_true rfl, Nat.le_of_ble_eq_true rfl⟩, Nat.le_of_ble_eq_true rfl, Nat.le_of_ble_eq_true rfl⟩ (Nat.le_of_ble_eq_true rfl) d_Re_errorOf_39 (fun v H56 locs hp hL => ?_)
      obtain ⟨rfl, rfl⟩ := hp
      refine W.eq (g2 := F0 m 42 ls [.int (f_Re_errorBehindCore r (r.p - r.c) x)]) rfl ?_
      have hf : f_Re_errorOf r x = f_Re_errorBehindCore r (r.p - r.c) x := by unfold f_Re_errorOf; rw [if_pos c42, if_neg c44]
      exact hq_iret C hret hlk (Nat.le_of_ble_eq_true rfl) (Nat.le_of_ble_eq_true rfl) hL ⟨by rw [hf], rfl⟩ d_Re_errorOf_42
  · intro c42
    refine lv_iload_n C.1 C.2.1 d_Re_errorOf_7 rfl (lv_at hl 1 rfl) ?_
    refine lv_aload_n C.1 C.2.1 d_Re_errorOf_8 rfl (lv_at hl 0 rfl) ?_
    refine hq_get (v := .int (r.l)) C f_Re_20 k0 rfl d_Re_errorOf_9 ?_
    refine lv_icmp_ne (tgt := 19) C.1 C.2.1 d_Re_errorOf_12 (by decide) ?_ ?_
    · intro c57
      refine lv_iconst (v := 0) C.1 C.2.1 d_Re_errorOf_19 (by decide) ?_
      have hf : f_Re_errorOf r x = (0 : Int32) := by unfold f_Re_errorOf; rw [if_neg c42, if_neg c57]
      exact hq_iret C hret hlk (Nat.le_of_ble_eq_true rfl) (Nat.le_of_ble_eq_true rfl) hL ⟨by rw [hf], rfl⟩ d_Re_errorOf_20
    · intro c57
      refine lv_iconst (v := 3) C.1 C.2.1 d_Re_errorOf_15 (by decide) ?_
      refine lv_goto (tgt := 20) C.1 C.2.1 d_Re_errorOf_16 (by decide) ?_
      have hf : f_Re_errorOf r x = (3 : Int32) := by unfold f_Re_errorOf; rw [if_neg c42, if_pos c57]
      exact hq_iret C hret hlk (Nat.le_of_ble_eq_true rfl) (Nat.le_of_ble_eq_true rfl) hL ⟨by rw [hf], rfl⟩ d_Re_errorOf_20
end
section
/-! The rows of frames, as functions: the size is a number k, at most 4. -/
abbrev sFr := (Nat → Int32) × Nat
abbrev sFr.row (w : sFr) : Nat → Int32 := w.1
abbrev sFr.k (w : sFr) : Nat := w.2
def FrP (D : va_G) (cI : ClassId) (a : Nat) (w : sFr) (H : Heap) : Prop := va_at D vwCl (a, .inr (2, [.ref (a + 1), .int (nI w.k)])) H ∧ va_at D vwCl (a + 1, .inl (cI, 4, .inl w.row)) H
def f_Fr_at (w : sFr) (x : Int32) : Int32 := if x < 0 then 0 else if nI w.k ≤ x then 0 else w.row x.toNatClampNeg
def f_Fr_add (w : sFr) (x : Int32) : sFr := if w.k < 4 then ⟨upd w.row w.k x, w.k + 1⟩ else w
def leastF (row : Nat → Int32) : Nat → Nat → Nat → Nat
  | 0, _, m => m
  | d + 1, i, m => leastF row d (i + 1) (if f_Fr_idOf (row m) ≤ f_Fr_idOf (row i) then m else i)
def f_Fr_placeOfLeastId (w : sFr) : Nat := leastF w.row (w.k - 1) 1 0
def shiftF : Nat → Nat → (Nat → Int32) → (Nat → Int32)
  | 0, _, row => row
  | d + 1, i, row => shiftF d (i + 1) (upd row i (row (i + 1)))
def f_Fr_remove (w : sFr) (x : Int32) : sFr × Int32 := if x < 0 then (w, 0) else if nI w.k ≤ x then (w, 0) else (⟨shiftF (w.k - 1 - x.toNatClampNeg) x.toNatClampNeg w.row, w.k - 1⟩, w.row x.toNatClampNeg)
theorem fr_ix {x : Int32} {k : Nat} (hk : k < 2 ^ 31) (h1 : ¬ x < 0) (h2 : ¬ nI k ≤ x) : ∃ j : Nat, j < k ∧ x = nI j := by
  rcases pk_ix x hk with h | h | h
  · exact absurd h h1
  · exact absurd h h2
  · exact h
theorem leastF_lt (row : Nat → Int32) : ∀ d i m n : Nat, m < n → i + d ≤ n → leastF row d i m < n := by
  intro d
  induction d with
  | zero => intro i m n h1 _; exact h1
  | succ d ih =>
    intro i m n h1 h2
    unfold leastF
    refine ih (i + 1) _ n ?_ (by omega)
    split
    · exact h1
    · omega
set_option maxHeartbeats 4000000 in
set_option maxRecDepth 100000 in
theorem c_Fr_at (l : Launch) (D : va_G) (cI cZ cN cJ : ClassId) (lo : Nat) (a : Nat) (w : sFr) (hk : w.k ≤ 4) (x : Int32) : hq_M l y_Fr_at b_Fr_at 2 (some .int) TB { frames := 0, cells := 0, slots := 0, locals := 0 } lo D vwCl (TY cI cZ cN cJ) [.ref (a), .int (x)] (fun U => FrP D cI a w U.heap) (fun H v H' => v = some (.int (f_Fr_at w x)) ∧ H' = H) := by
  refine hq_ofW (by decide) (Nat.le_of_ble_eq_true rfl) ?_
  intro p e s m below meth c ls C hml hret hlk hnm hl hP
  obtain ⟨k0, k1⟩ := hP
  have hL : hq_L lo [] := hq_L0
  have hl : lv_has ls 2 [(0, .ref (a)), (1, .int (x))] := hl
  refine lv_iload_n C.1 C.2.1 d_Fr_at_0 rfl (lv_at hl 1 rfl) ?_
  refine lv_if_lt (tgt := 21) C.1 C.2.1 d_Fr_at_1 (by decide) ?_ ?_
  · intro c0
    refine lv_iconst (v := 0) C.1 C.2.1 d_Fr_at_21 (by decide) ?_
    exact hq_iret C hret hlk (Nat.le_of_ble_eq_true rfl) (Nat.le_of_ble_eq_true rfl) hL ⟨by unfold f_Fr_at; rw [if_pos c0], rfl⟩ d_Fr_at_22
  · intro c0
    refine lv_iload_n C.1 C.2.1 d_Fr_at_4 rfl (lv_at hl 1 rfl) ?_
    refine lv_aload_n C.1 C.2.1 d_Fr_at_5 rfl (lv_at hl 0 rfl) ?_
    refine hq_get (v := .int (nI w.k)) C f_Fr_15 k0 rfl d_Fr_at_6 ?_
    refine lv_icmp_ge (tgt := 21) C.1 C.2.1 d_Fr_at_9 (by decide) ?_ ?_
    · intro c1
      refine lv_iconst (v := 0) C.1 C.2.1 d_Fr_at_21 (by decide) ?_
      exact hq_iret C hret hlk (Nat.le_of_ble_eq_true rfl) (Nat.le_of_ble_eq_true rfl) hL ⟨by unfold f_Fr_at; rw [if_neg c0, if_pos c1], rfl⟩ d_Fr_at_22
    · intro c1
      refine lv_aload_n C.1 C.2.1 d_Fr_at_12 rfl (lv_at hl 0 rfl) ?_
      refine hq_get (v := .ref (a + 1)) C f_Fr_9 k0 rfl d_Fr_at_13 ?_
      refine lv_iload_n C.1 C.2.1 d_Fr_at_16 rfl (lv_at hl 1 rfl) ?_
      obtain ⟨j, hj, hj2⟩ := fr_ix (by omega) c0 c1
      refine hq_iald C 0 rfl k1 (by rw [hj2]; exact vp_in_nI (by omega) (by decide)) d_Fr_at_17 ?_
      refine W.eq (g2 := F0 m 18 ls [.int (w.row x.toNatClampNeg)]) rfl ?_
      refine lv_goto (tgt := 22) C.1 C.2.1 d_Fr_at_18 (by decide) ?_
      exact hq_iret C hret hlk (Nat.le_of_ble_eq_true rfl) (Nat.le_of_ble_eq_true rfl) hL ⟨by unfold f_Fr_at; rw [if_neg c0, if_neg c1], rfl⟩ d_Fr_at_22
set_option maxHeartbeats 4000000 in
set_option maxRecDepth 100000 in
theorem c_Fr_add (l : Launch) (D : va_G) (cI cZ cN cJ : ClassId) (lo : Nat) (a : Nat) (hlo : lo ≤ a) (w : sFr) (hk : w.k ≤ 4) (x : Int32) : hq_M l y_Fr_add b_Fr_add 2 none TB { frames := 1, cells := 0, slots := 0, locals := 30 } lo D vwCl (TY cI cZ cN cJ) [.ref (a), .int (x)] (fun U => FrP D cI a w U.heap) (fun H v H' => v = none ∧ FrP D cI a (f_Fr_add w x) H' ∧ hq_S a 2 H H') := by
  refine hq_ofW (by decide) (Nat.le_of_ble_eq_true rfl) ?_
  intro p e s m below meth c ls C hml hret hlk hnm hl hP
  obtain ⟨k0, k1⟩ := hP
  have hL : hq_L lo [] := hq_L0
  have hl : lv_has ls 2 [(0, .ref (a)), (1, .int (x))] := hl
  refine lv_aload_n C.1 C.2.1 d_Fr_add_0 rfl (lv_at hl 0 rfl) ?_
  refine hq_callV (lo := lo) (As := []) (rest := []) C tb_good hml Y_Fr_19 (c_isFull l D cI cZ cN cJ lo a (a + 1) (nI w.k)) k0 rfl (fun _ _ _ _ h => h) (fun U hU hW => by show va_at D vwCl (a, .inr (2, [.ref (a + 1), .int (nI w.k)])) U.heap; rw [hU]; exact k0) hL hl.1 rfl rfl ⟨⟨Nat.le_of_ble_eq_true rfl, Nat.le_of_ble_eq_true rfl⟩, Nat.le_of_ble_eq_true rfl, Nat.le_of_ble_eq_true rfl⟩ (Nat.le_of_ble_eq_true rfl) d_Fr_add_1 (fun v H41 locs hp hL => ?_)
  obtain ⟨rfl, rfl⟩ := hp
  refine W.eq (g2 := F0 m 4 ls [.int (fl (nI w.k))]) rfl ?_
  by_cases h4 : w.k < 4
  · have hfl : fl (nI w.k) = 0 := by unfold fl; rw [if_pos (show nI w.k < 4 from nI_lt h4 (by decide))]
    refine lv_if_ne (tgt := 27) C.1 C.2.1 d_Fr_add_4 (by decide) (fun hn => absurd hn (fun h9 => h9 hfl)) (fun _ => ?_)
    refine lv_aload_n C.1 C.2.1 d_Fr_add_7 rfl (lv_at hl 0 rfl) ?_
    refine hq_get (v := .ref (a + 1)) C f_Fr_9 k0 rfl d_Fr_add_8 ?_
    refine lv_aload_n C.1 C.2.1 d_Fr_add_11 rfl (lv_at hl 0 rfl) ?_
    refine hq_get (v := .int (nI w.k)) C f_Fr_15 k0 rfl d_Fr_add_12 ?_
    refine lv_iload_n C.1 C.2.1 d_Fr_add_15 rfl (lv_at hl 1 rfl) ?_
    refine hq_iast (lo := lo) C 0 rfl k1 (vp_in_nI h4 (by decide)) hL (by omega) d_Fr_add_16 (fun H1 locs u1 hL => ?_)
    have k42 : va_at D vwCl (a + 1, .inl (cI, 4, .inl (upd w.row (nI w.k).toNatClampNeg x))) H1 := u1.2.2
    rw [nI_clamp (by omega)] at k42
    refine lv_aload_n C.1 C.2.1 d_Fr_add_17 rfl (lv_at hl 0 rfl) ?_
    refine lv_dup C.1 C.2.1 d_Fr_add_18 rfl ?_
    have k43 := hq_au k0 u1 (by omega)
    refine hq_get (v := .int (nI w.k)) C f_Fr_15 k43 rfl d_Fr_add_19 ?_
    refine lv_iconst (v := 1) C.1 C.2.1 d_Fr_add_22 (by decide) ?_
    refine lv_iadd C.1 C.2.1 d_Fr_add_23 ?_
    rw [nI_1 w.k]
    refine hq_put (lo := lo) C f_Fr_15 k43 rfl rfl (Nat.le_of_ble_eq_true rfl) hL (by omega) d_Fr_add_24 (fun H44 locs u45 hL => ?_)
    have k46 : va_at D vwCl (a, .inr (2, [.ref (a + 1), .int (nI (w.k + 1))])) H44 := u45.2.2
    have k47 := hq_au k42 u45 (by omega)
    exact hq_vret C hret hlk (Nat.le_of_ble_eq_true rfl) (Nat.le_of_ble_eq_true rfl) hL ⟨rfl, by unfold f_Fr_add; rw [if_pos h4]; exact ⟨k46, k47⟩, hq_Sput (hq_Sput hq_S0 u1 (by omega) (by omega)) u45 (by omega) (by omega)⟩ d_Fr_add_27
  · have hfl : ¬ fl (nI w.k) = 0 := by
      unfold fl; rw [if_neg (show ¬ nI w.k < 4 from nI_nlt (a := w.k) (b := 4) (by omega) (by omega))]; decide
    refine lv_if_ne (tgt := 27) C.1 C.2.1 d_Fr_add_4 (by decide) (fun _ => ?_) (fun hn => absurd hn (hfl))
    exact hq_vret C hret hlk (Nat.le_of_ble_eq_true rfl) (Nat.le_of_ble_eq_true rfl) hL ⟨rfl, by unfold f_Fr_add; rw [if_neg h4]; exact ⟨k0, k1⟩, hq_S0⟩ d_Fr_add_27
set_option maxHeartbeats 4000000 in
set_option maxRecDepth 100000 in
theorem fr_least {p : Program} {l : Launch} {e : Env} {s : State} {m : MethodId} {args : Array Value} {below : List Frame} {meth : Method} {c : Code} (D : va_G) (cI cZ cN cJ : ClassId) (lo a : Nat) (w : sFr) (hk : w.k ≤ 4) {R9 : Nat} (C : hq_C p c s m args R_Fr b_Fr_placeOfLeastId TB D vwCl (TY cI cZ cN cJ)) (hml : c.maxLocals = 3) (hret : meth.sig.returnType = some .int) (hlk : meth.locks = false) (k0 : va_at D vwCl (a, .inr (2, [.ref (a + 1), .int (nI w.k)])) s.heap) (k1 : va_at D vwCl (a + 1, .inl (cI, 4, .inl (w.row))) s.heap) :
    ∀ (d i q : Nat) (ls : Array Slot) (locs : List Loc), d = w.k - i → q < i → leastF w.row d i q = R9 → hq_L lo locs → lv_has ls 3 [(2, .int (nI i)), (1, .int (nI q)), (0, .ref a)] → i ≤ 4 →
      W p l e { frames := 1, cells := 0, slots := 0, locals := 20 } s m args below meth c s.heap locs 0 0 (MQ below (hq_Q (fun H v H' => v = some (.int (nI R9)) ∧ H' = H)) args s 0 0 (fun q => lo ≤ q)) (F0 m 4 ls []) := by
  intro d
  induction d with
  | zero =>
    intro i q ls locs hd hqi hR hL hl hi4
    refine lv_iload_n C.1 C.2.1 d_Fr_placeOfLeastId_4 rfl (lv_at hl 0 rfl) ?_
    refine lv_aload_n C.1 C.2.1 d_Fr_placeOfLeastId_5 rfl (lv_at hl 2 rfl) ?_
    refine hq_get (v := .int (nI w.k)) C f_Fr_15 k0 rfl d_Fr_placeOfLeastId_6 ?_
    have hik : w.k ≤ i := by omega
    refine lv_icmp_ge (tgt := 41) C.1 C.2.1 d_Fr_placeOfLeastId_9 (by decide) (fun _ => ?_) (fun hn => absurd (nI_le hik (by omega)) hn)
    refine lv_iload_n C.1 C.2.1 d_Fr_placeOfLeastId_41 rfl (lv_at hl 1 rfl) ?_
    exact hq_iret C hret hlk (Nat.le_of_ble_eq_true rfl) (Nat.le_of_ble_eq_true rfl) hL ⟨by rw [← hR]; rfl, rfl⟩ d_Fr_placeOfLeastId_42
  | succ d ih =>
    intro i q ls locs hd hqi hR hL hl hi4
    refine lv_iload_n C.1 C.2.1 d_Fr_placeOfLeastId_4 rfl (lv_at hl 0 rfl) ?_
    refine lv_aload_n C.1 C.2.1 d_Fr_placeOfLeastId_5 rfl (lv_at hl 2 rfl) ?_
    refine hq_get (v := .int (nI w.k)) C f_Fr_15 k0 rfl d_Fr_placeOfLeastId_6 ?_
    have hik : i < w.k := by omega
    refine lv_icmp_ge (tgt := 41) C.1 C.2.1 d_Fr_placeOfLeastId_9 (by decide) (fun hn => absurd hn (nI_ge hik (by omega))) (fun _ => ?_)
    refine lv_aload_n C.1 C.2.1 d_Fr_placeOfLeastId_12 rfl (lv_at hl 2 rfl) ?_
    refine hq_get (v := .ref (a + 1)) C f_Fr_9 k0 rfl d_Fr_placeOfLeastId_13 ?_
    refine lv_iload_n C.1 C.2.1 d_Fr_placeOfLeastId_16 rfl (lv_at hl 0 rfl) ?_
    refine hq_iald C 0 rfl k1 (vp_in_nI (show i < 4 by omega) (by decide)) d_Fr_placeOfLeastId_17 ?_
    rw [nI_clamp (show i < 2 ^ 31 by omega)]
    refine W.eq (g2 := F0 m 18 ls [.int (w.row i)]) rfl ?_
    refine hq_callS (lo := lo) (As := [.int (w.row i)]) (rest := []) C tb_good hml Y_Fr_23 (c_Fr_idOf l D cI cZ cN cJ lo (w.row i)) (fun _ _ _ _ h => h) (fun U hU hW => trivial) hL hl.1 rfl rfl ⟨⟨Nat.le_of_ble_eq_true rfl, Nat.le_of_ble_eq_true rfl⟩, Nat.le_of_ble_eq_true rfl, Nat.le_of_ble_eq_true rfl⟩ (Nat.le_of_ble_eq_true rfl) d_Fr_placeOfLeastId_18 (fun v H41 locs hp hL => ?_)
    obtain ⟨rfl, rfl⟩ := hp
    refine W.eq (g2 := F0 m 21 ls [.int (f_Fr_idOf (w.row i))]) rfl ?_
    refine lv_aload_n C.1 C.2.1 d_Fr_placeOfLeastId_21 rfl (lv_at hl 2 rfl) ?_
    refine hq_get (v := .ref (a + 1)) C f_Fr_9 k0 rfl d_Fr_placeOfLeastId_22 ?_
    refine lv_iload_n C.1 C.2.1 d_Fr_placeOfLeastId_25 rfl (lv_at hl 1 rfl) ?_
    refine hq_iald C 0 rfl k1 (vp_in_nI (show q < 4 by omega) (by decide)) d_Fr_placeOfLeastId_26 ?_
    rw [nI_clamp (show q < 2 ^ 31 by omega)]
    refine W.eq (g2 := F0 m 27 ls [.int (w.row q), .int (f_Fr_idOf (w.row i))]) rfl ?_
    refine hq_callS (lo := lo) (As := [.int (w.row q)]) (rest := [.int (f_Fr_idOf (w.row i))]) C tb_good hml Y_Fr_23 (c_Fr_idOf l D cI cZ cN cJ lo (w.row q)) (fun _ _ _ _ h => h) (fun U hU hW => trivial) hL hl.1 rfl rfl ⟨⟨Nat.le_of_ble_eq_true rfl, Nat.le_of_ble_eq_true rfl⟩, Nat.le_of_ble_eq_true rfl, Nat.le_of_ble_eq_true rfl⟩ (Nat.le_of_ble_eq_true rfl) d_Fr_placeOfLeastId_27 (fun v H42 locs hp hL => ?_)
    obtain ⟨rfl, rfl⟩ := hp
    refine W.eq (g2 := F0 m 30 ls [.int (f_Fr_idOf (w.row q)), .int (f_Fr_idOf (w.row i))]) rfl ?_
    refine lv_icmp_ge (tgt := 35) C.1 C.2.1 d_Fr_placeOfLeastId_30 (by decide) ?_ ?_
    · intro c0
      refine lv_iinc (k := 0) (v := nI (i + 1)) C.1 C.2.1 d_Fr_placeOfLeastId_35 hl rfl (nI_1 i) (by decide) (lv' := [(2, .int (nI (i + 1))), (1, .int (nI q)), (0, .ref (a))]) rfl (fun ls hl => ?_)
      refine lv_goto (tgt := 4) C.1 C.2.1 d_Fr_placeOfLeastId_38 (by decide) ?_
      exact ih (i + 1) q ls locs (by omega) (by omega) (by rw [← hR, show leastF w.row (d + 1) i q = leastF w.row d (i + 1) (if f_Fr_idOf (w.row q) ≤ f_Fr_idOf (w.row i) then q else i) from rfl, if_pos c0]) hL hl (by omega)
    · intro c0
      refine lv_iload_n C.1 C.2.1 d_Fr_placeOfLeastId_33 rfl (lv_at hl 0 rfl) ?_
      refine lv_istore_n C.1 C.2.1 d_Fr_placeOfLeastId_34 rfl hl (by decide) rfl (lv' := [(1, .int (nI i)), (2, .int (nI i)), (0, .ref (a))]) (fun ls hl => ?_)
      refine lv_iinc (k := 1) (v := nI (i + 1)) C.1 C.2.1 d_Fr_placeOfLeastId_35 hl rfl (nI_1 i) (by decide) (lv' := [(2, .int (nI (i + 1))), (1, .int (nI i)), (0, .ref (a))]) rfl (fun ls hl => ?_)
      refine lv_goto (tgt := 4) C.1 C.2.1 d_Fr_placeOfLeastId_38 (by decide) ?_
      exact ih (i + 1) i ls locs (by omega) (by omega) (by rw [← hR, show leastF w.row (d + 1) i q = leastF w.row d (i + 1) (if f_Fr_idOf (w.row q) ≤ f_Fr_idOf (w.row i) then q else i) from rfl, if_neg c0]) hL (lv_push (lv_push (lv_push (lv_nil hl) (lv_at hl 2 rfl)) (lv_at hl 1 rfl)) (lv_at hl 0 rfl)) (by omega)
set_option maxHeartbeats 4000000 in
set_option maxRecDepth 100000 in
theorem c_Fr_placeOfLeastId (l : Launch) (D : va_G) (cI cZ cN cJ : ClassId) (lo : Nat) (a : Nat) (w : sFr) (hk : w.k ≤ 4) : hq_M l y_Fr_placeOfLeastId b_Fr_placeOfLeastId 3 (some .int) TB { frames := 1, cells := 0, slots := 0, locals := 20 } lo D vwCl (TY cI cZ cN cJ) [.ref (a)] (fun U => FrP D cI a w U.heap) (fun H v H' => v = some (.int (nI (f_Fr_placeOfLeastId w))) ∧ H' = H) := by
  refine hq_ofW (by decide) (Nat.le_of_ble_eq_true rfl) ?_
  intro p e s m below meth c ls C hml hret hlk hnm hl hP
  obtain ⟨k0, k1⟩ := hP
  have hL : hq_L lo [] := hq_L0
  have hl : lv_has ls 3 [(0, .ref (a))] := hl
  refine lv_iconst (v := 0) C.1 C.2.1 d_Fr_placeOfLeastId_0 (by decide) ?_
  refine lv_istore_n C.1 C.2.1 d_Fr_placeOfLeastId_1 rfl hl (by decide) rfl (lv' := [(1, .int (0)), (0, .ref (a))]) (fun ls hl => ?_)
  refine lv_iconst (v := 1) C.1 C.2.1 d_Fr_placeOfLeastId_2 (by decide) ?_
  refine lv_istore_n C.1 C.2.1 d_Fr_placeOfLeastId_3 rfl hl (by decide) rfl (lv' := [(2, .int (1)), (1, .int (0)), (0, .ref (a))]) (fun ls hl => ?_)
  exact fr_least D cI cZ cN cJ lo a w hk C hml hret hlk k0 k1 (w.k - 1) 1 0 ls [] rfl (by decide) rfl hL hl (by decide)
set_option maxHeartbeats 4000000 in
set_option maxRecDepth 100000 in
theorem fr_shift {p : Program} {l : Launch} {e : Env} {s : State} {m : MethodId} {args : Array Value} {below : List Frame} {meth : Method} {c : Code} (D : va_G) (cI cZ cN cJ : ClassId) (lo a : Nat) (hlo : lo ≤ a) (k : Nat) (hk : k ≤ 3) (g : Int32) {R9 : Nat → Int32} (C : hq_C p c s m args R_Fr b_Fr_remove TB D vwCl (TY cI cZ cN cJ)) (hml : c.maxLocals = 4) (hret : meth.sig.returnType = some .int) (hlk : meth.locks = false) :
    ∀ (d i : Nat) (row : Nat → Int32) (H : Heap) (ls : Array Slot) (locs : List Loc), i ≤ 4 → d = k - i → shiftF d i row = R9 → hq_S a 2 s.heap H → hq_L lo locs → lv_has ls 4 [(3, .int (nI i)), (2, .int g), (0, .ref a)] → va_at D vwCl (a, .inr (2, [.ref (a + 1), .int (nI k)])) H → va_at D vwCl (a + 1, .inl (cI, 4, .inl (row))) H →
      W p l e { frames := 1, cells := 0, slots := 0, locals := 30 } s m args below meth c H locs 0 0 (MQ below (hq_Q (fun H v H' => v = some (.int g) ∧ FrP D cI a ⟨R9, k⟩ H' ∧ hq_S a 2 H H')) args s 0 0 (fun q => lo ≤ q)) (F0 m 30 ls []) := by
  intro d
  induction d with
  | zero =>
    intro i row H ls locs hi hd hR hS hL hl k0 k1
    refine lv_iload_n C.1 C.2.1 d_Fr_remove_30 rfl (lv_at hl 0 rfl) ?_
    refine lv_aload_n C.1 C.2.1 d_Fr_remove_31 rfl (lv_at hl 2 rfl) ?_
    refine hq_get (v := .int (nI k)) C f_Fr_15 k0 rfl d_Fr_remove_32 ?_
    have hik : k ≤ i := by omega
    refine lv_icmp_ge (tgt := 58) C.1 C.2.1 d_Fr_remove_35 (by decide) (fun _ => ?_) (fun hn => absurd (nI_le hik (by omega)) hn)
    refine lv_iload_n C.1 C.2.1 d_Fr_remove_58 rfl (lv_at hl 1 rfl) ?_
    subst hR
    exact hq_iret C hret hlk (Nat.le_of_ble_eq_true rfl) (Nat.le_of_ble_eq_true rfl) hL ⟨rfl, ⟨k0, k1⟩, hS⟩ d_Fr_remove_59
  | succ d ih =>
    intro i row H ls locs hi hd hR hS hL hl k0 k1
    refine lv_iload_n C.1 C.2.1 d_Fr_remove_30 rfl (lv_at hl 0 rfl) ?_
    refine lv_aload_n C.1 C.2.1 d_Fr_remove_31 rfl (lv_at hl 2 rfl) ?_
    refine hq_get (v := .int (nI k)) C f_Fr_15 k0 rfl d_Fr_remove_32 ?_
    have hik : i < k := by omega
    refine lv_icmp_ge (tgt := 58) C.1 C.2.1 d_Fr_remove_35 (by decide) (fun hn => absurd hn (nI_ge hik (by omega))) (fun _ => ?_)
    refine lv_aload_n C.1 C.2.1 d_Fr_remove_38 rfl (lv_at hl 2 rfl) ?_
    refine hq_get (v := .ref (a + 1)) C f_Fr_9 k0 rfl d_Fr_remove_39 ?_
    refine lv_iload_n C.1 C.2.1 d_Fr_remove_42 rfl (lv_at hl 0 rfl) ?_
    refine lv_aload_n C.1 C.2.1 d_Fr_remove_43 rfl (lv_at hl 2 rfl) ?_
    refine hq_get (v := .ref (a + 1)) C f_Fr_9 k0 rfl d_Fr_remove_44 ?_
    refine lv_iload_n C.1 C.2.1 d_Fr_remove_47 rfl (lv_at hl 0 rfl) ?_
    refine lv_iconst (v := 1) C.1 C.2.1 d_Fr_remove_48 (by decide) ?_
    refine lv_iadd C.1 C.2.1 d_Fr_remove_49 ?_
    rw [nI_1 i]
    refine hq_iald C 0 rfl k1 (vp_in_nI (show i + 1 < 4 by omega) (by decide)) d_Fr_remove_50 ?_
    rw [nI_clamp (show i + 1 < 2 ^ 31 by omega)]
    refine W.eq (g2 := F0 m 51 ls [.int (row (i + 1)), .int (nI i), .ref (a + 1)]) rfl ?_
    refine hq_iast (lo := lo) C 0 rfl k1 (vp_in_nI (show i < 4 by omega) (by decide)) hL (by omega) d_Fr_remove_51 (fun H1 locs u1 hL => ?_)
    have k41 : va_at D vwCl (a + 1, .inl (cI, 4, .inl (upd row (nI i).toNatClampNeg (row (i + 1))))) H1 := u1.2.2
    rw [nI_clamp (show i < 2 ^ 31 by omega)] at k41
    have k42 := hq_au k0 u1 (by omega)
    refine lv_iinc (k := 0) (v := nI (i + 1)) C.1 C.2.1 d_Fr_remove_52 hl rfl (nI_1 i) (by decide) (lv' := [(3, .int (nI (i + 1))), (2, .int (g)), (0, .ref (a))]) rfl (fun ls hl => ?_)
    refine lv_goto (tgt := 30) C.1 C.2.1 d_Fr_remove_55 (by decide) ?_
    exact ih (i + 1) _ H1 ls locs (by omega) (by omega) hR (hq_Sput hS u1 (by omega) (by omega)) hL hl k42 k41
theorem fr_pred {k : Nat} (h : 0 < k) : nI k - 1 = nI (k - 1) := by
  have h1 : nI (k - 1) + 1 = nI (k - 1 + 1) := nI_1 (k - 1)
  rw [show k - 1 + 1 = k by omega] at h1
  rw [← h1, Int32.add_sub_cancel]
set_option maxHeartbeats 4000000 in
set_option maxRecDepth 100000 in
theorem c_Fr_remove (l : Launch) (D : va_G) (cI cZ cN cJ : ClassId) (lo : Nat) (a : Nat) (hlo : lo ≤ a) (w : sFr) (hk : w.k ≤ 4) (x : Int32) : hq_M l y_Fr_remove b_Fr_remove 4 (some .int) TB { frames := 1, cells := 0, slots := 0, locals := 30 } lo D vwCl (TY cI cZ cN cJ) [.ref (a), .int (x)] (fun U => FrP D cI a w U.heap) (fun H v H' => v = some (.int (f_Fr_remove w x).2) ∧ FrP D cI a (f_Fr_remove w x).1 H' ∧ hq_S a 2 H H') := by
  refine hq_ofW (by decide) (Nat.le_of_ble_eq_true rfl) ?_
  intro p e s m below meth c ls C hml hret hlk hnm hl hP
  obtain ⟨k0, k1⟩ := hP
  have hL : hq_L lo [] := hq_L0
  have hl : lv_has ls 4 [(0, .ref (a)), (1, .int (x))] := hl
  refine lv_aload_n C.1 C.2.1 d_Fr_remove_0 rfl (lv_at hl 0 rfl) ?_
  refine lv_iload_n C.1 C.2.1 d_Fr_remove_1 rfl (lv_at hl 1 rfl) ?_
  refine hq_callV (lo := lo) (As := [.int (x)]) (rest := []) C tb_good hml Y_Fr_27 (c_Fr_at l D cI cZ cN cJ lo a w hk x) k0 rfl (fun _ _ _ _ h => h) (fun U hU hW => by show FrP D cI a w U.heap; rw [hU]; exact ⟨k0, k1⟩) hL hl.1 rfl rfl ⟨⟨Nat.le_of_ble_eq_true rfl, Nat.le_of_ble_eq_true rfl⟩, Nat.le_of_ble_eq_true rfl, Nat.le_of_ble_eq_true rfl⟩ (Nat.le_of_ble_eq_true rfl) d_Fr_remove_2 (fun v H41 locs hp hL => ?_)
  obtain ⟨rfl, rfl⟩ := hp
  refine W.eq (g2 := F0 m 5 ls [.int (f_Fr_at w x)]) rfl ?_
  refine lv_istore_n C.1 C.2.1 d_Fr_remove_5 rfl hl (by decide) rfl (lv' := [(2, .int (f_Fr_at w x)), (0, .ref (a)), (1, .int (x))]) (fun ls hl => ?_)
  refine lv_iload_n C.1 C.2.1 d_Fr_remove_6 rfl (lv_at hl 2 rfl) ?_
  refine lv_if_lt (tgt := 58) C.1 C.2.1 d_Fr_remove_7 (by decide) ?_ ?_
  · intro c0
    refine lv_iload_n C.1 C.2.1 d_Fr_remove_58 rfl (lv_at hl 0 rfl) ?_
    have hf : f_Fr_remove w x = (w, f_Fr_at w x) := by unfold f_Fr_remove f_Fr_at; rw [if_pos c0, if_pos c0]
    exact hq_iret C hret hlk (Nat.le_of_ble_eq_true rfl) (Nat.le_of_ble_eq_true rfl) hL ⟨by rw [hf], by rw [hf]; exact ⟨k0, k1⟩, hq_S0⟩ d_Fr_remove_59
  · intro c0
    refine lv_iload_n C.1 C.2.1 d_Fr_remove_10 rfl (lv_at hl 2 rfl) ?_
    refine lv_aload_n C.1 C.2.1 d_Fr_remove_11 rfl (lv_at hl 1 rfl) ?_
    refine hq_get (v := .int (nI w.k)) C f_Fr_15 k0 rfl d_Fr_remove_12 ?_
    refine lv_icmp_ge (tgt := 58) C.1 C.2.1 d_Fr_remove_15 (by decide) ?_ ?_
    · intro c1
      refine lv_iload_n C.1 C.2.1 d_Fr_remove_58 rfl (lv_at hl 0 rfl) ?_
      have hf : f_Fr_remove w x = (w, f_Fr_at w x) := by unfold f_Fr_remove f_Fr_at; rw [if_neg c0, if_neg c0, if_pos c1, if_pos c1]
      exact hq_iret C hret hlk (Nat.le_of_ble_eq_true rfl) (Nat.le_of_ble_eq_true rfl) hL ⟨by rw [hf], by rw [hf]; exact ⟨k0, k1⟩, hq_S0⟩ d_Fr_remove_59
    · intro c1
      obtain ⟨j, hj, hj2⟩ := fr_ix (by omega) c0 c1
      have hf : f_Fr_remove w x = (⟨shiftF (w.k - 1 - j) j w.row, w.k - 1⟩, f_Fr_at w x) := by unfold f_Fr_remove f_Fr_at; rw [if_neg c0, if_neg c0, if_neg c1, if_neg c1, hj2, nI_clamp (by omega)]
      refine lv_aload_n C.1 C.2.1 d_Fr_remove_18 rfl (lv_at hl 1 rfl) ?_
      refine lv_dup C.1 C.2.1 d_Fr_remove_19 rfl ?_
      refine hq_get (v := .int (nI w.k)) C f_Fr_15 k0 rfl d_Fr_remove_20 ?_
      refine lv_iconst (v := 1) C.1 C.2.1 d_Fr_remove_23 (by decide) ?_
      refine lv_isub C.1 C.2.1 d_Fr_remove_24 ?_
      rw [show nI w.k - 1 = nI (w.k - 1) from fr_pred (by omega)]
      refine hq_put (lo := lo) C f_Fr_15 k0 rfl rfl (Nat.le_of_ble_eq_true rfl) hL (by omega) d_Fr_remove_25 (fun H42 locs u43 hL => ?_)
      have k44 : va_at D vwCl (a, .inr (2, [.ref (a + 1), .int (nI (w.k - 1))])) H42 := u43.2.2
      refine lv_iload_n C.1 C.2.1 d_Fr_remove_28 rfl (lv_at hl 2 rfl) ?_
      refine lv_istore_n C.1 C.2.1 d_Fr_remove_29 rfl hl (by decide) rfl (lv' := [(3, .int (x)), (2, .int (f_Fr_at w x)), (0, .ref (a)), (1, .int (x))]) (fun ls hl => ?_)
      have k45 := hq_au k1 u43 (by omega)
      have hl9 : lv_has ls 4 [(3, .int (nI j)), (2, .int (f_Fr_at w x)), (0, .ref a)] := by rw [← hj2]; exact lv_push (lv_push (lv_push (lv_nil hl) (lv_at hl 2 rfl)) (lv_at hl 1 rfl)) (lv_at hl 0 rfl)
      have hW := fr_shift (p := p) (l := l) (e := e) (below := below) D cI cZ cN cJ lo a hlo (w.k - 1) (by omega) (f_Fr_at w x) C hml hret hlk (w.k - 1 - j) j w.row _ ls _ (by omega) rfl rfl (hq_Sput hq_S0 u43 (by omega) (by omega)) hL hl9 k44 k45
      rw [hf]
      exact hW
end
section
/-! The core that a node writes, and the ring of disturbances, as functions. -/
abbrev sCo := (Nat → Int32) × Nat × Int32
abbrev sCo.bits (k : sCo) : Nat → Int32 := k.1
abbrev sCo.len (k : sCo) : Nat := k.2.1
abbrev sCo.reg (k : sCo) : Int32 := k.2.2
def CoP (D : va_G) (cI : ClassId) (a : Nat) (k : sCo) (H : Heap) : Prop := va_at D vwCl (a, .inr (0, [.ref (a + 1), .int (nI k.len), .int k.reg])) H ∧ va_at D vwCl (a + 1, .inl (cI, 50, .inl k.bits)) H
def f_Co_bitAt (k : sCo) (x : Int32) : Int32 := if x < 0 then 1 else if nI k.len ≤ x then 1 else k.bits x.toNatClampNeg
def app1 (k : sCo) (b : Int32) : sCo := if k.len < 50 then ⟨upd k.bits k.len b, k.len + 1, f_Co_registerBehind k.reg b⟩ else ⟨k.bits, k.len, f_Co_registerBehind k.reg b⟩
def f_Co_append (x : Int32) : Nat → sCo → sCo
  | 0, k => k
  | d + 1, k => f_Co_append x d (app1 k ((x >>> (nI d &&& 31)) &&& 1))
theorem app1_len {k : sCo} {b : Int32} (h : k.len ≤ 50) : (app1 k b).len ≤ 50 := by
  unfold app1
  split
  · show k.len + 1 ≤ 50; omega
  · exact h
theorem append_len (x : Int32) : ∀ (d : Nat) (k : sCo), k.len ≤ 50 → (f_Co_append x d k).len ≤ 50 := by
  intro d
  induction d with
  | zero => intro k h; exact h
  | succ d ih => intro k h; exact ih _ (app1_len h)
set_option maxHeartbeats 4000000 in
set_option maxRecDepth 100000 in
theorem c_Co_bitAt (l : Launch) (D : va_G) (cI cZ cN cJ : ClassId) (lo : Nat) (a : Nat) (k : sCo) (hk : k.len ≤ 50) (x : Int32) : hq_M l y_Co_bitAt b_Co_bitAt 2 (some .int) TB { frames := 0, cells := 0, slots := 0, locals := 0 } lo D vwCl (TY cI cZ cN cJ) [.ref (a), .int (x)] (fun U => CoP D cI a k U.heap) (fun H v H' => v = some (.int (f_Co_bitAt k x)) ∧ H' = H) := by
  refine hq_ofW (by decide) (Nat.le_of_ble_eq_true rfl) ?_
  intro p e s m below meth c ls C hml hret hlk hnm hl hP
  obtain ⟨k0, k1⟩ := hP
  have hL : hq_L lo [] := hq_L0
  have hl : lv_has ls 2 [(0, .ref (a)), (1, .int (x))] := hl
  refine lv_iload_n C.1 C.2.1 d_Co_bitAt_0 rfl (lv_at hl 1 rfl) ?_
  refine lv_if_lt (tgt := 21) C.1 C.2.1 d_Co_bitAt_1 (by decide) ?_ ?_
  · intro c0
    refine lv_iconst (v := 1) C.1 C.2.1 d_Co_bitAt_21 (by decide) ?_
    exact hq_iret C hret hlk (Nat.le_of_ble_eq_true rfl) (Nat.le_of_ble_eq_true rfl) hL ⟨by unfold f_Co_bitAt; rw [if_pos c0], rfl⟩ d_Co_bitAt_22
  · intro c0
    refine lv_iload_n C.1 C.2.1 d_Co_bitAt_4 rfl (lv_at hl 1 rfl) ?_
    refine lv_aload_n C.1 C.2.1 d_Co_bitAt_5 rfl (lv_at hl 0 rfl) ?_
    refine hq_get (v := .int (nI k.len)) C f_Co_15 k0 rfl d_Co_bitAt_6 ?_
    refine lv_icmp_ge (tgt := 21) C.1 C.2.1 d_Co_bitAt_9 (by decide) ?_ ?_
    · intro c1
      refine lv_iconst (v := 1) C.1 C.2.1 d_Co_bitAt_21 (by decide) ?_
      exact hq_iret C hret hlk (Nat.le_of_ble_eq_true rfl) (Nat.le_of_ble_eq_true rfl) hL ⟨by unfold f_Co_bitAt; rw [if_neg c0, if_pos c1], rfl⟩ d_Co_bitAt_22
    · intro c1
      refine lv_aload_n C.1 C.2.1 d_Co_bitAt_12 rfl (lv_at hl 0 rfl) ?_
      refine hq_get (v := .ref (a + 1)) C f_Co_11 k0 rfl d_Co_bitAt_13 ?_
      refine lv_iload_n C.1 C.2.1 d_Co_bitAt_16 rfl (lv_at hl 1 rfl) ?_
      obtain ⟨j, hj, hj2⟩ := fr_ix (by omega) c0 c1
      refine hq_iald C 0 rfl k1 (by rw [hj2]; exact vp_in_nI (by omega) (by decide)) d_Co_bitAt_17 ?_
      refine W.eq (g2 := F0 m 18 ls [.int (k.bits x.toNatClampNeg)]) rfl ?_
      refine lv_goto (tgt := 22) C.1 C.2.1 d_Co_bitAt_18 (by decide) ?_
      exact hq_iret C hret hlk (Nat.le_of_ble_eq_true rfl) (Nat.le_of_ble_eq_true rfl) hL ⟨by unfold f_Co_bitAt; rw [if_neg c0, if_neg c1], rfl⟩ d_Co_bitAt_22
set_option maxHeartbeats 4000000 in
set_option maxRecDepth 100000 in
theorem co_append {p : Program} {l : Launch} {e : Env} {s : State} {m : MethodId} {args : Array Value} {below : List Frame} {meth : Method} {c : Code} (D : va_G) (cI cZ cN cJ : ClassId) (lo a : Nat) (hlo : lo ≤ a) (x : Int32) {R9 : sCo} (C : hq_C p c s m args R_Co b_Co_append TB D vwCl (TY cI cZ cN cJ)) (hml : c.maxLocals = 5) (hret : meth.sig.returnType = none) (hlk : meth.locks = false) :
    ∀ (d : Nat) (hd : d < 100) (k : sCo) (H : Heap) (ls : Array Slot) (locs : List Loc), k.len ≤ 50 → f_Co_append x d k = R9 → hq_S a 2 s.heap H → hq_L lo locs → lv_has ls 5 [(3, .int (nI d - 1)), (1, .int x), (0, .ref a)] → va_at D vwCl (a, .inr (0, [.ref (a + 1), .int (nI k.len), .int (k.reg)])) H → va_at D vwCl (a + 1, .inl (cI, 50, .inl (k.bits))) H →
      W p l e { frames := 1, cells := 0, slots := 0, locals := 30 } s m args below meth c H locs 0 0 (MQ below (hq_Q (fun H v H' => v = none ∧ CoP D cI a R9 H' ∧ hq_S a 2 H H')) args s 0 0 (fun q => lo ≤ q)) (F0 m 4 ls []) := by
  intro d
  induction d with
  | zero =>
    intro hd
    intro k H ls locs hk hR hS hL hl k0 k1
    refine lv_iload_n C.1 C.2.1 d_Co_append_4 rfl (lv_at hl 0 rfl) ?_
    refine lv_if_lt (tgt := 64) C.1 C.2.1 d_Co_append_5 (by decide) (fun _ => ?_) (fun hn => absurd (show nI 0 - 1 < 0 from by decide) hn)
    subst hR
    exact hq_vret C hret hlk (Nat.le_of_ble_eq_true rfl) (Nat.le_of_ble_eq_true rfl) hL ⟨rfl, ⟨k0, k1⟩, hS⟩ d_Co_append_64
  | succ d ih =>
    intro hd
    have ih := ih (by omega)
    intro k H ls locs hk hR hS hL hl k0 k1
    rw [show nI (d + 1) - 1 = nI d from fr_pred (k := d + 1) (by omega)] at hl
    refine lv_iload_n C.1 C.2.1 d_Co_append_4 rfl (lv_at hl 0 rfl) ?_
    refine lv_if_lt (tgt := 64) C.1 C.2.1 d_Co_append_5 (by decide) (fun hn => absurd hn (nI_pos (by omega))) (fun _ => ?_)
    refine lv_iload_n C.1 C.2.1 d_Co_append_8 rfl (lv_at hl 1 rfl) ?_
    refine lv_iload_n C.1 C.2.1 d_Co_append_9 rfl (lv_at hl 0 rfl) ?_
    refine lv_ishr C.1 C.2.1 d_Co_append_10 ?_
    refine lv_iconst (v := 1) C.1 C.2.1 d_Co_append_11 (by decide) ?_
    refine lv_iand C.1 C.2.1 d_Co_append_12 ?_
    refine lv_istore C.1 C.2.1 d_Co_append_13 hl (by decide) rfl (lv' := [(4, .int ((x >>> ((nI d) &&& 31)) &&& 1)), (3, .int (nI d)), (1, .int (x)), (0, .ref (a))]) (fun ls hl => ?_)
    refine lv_aload_n C.1 C.2.1 d_Co_append_15 rfl (lv_at hl 3 rfl) ?_
    refine hq_get (v := .int (nI k.len)) C f_Co_15 k0 rfl d_Co_append_16 ?_
    refine lv_bipush (v := 50) C.1 C.2.1 d_Co_append_19 (by decide) ?_
    by_cases h50 : k.len < 50
    · skip
      refine lv_icmp_ge (tgt := 45) C.1 C.2.1 d_Co_append_21 (by decide) (fun hn => absurd hn (nI_ge h50 (by decide))) (fun _ => ?_)
      refine lv_aload_n C.1 C.2.1 d_Co_append_24 rfl (lv_at hl 3 rfl) ?_
      refine hq_get (v := .ref (a + 1)) C f_Co_11 k0 rfl d_Co_append_25 ?_
      refine lv_aload_n C.1 C.2.1 d_Co_append_28 rfl (lv_at hl 3 rfl) ?_
      refine hq_get (v := .int (nI k.len)) C f_Co_15 k0 rfl d_Co_append_29 ?_
      refine lv_iload C.1 C.2.1 d_Co_append_32 (lv_at hl 0 rfl) ?_
      refine hq_iast (lo := lo) C 0 rfl k1 (vp_in_nI h50 (by decide)) hL (by omega) d_Co_append_34 (fun H1 locs u1 hL => ?_)
      have k41 : va_at D vwCl (a + 1, .inl (cI, 50, .inl (upd k.bits (nI k.len).toNatClampNeg ((x >>> (nI d &&& 31)) &&& 1)))) H1 := u1.2.2
      rw [nI_clamp (by omega)] at k41
      refine lv_aload_n C.1 C.2.1 d_Co_append_35 rfl (lv_at hl 3 rfl) ?_
      refine lv_dup C.1 C.2.1 d_Co_append_36 rfl ?_
      have k42 := hq_au k0 u1 (by omega)
      refine hq_get (v := .int (nI k.len)) C f_Co_15 k42 rfl d_Co_append_37 ?_
      refine lv_iconst (v := 1) C.1 C.2.1 d_Co_append_40 (by decide) ?_
      refine lv_iadd C.1 C.2.1 d_Co_append_41 ?_
      rw [nI_1 k.len]
      refine hq_put (lo := lo) C f_Co_15 k42 rfl rfl (Nat.le_of_ble_eq_true rfl) hL (by omega) d_Co_append_42 (fun H43 locs u44 hL => ?_)
      have k45 : va_at D vwCl (a, .inr (0, [.ref (a + 1), .int (nI (k.len + 1)), .int (k.reg)])) H43 := u44.2.2
      refine lv_aload_n C.1 C.2.1 d_Co_append_45 rfl (lv_at hl 3 rfl) ?_
      refine lv_aload_n C.1 C.2.1 d_Co_append_46 rfl (lv_at hl 3 rfl) ?_
      refine hq_get (v := .int (k.reg)) C f_Co_19 k45 rfl d_Co_append_47 ?_
      refine lv_iload C.1 C.2.1 d_Co_append_50 (lv_at hl 0 rfl) ?_
      refine hq_callS (lo := lo) (As := [.int (k.reg), .int ((x >>> ((nI d) &&& 31)) &&& 1)]) (rest := [.ref (a)]) C tb_good hml Y_Co_38 (c_Co_registerBehind l D cI cZ cN cJ lo k.reg ((x >>> (nI d &&& 31)) &&& 1)) (fun _ _ _ _ h => h) (fun U hU hW => trivial) hL hl.1 rfl rfl ⟨⟨Nat.le_of_ble_eq_true rfl, Nat.le_of_ble_eq_true rfl⟩, Nat.le_of_ble_eq_true rfl, Nat.le_of_ble_eq_true rfl⟩ (Nat.le_of_ble_eq_true rfl) d_Co_append_52 (fun v H46 locs hp hL => ?_)
      obtain ⟨rfl, rfl⟩ := hp
      refine W.eq (g2 := F0 m 55 ls [.int (f_Co_registerBehind k.reg ((x >>> (nI d &&& 31)) &&& 1)), .ref (a)]) rfl ?_
      refine hq_put (lo := lo) C f_Co_19 k45 rfl rfl (Nat.le_of_ble_eq_true rfl) hL (by omega) d_Co_append_55 (fun H47 locs u48 hL => ?_)
      have k49 : va_at D vwCl (a, .inr (0, [.ref (a + 1), .int (nI (k.len + 1)), .int (f_Co_registerBehind k.reg ((x >>> (nI d &&& 31)) &&& 1))])) H47 := u48.2.2
      refine lv_iinc (k := 1) (v := nI d - 1) C.1 C.2.1 d_Co_append_58 hl rfl (by rw [Int32.sub_eq_add_neg]; rfl) (by decide) (lv' := [(3, .int (nI d - 1)), (4, .int ((x >>> ((nI d) &&& 31)) &&& 1)), (1, .int (x)), (0, .ref (a))]) rfl (fun ls hl => ?_)
      refine lv_goto (tgt := 4) C.1 C.2.1 d_Co_append_61 (by decide) ?_
      have k50 := hq_au (hq_au k41 u44 (by omega)) u48 (by omega)
      exact ih ⟨upd k.bits k.len ((x >>> (nI d &&& 31)) &&& 1), k.len + 1, f_Co_registerBehind k.reg ((x >>> (nI d &&& 31)) &&& 1)⟩ _ ls _ (by show k.len + 1 ≤ 50; omega) (by rw [← hR, show f_Co_append x (d + 1) k = f_Co_append x d (app1 k ((x >>> (nI d &&& 31)) &&& 1)) from rfl]; unfold app1; rw [if_pos h50]) (hq_Sput (hq_Sput (hq_Sput (hS) u1 (by omega) (by omega)) u44 (by omega) (by omega)) u48 (by omega) (by omega)) hL (lv_push (lv_push (lv_push (lv_nil hl) (lv_at hl 3 rfl)) (lv_at hl 2 rfl)) (lv_at hl 0 rfl)) k49 k50
    · skip
      refine lv_icmp_ge (tgt := 45) C.1 C.2.1 d_Co_append_21 (by decide) (fun _ => ?_) (fun hn => absurd (nI_le (a := 50) (by omega) (by omega)) hn)
      refine lv_aload_n C.1 C.2.1 d_Co_append_45 rfl (lv_at hl 3 rfl) ?_
      refine lv_aload_n C.1 C.2.1 d_Co_append_46 rfl (lv_at hl 3 rfl) ?_
      refine hq_get (v := .int (k.reg)) C f_Co_19 k0 rfl d_Co_append_47 ?_
      refine lv_iload C.1 C.2.1 d_Co_append_50 (lv_at hl 0 rfl) ?_
      refine hq_callS (lo := lo) (As := [.int (k.reg), .int ((x >>> ((nI d) &&& 31)) &&& 1)]) (rest := [.ref (a)]) C tb_good hml Y_Co_38 (c_Co_registerBehind l D cI cZ cN cJ lo k.reg ((x >>> (nI d &&& 31)) &&& 1)) (fun _ _ _ _ h => h) (fun U hU hW => trivial) hL hl.1 rfl rfl ⟨⟨Nat.le_of_ble_eq_true rfl, Nat.le_of_ble_eq_true rfl⟩, Nat.le_of_ble_eq_true rfl, Nat.le_of_ble_eq_true rfl⟩ (Nat.le_of_ble_eq_true rfl) d_Co_append_52 (fun v H51 locs hp hL => ?_)
      obtain ⟨rfl, rfl⟩ := hp
      refine W.eq (g2 := F0 m 55 ls [.int (f_Co_registerBehind k.reg ((x >>> (nI d &&& 31)) &&& 1)), .ref (a)]) rfl ?_
      refine hq_put (lo := lo) C f_Co_19 k0 rfl rfl (Nat.le_of_ble_eq_true rfl) hL (by omega) d_Co_append_55 (fun H52 locs u53 hL => ?_)
      have k54 : va_at D vwCl (a, .inr (0, [.ref (a + 1), .int (nI k.len), .int (f_Co_registerBehind k.reg ((x >>> (nI d &&& 31)) &&& 1))])) H52 := u53.2.2
      refine lv_iinc (k := 1) (v := nI d - 1) C.1 C.2.1 d_Co_append_58 hl rfl (by rw [Int32.sub_eq_add_neg]; rfl) (by decide) (lv' := [(3, .int (nI d - 1)), (4, .int ((x >>> ((nI d) &&& 31)) &&& 1)), (1, .int (x)), (0, .ref (a))]) rfl (fun ls hl => ?_)
      refine lv_goto (tgt := 4) C.1 C.2.1 d_Co_append_61 (by decide) ?_
      have k55 := hq_au k1 u53 (by omega)
      exact ih ⟨k.bits, k.len, f_Co_registerBehind k.reg ((x >>> (nI d &&& 31)) &&& 1)⟩ _ ls _ (by show k.len ≤ 50; omega) (by rw [← hR, show f_Co_append x (d + 1) k = f_Co_append x d (app1 k ((x >>> (nI d &&& 31)) &&& 1)) from rfl]; unfold app1; rw [if_neg h50]) (hq_Sput (hS) u53 (by omega) (by omega)) hL (lv_push (lv_push (lv_push (lv_nil hl) (lv_at hl 3 rfl)) (lv_at hl 2 rfl)) (lv_at hl 0 rfl)) k54 k55
set_option maxHeartbeats 4000000 in
set_option maxRecDepth 100000 in
theorem c_Co_append (l : Launch) (D : va_G) (cI cZ cN cJ : ClassId) (lo : Nat) (a : Nat) (hlo : lo ≤ a) (k : sCo) (hk : k.len ≤ 50) (x : Int32) (wd : Nat) (hw : wd < 100) : hq_M l y_Co_append b_Co_append 5 none TB { frames := 1, cells := 0, slots := 0, locals := 30 } lo D vwCl (TY cI cZ cN cJ) [.ref (a), .int (x), .int (nI wd)] (fun U => CoP D cI a k U.heap) (fun H v H' => v = none ∧ CoP D cI a (f_Co_append x wd k) H' ∧ hq_S a 2 H H') := by
  refine hq_ofW (by decide) (Nat.le_of_ble_eq_true rfl) ?_
  intro p e s m below meth c ls C hml hret hlk hnm hl hP
  obtain ⟨k0, k1⟩ := hP
  have hL : hq_L lo [] := hq_L0
  have hl : lv_has ls 5 [(0, .ref (a)), (1, .int (x)), (2, .int (nI wd))] := hl
  refine lv_iload_n C.1 C.2.1 d_Co_append_0 rfl (lv_at hl 2 rfl) ?_
  refine lv_iconst (v := 1) C.1 C.2.1 d_Co_append_1 (by decide) ?_
  refine lv_isub C.1 C.2.1 d_Co_append_2 ?_
  refine lv_istore_n C.1 C.2.1 d_Co_append_3 rfl hl (by decide) rfl (lv' := [(3, .int ((nI wd) - 1)), (0, .ref (a)), (1, .int (x)), (2, .int (nI wd))]) (fun ls hl => ?_)
  exact co_append D cI cZ cN cJ lo a hlo x C hml hret hlk wd hw k _ ls [] hk rfl hq_S0 hL (lv_push (lv_push (lv_push (lv_nil hl) (lv_at hl 1 rfl)) (lv_at hl 2 rfl)) (lv_at hl 0 rfl)) k0 k1
def f_Co_write (k : sCo) (x : Int32) : sCo := if f_Fr_bytesOf x ≤ 0 then f_Co_append (f_Co_append (f_Fr_bytesOf x) 4 (f_Co_append 0 3 (f_Co_append (f_Fr_idOf x) 11 (f_Co_append 0 1 (⟨k.bits, 0, 0⟩ : sCo))))).reg 15 (f_Co_append (f_Fr_bytesOf x) 4 (f_Co_append 0 3 (f_Co_append (f_Fr_idOf x) 11 (f_Co_append 0 1 (⟨k.bits, 0, 0⟩ : sCo))))) else if f_Fr_bytesOf x ≤ 1 then f_Co_append (f_Co_append ((f_Fr_dataOf x) >>> ((8 * 0) &&& 31)) 8 (f_Co_append (f_Fr_bytesOf x) 4 (f_Co_append 0 3 (f_Co_append (f_Fr_idOf x) 11 (f_Co_append 0 1 (⟨k.bits, 0, 0⟩ : sCo)))))).reg 15 (f_Co_append ((f_Fr_dataOf x) >>> ((8 * 0) &&& 31)) 8 (f_Co_append (f_Fr_bytesOf x) 4 (f_Co_append 0 3 (f_Co_append (f_Fr_idOf x) 11 (f_Co_append 0 1 (⟨k.bits, 0, 0⟩ : sCo)))))) else f_Co_append (f_Co_append ((f_Fr_dataOf x) >>> ((8 * 1) &&& 31)) 8 (f_Co_append ((f_Fr_dataOf x) >>> ((8 * 0) &&& 31)) 8 (f_Co_append (f_Fr_bytesOf x) 4 (f_Co_append 0 3 (f_Co_append (f_Fr_idOf x) 11 (f_Co_append 0 1 (⟨k.bits, 0, 0⟩ : sCo))))))).reg 15 (f_Co_append ((f_Fr_dataOf x) >>> ((8 * 1) &&& 31)) 8 (f_Co_append ((f_Fr_dataOf x) >>> ((8 * 0) &&& 31)) 8 (f_Co_append (f_Fr_bytesOf x) 4 (f_Co_append 0 3 (f_Co_append (f_Fr_idOf x) 11 (f_Co_append 0 1 (⟨k.bits, 0, 0⟩ : sCo)))))))
set_option maxHeartbeats 4000000 in
set_option maxRecDepth 100000 in
theorem c_Co_write (l : Launch) (D : va_G) (cI cZ cN cJ : ClassId) (lo : Nat) (a : Nat) (hlo : lo ≤ a) (k : sCo) (x : Int32) : hq_M l y_Co_write b_Co_write 5 none TB { frames := 2, cells := 0, slots := 0, locals := 60 } lo D vwCl (TY cI cZ cN cJ) [.ref (a), .int (x)] (fun U => CoP D cI a k U.heap) (fun H v H' => v = none ∧ CoP D cI a (f_Co_write k x) H' ∧ hq_S a 2 H H') := by
  refine hq_ofW (by decide) (Nat.le_of_ble_eq_true rfl) ?_
  intro p e s m below meth c ls C hml hret hlk hnm hl hP
  obtain ⟨k0, k1⟩ := hP
  have hL : hq_L lo [] := hq_L0
  have hl : lv_has ls 5 [(0, .ref (a)), (1, .int (x))] := hl
  refine lv_iload_n C.1 C.2.1 d_Co_write_0 rfl (lv_at hl 1 rfl) ?_
  refine hq_callS (lo := lo) (As := [.int (x)]) (rest := []) C tb_good hml Y_Co_22 (c_Fr_dataOf l D cI cZ cN cJ lo x) (fun _ _ _ _ h => h) (fun U hU hW => trivial) hL hl.1 rfl rfl ⟨⟨Nat.le_of_ble_eq_true rfl, Nat.le_of_ble_eq_true rfl⟩, Nat.le_of_ble_eq_true rfl, Nat.le_of_ble_eq_true rfl⟩ (Nat.le_of_ble_eq_true rfl) d_Co_write_1 (fun v H41 locs hp hL => ?_)
  obtain ⟨rfl, rfl⟩ := hp
  refine W.eq (g2 := F0 m 4 ls [.int (f_Fr_dataOf x)]) rfl ?_
  refine lv_istore_n C.1 C.2.1 d_Co_write_4 rfl hl (by decide) rfl (lv' := [(2, .int (f_Fr_dataOf x)), (0, .ref (a)), (1, .int (x))]) (fun ls hl => ?_)
  refine lv_iload_n C.1 C.2.1 d_Co_write_5 rfl (lv_at hl 2 rfl) ?_
  refine hq_callS (lo := lo) (As := [.int (x)]) (rest := []) C tb_good hml Y_Co_28 (c_Fr_bytesOf l D cI cZ cN cJ lo x) (fun _ _ _ _ h => h) (fun U hU hW => trivial) hL hl.1 rfl rfl ⟨⟨Nat.le_of_ble_eq_true rfl, Nat.le_of_ble_eq_true rfl⟩, Nat.le_of_ble_eq_true rfl, Nat.le_of_ble_eq_true rfl⟩ (Nat.le_of_ble_eq_true rfl) d_Co_write_6 (fun v H42 locs hp hL => ?_)
  obtain ⟨rfl, rfl⟩ := hp
  refine W.eq (g2 := F0 m 9 ls [.int (f_Fr_bytesOf x)]) rfl ?_
  refine lv_istore_n C.1 C.2.1 d_Co_write_9 rfl hl (by decide) rfl (lv' := [(3, .int (f_Fr_bytesOf x)), (2, .int (f_Fr_dataOf x)), (0, .ref (a)), (1, .int (x))]) (fun ls hl => ?_)
  refine lv_aload_n C.1 C.2.1 d_Co_write_10 rfl (lv_at hl 2 rfl) ?_
  refine lv_iconst (v := 0) C.1 C.2.1 d_Co_write_11 (by decide) ?_
  refine hq_put (lo := lo) C f_Co_15 k0 rfl rfl (Nat.le_of_ble_eq_true rfl) hL (by omega) d_Co_write_12 (fun H43 locs u44 hL => ?_)
  have k45 : va_at D vwCl (a, .inr (0, [.ref (a + 1), .int (0), .int (k.reg)])) H43 := u44.2.2
  refine lv_aload_n C.1 C.2.1 d_Co_write_15 rfl (lv_at hl 2 rfl) ?_
  refine lv_iconst (v := 0) C.1 C.2.1 d_Co_write_16 (by decide) ?_
  refine hq_put (lo := lo) C f_Co_19 k45 rfl rfl (Nat.le_of_ble_eq_true rfl) hL (by omega) d_Co_write_17 (fun H46 locs u47 hL => ?_)
  have k48 : va_at D vwCl (a, .inr (0, [.ref (a + 1), .int (0), .int (0)])) H46 := u47.2.2
  refine lv_aload_n C.1 C.2.1 d_Co_write_20 rfl (lv_at hl 2 rfl) ?_
  refine lv_iconst (v := 0) C.1 C.2.1 d_Co_write_21 (by decide) ?_
  refine lv_iconst (v := 1) C.1 C.2.1 d_Co_write_22 (by decide) ?_
  have k49 := hq_au (hq_au k1 u44 (by omega)) u47 (by omega)
  refine hq_callV (lo := lo) (As := [.int (0), .int (nI 1)]) (rest := []) C tb_good hml Y_Co_31 (c_Co_append l D cI cZ cN cJ lo a hlo (⟨k.bits, 0, 0⟩ : sCo) (Nat.zero_le 50) (0) 1 (by decide)) k48 rfl (fun _ _ _ _ h => h) (fun U hU hW => by show CoP D cI a (⟨k.bits, 0, 0⟩ : sCo) U.heap; rw [hU]; exact ⟨k48, k49⟩) hL hl.1 rfl rfl ⟨⟨Nat.le_of_ble_eq_true rfl, Nat.le_of_ble_eq_true rfl⟩, Nat.le_of_ble_eq_true rfl, Nat.le_of_ble_eq_true rfl⟩ (Nat.le_of_ble_eq_true rfl) d_Co_write_23 (fun v H53 locs hp hL => ?_)
  obtain ⟨rfl, ⟨k51, k52⟩, S50⟩ := hp
  refine W.eq (g2 := F0 m 26 ls []) rfl ?_
  refine lv_aload_n C.1 C.2.1 d_Co_write_26 rfl (lv_at hl 2 rfl) ?_
  refine lv_iload_n C.1 C.2.1 d_Co_write_27 rfl (lv_at hl 3 rfl) ?_
  refine hq_callS (lo := lo) (As := [.int (x)]) (rest := [.ref (a)]) C tb_good hml Y_Co_35 (c_Fr_idOf l D cI cZ cN cJ lo x) (fun _ _ _ _ h => h) (fun U hU hW => trivial) hL hl.1 rfl rfl ⟨⟨Nat.le_of_ble_eq_true rfl, Nat.le_of_ble_eq_true rfl⟩, Nat.le_of_ble_eq_true rfl, Nat.le_of_ble_eq_true rfl⟩ (Nat.le_of_ble_eq_true rfl) d_Co_write_28 (fun v H54 locs hp hL => ?_)
  obtain ⟨rfl, rfl⟩ := hp
  refine W.eq (g2 := F0 m 31 ls [.int (f_Fr_idOf x), .ref (a)]) rfl ?_
  refine lv_bipush (v := 11) C.1 C.2.1 d_Co_write_31 (by decide) ?_
  refine hq_callV (lo := lo) (As := [.int (f_Fr_idOf x), .int (nI 11)]) (rest := []) C tb_good hml Y_Co_31 (c_Co_append l D cI cZ cN cJ lo a hlo (f_Co_append 0 1 (⟨k.bits, 0, 0⟩ : sCo)) (append_len _ _ _ (Nat.zero_le 50)) (f_Fr_idOf x) 11 (by decide)) k51 rfl (fun _ _ _ _ h => h) (fun U hU hW => by show CoP D cI a (f_Co_append 0 1 (⟨k.bits, 0, 0⟩ : sCo)) U.heap; rw [hU]; exact ⟨k51, k52⟩) hL hl.1 rfl rfl ⟨⟨Nat.le_of_ble_eq_true rfl, Nat.le_of_ble_eq_true rfl⟩, Nat.le_of_ble_eq_true rfl, Nat.le_of_ble_eq_true rfl⟩ (Nat.le_of_ble_eq_true rfl) d_Co_write_33 (fun v H58 locs hp hL => ?_)
  obtain ⟨rfl, ⟨k56, k57⟩, S55⟩ := hp
  refine W.eq (g2 := F0 m 36 ls []) rfl ?_
  refine lv_aload_n C.1 C.2.1 d_Co_write_36 rfl (lv_at hl 2 rfl) ?_
  refine lv_iconst (v := 0) C.1 C.2.1 d_Co_write_37 (by decide) ?_
  refine lv_iconst (v := 3) C.1 C.2.1 d_Co_write_38 (by decide) ?_
  refine hq_callV (lo := lo) (As := [.int (0), .int (nI 3)]) (rest := []) C tb_good hml Y_Co_31 (c_Co_append l D cI cZ cN cJ lo a hlo (f_Co_append (f_Fr_idOf x) 11 (f_Co_append 0 1 (⟨k.bits, 0, 0⟩ : sCo))) (append_len _ _ _ (append_len _ _ _ (Nat.zero_le 50))) (0) 3 (by decide)) k56 rfl (fun _ _ _ _ h => h) (fun U hU hW => by show CoP D cI a (f_Co_append (f_Fr_idOf x) 11 (f_Co_append 0 1 (⟨k.bits, 0, 0⟩ : sCo))) U.heap; rw [hU]; exact ⟨k56, k57⟩) hL hl.1 rfl rfl ⟨⟨Nat.le_of_ble_eq_true rfl, Nat.le_of_ble_eq_true rfl⟩, Nat.le_of_ble_eq_true rfl, Nat.le_of_ble_eq_true rfl⟩ (Nat.le_of_ble_eq_true rfl) d_Co_write_39 (fun v H62 locs hp hL => ?_)
  obtain ⟨rfl, ⟨k60, k61⟩, S59⟩ := hp
  refine W.eq (g2 := F0 m 42 ls []) rfl ?_
  refine lv_aload_n C.1 C.2.1 d_Co_write_42 rfl (lv_at hl 2 rfl) ?_
  refine lv_iload_n C.1 C.2.1 d_Co_write_43 rfl (lv_at hl 0 rfl) ?_
  refine lv_iconst (v := 4) C.1 C.2.1 d_Co_write_44 (by decide) ?_
  refine hq_callV (lo := lo) (As := [.int (f_Fr_bytesOf x), .int (nI 4)]) (rest := []) C tb_good hml Y_Co_31 (c_Co_append l D cI cZ cN cJ lo a hlo (f_Co_append 0 3 (f_Co_append (f_Fr_idOf x) 11 (f_Co_append 0 1 (⟨k.bits, 0, 0⟩ : sCo)))) (append_len _ _ _ (append_len _ _ _ (append_len _ _ _ (Nat.zero_le 50)))) (f_Fr_bytesOf x) 4 (by decide)) k60 rfl (fun _ _ _ _ h => h) (fun U hU hW => by show CoP D cI a (f_Co_append 0 3 (f_Co_append (f_Fr_idOf x) 11 (f_Co_append 0 1 (⟨k.bits, 0, 0⟩ : sCo)))) U.heap; rw [hU]; exact ⟨k60, k61⟩) hL hl.1 rfl rfl ⟨⟨Nat.le_of_ble_eq_true rfl, Nat.le_of_ble_eq_true rfl⟩, Nat.le_of_ble_eq_true rfl, Nat.le_of_ble_eq_true rfl⟩ (Nat.le_of_ble_eq_true rfl) d_Co_write_45 (fun v H66 locs hp hL => ?_)
  obtain ⟨rfl, ⟨k64, k65⟩, S63⟩ := hp
  refine W.eq (g2 := F0 m 48 ls []) rfl ?_
  refine lv_iconst (v := 0) C.1 C.2.1 d_Co_write_48 (by decide) ?_
  refine lv_istore C.1 C.2.1 d_Co_write_49 hl (by decide) rfl (lv' := [(4, .int (0)), (3, .int (f_Fr_bytesOf x)), (2, .int (f_Fr_dataOf x)), (0, .ref (a)), (1, .int (x))]) (fun ls hl => ?_)
  refine lv_iload C.1 C.2.1 d_Co_write_51 (lv_at hl 0 rfl) ?_
  refine lv_iload_n C.1 C.2.1 d_Co_write_53 rfl (lv_at hl 1 rfl) ?_
  refine lv_icmp_ge (tgt := 82) C.1 C.2.1 d_Co_write_54 (by decide) ?_ ?_
  · intro c0
    refine lv_aload_n C.1 C.2.1 d_Co_write_82 rfl (lv_at hl 3 rfl) ?_
    refine lv_aload_n C.1 C.2.1 d_Co_write_83 rfl (lv_at hl 3 rfl) ?_
    refine hq_get (v := .int ((f_Co_append (f_Fr_bytesOf x) 4 (f_Co_append 0 3 (f_Co_append (f_Fr_idOf x) 11 (f_Co_append 0 1 (⟨k.bits, 0, 0⟩ : sCo))))).reg)) C f_Co_19 k64 rfl d_Co_write_84 ?_
    refine lv_bipush (v := 15) C.1 C.2.1 d_Co_write_87 (by decide) ?_
    refine hq_callV (lo := lo) (As := [.int ((f_Co_append (f_Fr_bytesOf x) 4 (f_Co_append 0 3 (f_Co_append (f_Fr_idOf x) 11 (f_Co_append 0 1 (⟨k.bits, 0, 0⟩ : sCo))))).reg), .int (nI 15)]) (rest := []) C tb_good hml Y_Co_31 (c_Co_append l D cI cZ cN cJ lo a hlo (f_Co_append (f_Fr_bytesOf x) 4 (f_Co_append 0 3 (f_Co_append (f_Fr_idOf x) 11 (f_Co_append 0 1 (⟨k.bits, 0, 0⟩ : sCo))))) (append_len _ _ _ (append_len _ _ _ (append_len _ _ _ (append_len _ _ _ (Nat.zero_le 50))))) ((f_Co_append (f_Fr_bytesOf x) 4 (f_Co_append 0 3 (f_Co_append (f_Fr_idOf x) 11 (f_Co_append 0 1 (⟨k.bits, 0, 0⟩ : sCo))))).reg) 15 (by decide)) k64 rfl (fun _ _ _ _ h => h) (fun U hU hW => by show CoP D cI a (f_Co_append (f_Fr_bytesOf x) 4 (f_Co_append 0 3 (f_Co_append (f_Fr_idOf x) 11 (f_Co_append 0 1 (⟨k.bits, 0, 0⟩ : sCo))))) U.heap; rw [hU]; exact ⟨k64, k65⟩) hL hl.1 rfl rfl ⟨⟨Nat.le_of_ble_eq_true rfl, Nat.le_of_ble_eq_true rfl⟩, Nat.le_of_ble_eq_true rfl, Nat.le_of_ble_eq_true rfl⟩ (Nat.le_of_ble_eq_true rfl) d_Co_write_89 (fun v H70 locs hp hL => ?_)
    obtain ⟨rfl, ⟨k68, k69⟩, S67⟩ := hp
    refine W.eq (g2 := F0 m 92 ls []) rfl ?_
    exact hq_vret C hret hlk (Nat.le_of_ble_eq_true rfl) (Nat.le_of_ble_eq_true rfl) hL ⟨rfl, by unfold f_Co_write; rw [if_pos c0]; exact ⟨k68, k69⟩, hq_Scall (hq_Scall (hq_Scall (hq_Scall (hq_Scall (hq_Sput (hq_Sput hq_S0 u44 (by omega) (by omega)) u47 (by omega) (by omega)) S50 (by omega) (by omega)) S55 (by omega) (by omega)) S59 (by omega) (by omega)) S63 (by omega) (by omega)) S67 (by omega) (by omega)⟩ d_Co_write_92
  · intro c0
    refine lv_iload C.1 C.2.1 d_Co_write_57 (lv_at hl 0 rfl) ?_
    refine lv_iconst (v := 2) C.1 C.2.1 d_Co_write_59 (by decide) ?_
    refine lv_icmp_ge (tgt := 82) C.1 C.2.1 d_Co_write_60 (by decide) (fun hn => absurd hn (by decide)) (fun _ => ?_)
    refine lv_aload_n C.1 C.2.1 d_Co_write_63 rfl (lv_at hl 3 rfl) ?_
    refine lv_iload_n C.1 C.2.1 d_Co_write_64 rfl (lv_at hl 2 rfl) ?_
    refine lv_bipush (v := 8) C.1 C.2.1 d_Co_write_65 (by decide) ?_
    refine lv_iload C.1 C.2.1 d_Co_write_67 (lv_at hl 0 rfl) ?_
    refine lv_imul C.1 C.2.1 d_Co_write_69 ?_
    refine lv_ishr C.1 C.2.1 d_Co_write_70 ?_
    refine lv_bipush (v := 8) C.1 C.2.1 d_Co_write_71 (by decide) ?_
    refine hq_callV (lo := lo) (As := [.int ((f_Fr_dataOf x) >>> ((8 * 0) &&& 31)), .int (nI 8)]) (rest := []) C tb_good hml Y_Co_31 (c_Co_append l D cI cZ cN cJ lo a hlo (f_Co_append (f_Fr_bytesOf x) 4 (f_Co_append 0 3 (f_Co_append (f_Fr_idOf x) 11 (f_Co_append 0 1 (⟨k.bits, 0, 0⟩ : sCo))))) (append_len _ _ _ (append_len _ _ _ (append_len _ _ _ (append_len _ _ _ (Nat.zero_le 50))))) ((f_Fr_dataOf x) >>> ((8 * 0) &&& 31)) 8 (by decide)) k64 rfl (fun _ _ _ _ h => h) (fun U hU hW => by show CoP D cI a (f_Co_append (f_Fr_bytesOf x) 4 (f_Co_append 0 3 (f_Co_append (f_Fr_idOf x) 11 (f_Co_append 0 1 (⟨k.bits, 0, 0⟩ : sCo))))) U.heap; rw [hU]; exact ⟨k64, k65⟩) hL hl.1 rfl rfl ⟨⟨Nat.le_of_ble_eq_true rfl, Nat.le_of_ble_eq_true rfl⟩, Nat.le_of_ble_eq_true rfl, Nat.le_of_ble_eq_true rfl⟩ (Nat.le_of_ble_eq_true rfl) d_Co_write_73 (fun v H74 locs hp hL => ?_)
    obtain ⟨rfl, ⟨k72, k73⟩, S71⟩ := hp
    refine W.eq (g2 := F0 m 76 ls []) rfl ?_
    refine lv_iinc (k := 0) (v := 1) C.1 C.2.1 d_Co_write_76 hl rfl (by rfl) (by decide) rfl (lv' := [(4, .int (1)), (3, .int (f_Fr_bytesOf x)), (2, .int (f_Fr_dataOf x)), (0, .ref (a)), (1, .int (x))]) (fun ls hl => ?_)
    refine lv_goto (tgt := 51) C.1 C.2.1 d_Co_write_79 (by decide) ?_
    refine lv_iload C.1 C.2.1 d_Co_write_51 (lv_at hl 0 rfl) ?_
    refine lv_iload_n C.1 C.2.1 d_Co_write_53 rfl (lv_at hl 1 rfl) ?_
    refine lv_icmp_ge (tgt := 82) C.1 C.2.1 d_Co_write_54 (by decide) ?_ ?_
    · intro c1
      refine lv_aload_n C.1 C.2.1 d_Co_write_82 rfl (lv_at hl 3 rfl) ?_
      refine lv_aload_n C.1 C.2.1 d_Co_write_83 rfl (lv_at hl 3 rfl) ?_
      refine hq_get (v := .int ((f_Co_append ((f_Fr_dataOf x) >>> ((8 * 0) &&& 31)) 8 (f_Co_append (f_Fr_bytesOf x) 4 (f_Co_append 0 3 (f_Co_append (f_Fr_idOf x) 11 (f_Co_append 0 1 (⟨k.bits, 0, 0⟩ : sCo)))))).reg)) C f_Co_19 k72 rfl d_Co_write_84 ?_
      refine lv_bipush (v := 15) C.1 C.2.1 d_Co_write_87 (by decide) ?_
      refine hq_callV (lo := lo) (As := [.int ((f_Co_append ((f_Fr_dataOf x) >>> ((8 * 0) &&& 31)) 8 (f_Co_append (f_Fr_bytesOf x) 4 (f_Co_append 0 3 (f_Co_append (f_Fr_idOf x) 11 (f_Co_append 0 1 (⟨k.bits, 0, 0⟩ : sCo)))))).reg), .int (nI 15)]) (rest := []) C tb_good hml Y_Co_31 (c_Co_append l D cI cZ cN cJ lo a hlo (f_Co_append ((f_Fr_dataOf x) >>> ((8 * 0) &&& 31)) 8 (f_Co_append (f_Fr_bytesOf x) 4 (f_Co_append 0 3 (f_Co_append (f_Fr_idOf x) 11 (f_Co_append 0 1 (⟨k.bits, 0, 0⟩ : sCo)))))) (append_len _ _ _ (append_len _ _ _ (append_len _ _ _ (append_len _ _ _ (append_len _ _ _ (Nat.zero_le 50)))))) ((f_Co_append ((f_Fr_dataOf x) >>> ((8 * 0) &&& 31)) 8 (f_Co_append (f_Fr_bytesOf x) 4 (f_Co_append 0 3 (f_Co_append (f_Fr_idOf x) 11 (f_Co_append 0 1 (⟨k.bits, 0, 0⟩ : sCo)))))).reg) 15 (by decide)) k72 rfl (fun _ _ _ _ h => h) (fun U hU hW => by show CoP D cI a (f_Co_append ((f_Fr_dataOf x) >>> ((8 * 0) &&& 31)) 8 (f_Co_append (f_Fr_bytesOf x) 4 (f_Co_append 0 3 (f_Co_append (f_Fr_idOf x) 11 (f_Co_append 0 1 (⟨k.bits, 0, 0⟩ : sCo)))))) U.heap; rw [hU]; exact ⟨k72, k73⟩) hL hl.1 rfl rfl ⟨⟨Nat.le_of_ble_eq_true rfl, Nat.le_of_ble_eq_true rfl⟩, Nat.le_of_ble_eq_true rfl, Nat.le_of_ble_eq_true rfl⟩ (Nat.le_of_ble_eq_true rfl) d_Co_write_89 (fun v H78 locs hp hL => ?_)
      obtain ⟨rfl, ⟨k76, k77⟩, S75⟩ := hp
      refine W.eq (g2 := F0 m 92 ls []) rfl ?_
      exact hq_vret C hret hlk (Nat.le_of_ble_eq_true rfl) (Nat.le_of_ble_eq_true rfl) hL ⟨rfl, by unfold f_Co_write; rw [if_neg c0, if_pos c1]; exact ⟨k76, k77⟩, hq_Scall (hq_Scall (hq_Scall (hq_Scall (hq_Scall (hq_Scall (hq_Sput (hq_Sput hq_S0 u44 (by omega) (by omega)) u47 (by omega) (by omega)) S50 (by omega) (by omega)) S55 (by omega) (by omega)) S59 (by omega) (by omega)) S63 (by omega) (by omega)) S71 (by omega) (by omega)) S75 (by omega) (by omega)⟩ d_Co_write_92
    · intro c1
      refine lv_iload C.1 C.2.1 d_Co_write_57 (lv_at hl 0 rfl) ?_
      refine lv_iconst (v := 2) C.1 C.2.1 d_Co_write_59 (by decide) ?_
      refine lv_icmp_ge (tgt := 82) C.1 C.2.1 d_Co_write_60 (by decide) (fun hn => absurd hn (by decide)) (fun _ => ?_)
      refine lv_aload_n C.1 C.2.1 d_Co_write_63 rfl (lv_at hl 3 rfl) ?_
      refine lv_iload_n C.1 C.2.1 d_Co_write_64 rfl (lv_at hl 2 rfl) ?_
      refine lv_bipush (v := 8) C.1 C.2.1 d_Co_write_65 (by decide) ?_
      refine lv_iload C.1 C.2.1 d_Co_write_67 (lv_at hl 0 rfl) ?_
      refine lv_imul C.1 C.2.1 d_Co_write_69 ?_
      refine lv_ishr C.1 C.2.1 d_Co_write_70 ?_
      refine lv_bipush (v := 8) C.1 C.2.1 d_Co_write_71 (by decide) ?_
      refine hq_callV (lo := lo) (As := [.int ((f_Fr_dataOf x) >>> ((8 * 1) &&& 31)), .int (nI 8)]) (rest := []) C tb_good hml Y_Co_31 (c_Co_append l D cI cZ cN cJ lo a hlo (f_Co_append ((f_Fr_dataOf x) >>> ((8 * 0) &&& 31)) 8 (f_Co_append (f_Fr_bytesOf x) 4 (f_Co_append 0 3 (f_Co_append (f_Fr_idOf x) 11 (f_Co_append 0 1 (⟨k.bits, 0, 0⟩ : sCo)))))) (append_len _ _ _ (append_len _ _ _ (append_len _ _ _ (append_len _ _ _ (append_len _ _ _ (Nat.zero_le 50)))))) ((f_Fr_dataOf x) >>> ((8 * 1) &&& 31)) 8 (by decide)) k72 rfl (fun _ _ _ _ h => h) (fun U hU hW => by show CoP D cI a (f_Co_append ((f_Fr_dataOf x) >>> ((8 * 0) &&& 31)) 8 (f_Co_append (f_Fr_bytesOf x) 4 (f_Co_append 0 3 (f_Co_append (f_Fr_idOf x) 11 (f_Co_append 0 1 (⟨k.bits, 0, 0⟩ : sCo)))))) U.heap; rw [hU]; exact ⟨k72, k73⟩) hL hl.1 rfl rfl ⟨⟨Nat.le_of_ble_eq_true rfl, Nat.le_of_ble_eq_true rfl⟩, Nat.le_of_ble_eq_true rfl, Nat.le_of_ble_eq_true rfl⟩ (Nat.le_of_ble_eq_true rfl) d_Co_write_73 (fun v H82 locs hp hL => ?_)
      obtain ⟨rfl, ⟨k80, k81⟩, S79⟩ := hp
      refine W.eq (g2 := F0 m 76 ls []) rfl ?_
      refine lv_iinc (k := 0) (v := 2) C.1 C.2.1 d_Co_write_76 hl rfl (by rfl) (by decide) rfl (lv' := [(4, .int (2)), (3, .int (f_Fr_bytesOf x)), (2, .int (f_Fr_dataOf x)), (0, .ref (a)), (1, .int (x))]) (fun ls hl => ?_)
      refine lv_goto (tgt := 51) C.1 C.2.1 d_Co_write_79 (by decide) ?_
      refine lv_iload C.1 C.2.1 d_Co_write_51 (lv_at hl 0 rfl) ?_
      refine lv_iload_n C.1 C.2.1 d_Co_write_53 rfl (lv_at hl 1 rfl) ?_
      refine lv_icmp_ge (tgt := 82) C.1 C.2.1 d_Co_write_54 (by decide) ?_ ?_
      · intro c2
        refine lv_aload_n C.1 C.2.1 d_Co_write_82 rfl (lv_at hl 3 rfl) ?_
        refine lv_aload_n C.1 C.2.1 d_Co_write_83 rfl (lv_at hl 3 rfl) ?_
        refine hq_get (v := .int ((f_Co_append ((f_Fr_dataOf x) >>> ((8 * 1) &&& 31)) 8 (f_Co_append ((f_Fr_dataOf x) >>> ((8 * 0) &&& 31)) 8 (f_Co_append (f_Fr_bytesOf x) 4 (f_Co_append 0 3 (f_Co_append (f_Fr_idOf x) 11 (f_Co_append 0 1 (⟨k.bits, 0, 0⟩ : sCo))))))).reg)) C f_Co_19 k80 rfl d_Co_write_84 ?_
        refine lv_bipush (v := 15) C.1 C.2.1 d_Co_write_87 (by decide) ?_
        refine hq_callV (lo := lo) (As := [.int ((f_Co_append ((f_Fr_dataOf x) >>> ((8 * 1) &&& 31)) 8 (f_Co_append ((f_Fr_dataOf x) >>> ((8 * 0) &&& 31)) 8 (f_Co_append (f_Fr_bytesOf x) 4 (f_Co_append 0 3 (f_Co_append (f_Fr_idOf x) 11 (f_Co_append 0 1 (⟨k.bits, 0, 0⟩ : sCo))))))).reg), .int (nI 15)]) (rest := []) C tb_good hml Y_Co_31 (c_Co_append l D cI cZ cN cJ lo a hlo (f_Co_append ((f_Fr_dataOf x) >>> ((8 * 1) &&& 31)) 8 (f_Co_append ((f_Fr_dataOf x) >>> ((8 * 0) &&& 31)) 8 (f_Co_append (f_Fr_bytesOf x) 4 (f_Co_append 0 3 (f_Co_append (f_Fr_idOf x) 11 (f_Co_append 0 1 (⟨k.bits, 0, 0⟩ : sCo))))))) (append_len _ _ _ (append_len _ _ _ (append_len _ _ _ (append_len _ _ _ (append_len _ _ _ (append_len _ _ _ (Nat.zero_le 50))))))) ((f_Co_append ((f_Fr_dataOf x) >>> ((8 * 1) &&& 31)) 8 (f_Co_append ((f_Fr_dataOf x) >>> ((8 * 0) &&& 31)) 8 (f_Co_append (f_Fr_bytesOf x) 4 (f_Co_append 0 3 (f_Co_append (f_Fr_idOf x) 11 (f_Co_append 0 1 (⟨k.bits, 0, 0⟩ : sCo))))))).reg) 15 (by decide)) k80 rfl (fun _ _ _ _ h => h) (fun U hU hW => by show CoP D cI a (f_Co_append ((f_Fr_dataOf x) >>> ((8 * 1) &&& 31)) 8 (f_Co_append ((f_Fr_dataOf x) >>> ((8 * 0) &&& 31)) 8 (f_Co_append (f_Fr_bytesOf x) 4 (f_Co_append 0 3 (f_Co_append (f_Fr_idOf x) 11 (f_Co_append 0 1 (⟨k.bits, 0, 0⟩ : sCo))))))) U.heap; rw [hU]; exact ⟨k80, k81⟩) hL hl.1 rfl rfl ⟨⟨Nat.le_of_ble_eq_true rfl, Nat.le_of_ble_eq_true rfl⟩, Nat.le_of_ble_eq_true rfl, Nat.le_of_ble_eq_true rfl⟩ (Nat.le_of_ble_eq_true rfl) d_Co_write_89 (fun v H86 locs hp hL => ?_)
        obtain ⟨rfl, ⟨k84, k85⟩, S83⟩ := hp
        refine W.eq (g2 := F0 m 92 ls []) rfl ?_
        exact hq_vret C hret hlk (Nat.le_of_ble_eq_true rfl) (Nat.le_of_ble_eq_true rfl) hL ⟨rfl, by unfold f_Co_write; rw [if_neg c0, if_neg c1]; exact ⟨k84, k85⟩, hq_Scall (hq_Scall (hq_Scall (hq_Scall (hq_Scall (hq_Scall (hq_Scall (hq_Sput (hq_Sput hq_S0 u44 (by omega) (by omega)) u47 (by omega) (by omega)) S50 (by omega) (by omega)) S55 (by omega) (by omega)) S59 (by omega) (by omega)) S63 (by omega) (by omega)) S71 (by omega) (by omega)) S79 (by omega) (by omega)) S83 (by omega) (by omega)⟩ d_Co_write_92
      · intro c2
        refine lv_iload C.1 C.2.1 d_Co_write_57 (lv_at hl 0 rfl) ?_
        refine lv_iconst (v := 2) C.1 C.2.1 d_Co_write_59 (by decide) ?_
        refine lv_icmp_ge (tgt := 82) C.1 C.2.1 d_Co_write_60 (by decide) (fun _ => ?_) (fun hn => absurd (by decide) hn)
        refine lv_aload_n C.1 C.2.1 d_Co_write_82 rfl (lv_at hl 3 rfl) ?_
        refine lv_aload_n C.1 C.2.1 d_Co_write_83 rfl (lv_at hl 3 rfl) ?_
        refine hq_get (v := .int ((f_Co_append ((f_Fr_dataOf x) >>> ((8 * 1) &&& 31)) 8 (f_Co_append ((f_Fr_dataOf x) >>> ((8 * 0) &&& 31)) 8 (f_Co_append (f_Fr_bytesOf x) 4 (f_Co_append 0 3 (f_Co_append (f_Fr_idOf x) 11 (f_Co_append 0 1 (⟨k.bits, 0, 0⟩ : sCo))))))).reg)) C f_Co_19 k80 rfl d_Co_write_84 ?_
        refine lv_bipush (v := 15) C.1 C.2.1 d_Co_write_87 (by decide) ?_
        refine hq_callV (lo := lo) (As := [.int ((f_Co_append ((f_Fr_dataOf x) >>> ((8 * 1) &&& 31)) 8 (f_Co_append ((f_Fr_dataOf x) >>> ((8 * 0) &&& 31)) 8 (f_Co_append (f_Fr_bytesOf x) 4 (f_Co_append 0 3 (f_Co_append (f_Fr_idOf x) 11 (f_Co_append 0 1 (⟨k.bits, 0, 0⟩ : sCo))))))).reg), .int (nI 15)]) (rest := []) C tb_good hml Y_Co_31 (c_Co_append l D cI cZ cN cJ lo a hlo (f_Co_append ((f_Fr_dataOf x) >>> ((8 * 1) &&& 31)) 8 (f_Co_append ((f_Fr_dataOf x) >>> ((8 * 0) &&& 31)) 8 (f_Co_append (f_Fr_bytesOf x) 4 (f_Co_append 0 3 (f_Co_append (f_Fr_idOf x) 11 (f_Co_append 0 1 (⟨k.bits, 0, 0⟩ : sCo))))))) (append_len _ _ _ (append_len _ _ _ (append_len _ _ _ (append_len _ _ _ (append_len _ _ _ (append_len _ _ _ (Nat.zero_le 50))))))) ((f_Co_append ((f_Fr_dataOf x) >>> ((8 * 1) &&& 31)) 8 (f_Co_append ((f_Fr_dataOf x) >>> ((8 * 0) &&& 31)) 8 (f_Co_append (f_Fr_bytesOf x) 4 (f_Co_append 0 3 (f_Co_append (f_Fr_idOf x) 11 (f_Co_append 0 1 (⟨k.bits, 0, 0⟩ : sCo))))))).reg) 15 (by decide)) k80 rfl (fun _ _ _ _ h => h) (fun U hU hW => by show CoP D cI a (f_Co_append ((f_Fr_dataOf x) >>> ((8 * 1) &&& 31)) 8 (f_Co_append ((f_Fr_dataOf x) >>> ((8 * 0) &&& 31)) 8 (f_Co_append (f_Fr_bytesOf x) 4 (f_Co_append 0 3 (f_Co_append (f_Fr_idOf x) 11 (f_Co_append 0 1 (⟨k.bits, 0, 0⟩ : sCo))))))) U.heap; rw [hU]; exact ⟨k80, k81⟩) hL hl.1 rfl rfl ⟨⟨Nat.le_of_ble_eq_true rfl, Nat.le_of_ble_eq_true rfl⟩, Nat.le_of_ble_eq_true rfl, Nat.le_of_ble_eq_true rfl⟩ (Nat.le_of_ble_eq_true rfl) d_Co_write_89 (fun v H90 locs hp hL => ?_)
        obtain ⟨rfl, ⟨k88, k89⟩, S87⟩ := hp
        refine W.eq (g2 := F0 m 92 ls []) rfl ?_
        exact hq_vret C hret hlk (Nat.le_of_ble_eq_true rfl) (Nat.le_of_ble_eq_true rfl) hL ⟨rfl, by unfold f_Co_write; rw [if_neg c0, if_neg c1]; exact ⟨k88, k89⟩, hq_Scall (hq_Scall (hq_Scall (hq_Scall (hq_Scall (hq_Scall (hq_Scall (hq_Sput (hq_Sput hq_S0 u44 (by omega) (by omega)) u47 (by omega) (by omega)) S50 (by omega) (by omega)) S55 (by omega) (by omega)) S59 (by omega) (by omega)) S63 (by omega) (by omega)) S71 (by omega) (by omega)) S79 (by omega) (by omega)) S87 (by omega) (by omega)⟩ d_Co_write_92
end
section
/-! The ring of disturbances, as functions. -/
abbrev sDi := (Nat → Int32) × Nat
abbrev sDi.ring (d : sDi) : Nat → Int32 := d.1
abbrev sDi.t (d : sDi) : Nat := d.2
def DiP (D : va_G) (cZ : ClassId) (a : Nat) (d : sDi) (H : Heap) : Prop := va_at D vwCl (a, .inr (1, [.ref (a + 1), .int (nI d.t)])) H ∧ va_at D vwCl (a + 1, .inl (cZ, 201, .inl d.ring)) H
def okDi (d : sDi) : Prop := d.t < 201 ∧ ∀ j, d.ring j = 0 ∨ d.ring j = 1
def f_Di_next (d : sDi) : sDi × Int32 := (⟨upd d.ring ((d.t + 1) % 201) 0, (d.t + 1) % 201⟩, d.ring ((d.t + 1) % 201))
def f_Di_mark (d : sDi) (i : Nat) : sDi := ⟨upd d.ring ((d.t + i) % 201) 1, d.t⟩
theorem nar01 {v : Int32} (h : v = 0 ∨ v = 1) : narrow .boolean (.int v) = .int v := by
  rcases h with rfl | rfl <;> decide
theorem okDi_next {d : sDi} (h : okDi d) : okDi (f_Di_next d).1 := by
  refine ⟨Nat.mod_lt _ (by decide), fun j => ?_⟩
  show upd d.ring ((d.t + 1) % 201) 0 j = 0 ∨ upd d.ring ((d.t + 1) % 201) 0 j = 1
  unfold upd
  by_cases hj : j = (d.t + 1) % 201
  · rw [if_pos hj]; exact Or.inl rfl
  · rw [if_neg hj]; exact h.2 j
theorem okDi_mark {d : sDi} {i : Nat} (h : okDi d) : okDi (f_Di_mark d i) := by
  refine ⟨h.1, fun j => ?_⟩
  show upd d.ring ((d.t + i) % 201) 1 j = 0 ∨ upd d.ring ((d.t + i) % 201) 1 j = 1
  unfold upd
  by_cases hj : j = (d.t + i) % 201
  · rw [if_pos hj]; exact Or.inr rfl
  · rw [if_neg hj]; exact h.2 j
set_option maxHeartbeats 4000000 in
set_option maxRecDepth 100000 in
theorem c_Di_next (l : Launch) (D : va_G) (cI cZ cN cJ : ClassId) (lo : Nat) (a : Nat) (hlo : lo ≤ a) (d : sDi) (hd : okDi d) : hq_M l y_Di_next b_Di_next 2 (some .boolean) TB { frames := 0, cells := 0, slots := 0, locals := 0 } lo D vwCl (TY cI cZ cN cJ) [.ref (a)] (fun U => DiP D cZ a d U.heap) (fun H v H' => v = some (.int (f_Di_next d).2) ∧ DiP D cZ a (f_Di_next d).1 H' ∧ hq_S a 2 H H') := by
  refine hq_ofW (by decide) (Nat.le_of_ble_eq_true rfl) ?_
  intro p e s m below meth c ls C hml hret hlk hnm hl hP
  obtain ⟨k0, k1⟩ := hP
  have hL : hq_L lo [] := hq_L0
  have hl : lv_has ls 2 [(0, .ref (a))] := hl
  have ht := hd.1
  refine lv_aload_n C.1 C.2.1 d_Di_next_0 rfl (lv_at hl 0 rfl) ?_
  refine lv_aload_n C.1 C.2.1 d_Di_next_1 rfl (lv_at hl 0 rfl) ?_
  refine hq_get (v := .int (nI d.t)) C f_Di_15 k0 rfl d_Di_next_2 ?_
  refine lv_iconst (v := 1) C.1 C.2.1 d_Di_next_5 (by decide) ?_
  refine lv_iadd C.1 C.2.1 d_Di_next_6 ?_
  rw [nI_1 d.t]
  refine lv_aload_n C.1 C.2.1 d_Di_next_7 rfl (lv_at hl 0 rfl) ?_
  refine hq_get (v := .ref (a + 1)) C f_Di_9 k0 rfl d_Di_next_8 ?_
  refine hq_alen C 1 rfl k1 (v := nI 201) rfl d_Di_next_11 ?_
  refine lv_irem C.1 C.2.1 d_Di_next_12 (nI_ne0 (by decide) (by decide)) ?_
  rw [pk_rem (show d.t + 1 < 2 ^ 31 by omega) (by decide) (by decide)]
  refine hq_put (lo := lo) C f_Di_15 k0 rfl rfl (Nat.le_of_ble_eq_true rfl) hL (by omega) d_Di_next_13 (fun H41 locs u42 hL => ?_)
  have k43 : va_at D vwCl (a, .inr (1, [.ref (a + 1), .int (nI ((d.t + 1) % 201))])) H41 := u42.2.2
  refine lv_aload_n C.1 C.2.1 d_Di_next_16 rfl (lv_at hl 0 rfl) ?_
  refine hq_get (v := .ref (a + 1)) C f_Di_9 k43 rfl d_Di_next_17 ?_
  refine lv_aload_n C.1 C.2.1 d_Di_next_20 rfl (lv_at hl 0 rfl) ?_
  refine hq_get (v := .int (nI ((d.t + 1) % 201))) C f_Di_15 k43 rfl d_Di_next_21 ?_
  have k44 := hq_au k1 u42 (by omega)
  refine hq_zald C 1 rfl k44 (vp_in_nI (Nat.mod_lt _ (by decide)) (by decide)) d_Di_next_24 ?_
  rw [nI_clamp (show (d.t + 1) % 201 < 2 ^ 31 by omega)]
  refine W.eq (g2 := F0 m 25 ls [.int (d.ring ((d.t + 1) % 201))]) rfl ?_
  refine lv_istore_n C.1 C.2.1 d_Di_next_25 rfl hl (by decide) rfl (lv' := [(1, .int (d.ring ((d.t + 1) % 201))), (0, .ref (a))]) (fun ls hl => ?_)
  refine lv_aload_n C.1 C.2.1 d_Di_next_26 rfl (lv_at hl 1 rfl) ?_
  refine hq_get (v := .ref (a + 1)) C f_Di_9 k43 rfl d_Di_next_27 ?_
  refine lv_aload_n C.1 C.2.1 d_Di_next_30 rfl (lv_at hl 1 rfl) ?_
  refine hq_get (v := .int (nI ((d.t + 1) % 201))) C f_Di_15 k43 rfl d_Di_next_31 ?_
  refine lv_iconst (v := 0) C.1 C.2.1 d_Di_next_34 (by decide) ?_
  refine hq_zast (lo := lo) C 1 rfl k44 (vp_in_nI (Nat.mod_lt _ (by decide)) (by decide)) hL (by omega) d_Di_next_35 (fun H45 locs u46 hL => ?_)
  have k47 : va_at D vwCl (a + 1, .inl (cZ, 201, .inl (upd d.ring (nI ((d.t + 1) % 201)).toNatClampNeg (vp_nar .boolean 0)))) H45 := u46.2.2
  rw [nI_clamp (show (d.t + 1) % 201 < 2 ^ 31 by omega)] at k47
  refine lv_iload_n C.1 C.2.1 d_Di_next_36 rfl (lv_at hl 0 rfl) ?_
  have k48 := hq_au k43 u46 (by omega)
  exact hq_zret C hret hlk (nar01 (hd.2 _)) (Nat.le_of_ble_eq_true rfl) (Nat.le_of_ble_eq_true rfl) hL ⟨rfl, ⟨k48, k47⟩, hq_Sput (hq_Sput hq_S0 u42 (by omega) (by omega)) u46 (by omega) (by omega)⟩ d_Di_next_37
set_option maxHeartbeats 4000000 in
set_option maxRecDepth 100000 in
theorem c_Di_mark (l : Launch) (D : va_G) (cI cZ cN cJ : ClassId) (lo : Nat) (a : Nat) (hlo : lo ≤ a) (d : sDi) (hd : okDi d) (i : Nat) (hi : i ≤ 200) : hq_M l y_Di_mark b_Di_mark 2 none TB { frames := 1, cells := 0, slots := 0, locals := 30 } lo D vwCl (TY cI cZ cN cJ) [.ref (a), .int (nI i)] (fun U => DiP D cZ a d U.heap) (fun H v H' => v = none ∧ DiP D cZ a (f_Di_mark d i) H' ∧ hq_S a 2 H H') := by
  refine hq_ofW (by decide) (Nat.le_of_ble_eq_true rfl) ?_
  intro p e s m below meth c ls C hml hret hlk hnm hl hP
  obtain ⟨k0, k1⟩ := hP
  have hL : hq_L lo [] := hq_L0
  have hl : lv_has ls 2 [(0, .ref (a)), (1, .int (nI i))] := hl
  have ht := hd.1
  refine lv_aload_n C.1 C.2.1 d_Di_mark_0 rfl (lv_at hl 0 rfl) ?_
  refine hq_get (v := .ref (a + 1)) C f_Di_9 k0 rfl d_Di_mark_1 ?_
  refine lv_aload_n C.1 C.2.1 d_Di_mark_4 rfl (lv_at hl 0 rfl) ?_
  refine hq_get (v := .int (nI d.t)) C f_Di_15 k0 rfl d_Di_mark_5 ?_
  refine lv_iload_n C.1 C.2.1 d_Di_mark_8 rfl (lv_at hl 1 rfl) ?_
  refine lv_iadd C.1 C.2.1 d_Di_mark_9 ?_
  rw [nI_add d.t i]
  refine lv_aload_n C.1 C.2.1 d_Di_mark_10 rfl (lv_at hl 0 rfl) ?_
  refine hq_get (v := .ref (a + 1)) C f_Di_9 k0 rfl d_Di_mark_11 ?_
  refine hq_alen C 1 rfl k1 (v := nI 201) rfl d_Di_mark_14 ?_
  refine hq_callS (lo := lo) (As := [.int (nI (d.t + i)), .int (nI 201)]) (rest := [.ref (a + 1)]) C tb_good hml Y_Di_19 (c_floorMod l D cI cZ cN cJ lo (d.t + i) 201 (by omega) (by decide) (by decide)) (fun _ _ _ _ h => h) (fun U hU hW => trivial) hL hl.1 rfl rfl ⟨⟨Nat.le_of_ble_eq_true rfl, Nat.le_of_ble_eq_true rfl⟩, Nat.le_of_ble_eq_true rfl, Nat.le_of_ble_eq_true rfl⟩ (Nat.le_of_ble_eq_true rfl) d_Di_mark_15 (fun v H41 locs hp hL => ?_)
  obtain ⟨rfl, rfl⟩ := hp
  refine W.eq (g2 := F0 m 18 ls [.int (nI ((d.t + i) % 201)), .ref (a + 1)]) rfl ?_
  refine lv_iconst (v := 1) C.1 C.2.1 d_Di_mark_18 (by decide) ?_
  refine hq_zast (lo := lo) C 1 rfl k1 (vp_in_nI (Nat.mod_lt _ (by decide)) (by decide)) hL (by omega) d_Di_mark_19 (fun H42 locs u43 hL => ?_)
  have k44 : va_at D vwCl (a + 1, .inl (cZ, 201, .inl (upd d.ring (nI ((d.t + i) % 201)).toNatClampNeg (vp_nar .boolean 1)))) H42 := u43.2.2
  rw [nI_clamp (show (d.t + i) % 201 < 2 ^ 31 by omega)] at k44
  have k45 := hq_au k0 u43 (by omega)
  exact hq_vret C hret hlk (Nat.le_of_ble_eq_true rfl) (Nat.le_of_ble_eq_true rfl) hL ⟨rfl, ⟨k45, k44⟩, hq_Sput hq_S0 u43 (by omega) (by omega)⟩ d_Di_mark_20
end
section
/-! A node, as functions. -/
abbrev sNd := Int32 × Int32 × Int32 × Int32 × Int32 × Int32 × Int32 × Int32 × Int32 × Int32 × Int32 × Int32 × Int32 × sFr × sFr × sDi × sCo × sRe
abbrev sNd.st (z : sNd) : Int32 := z.1
abbrev sNd.was (z : sNd) : Int32 := z.2.1
abbrev sNd.se (z : sNd) : Int32 := z.2.2.1
abbrev sNd.he (z : sNd) : Int32 := z.2.2.2.1
abbrev sNd.lo (z : sNd) : Int32 := z.2.2.2.2.1
abbrev sNd.ma (z : sNd) : Int32 := z.2.2.2.2.2.1
abbrev sNd.va (z : sNd) : Int32 := z.2.2.2.2.2.2.1
abbrev sNd.sp (z : sNd) : Int32 := z.2.2.2.2.2.2.2.1
abbrev sNd.dr (z : sNd) : Int32 := z.2.2.2.2.2.2.2.2.1
abbrev sNd.pf (z : sNd) : Int32 := z.2.2.2.2.2.2.2.2.2.1
abbrev sNd.ss (z : sNd) : Int32 := z.2.2.2.2.2.2.2.2.2.2.1
abbrev sNd.on (z : sNd) : Int32 := z.2.2.2.2.2.2.2.2.2.2.2.1
abbrev sNd.ro (z : sNd) : Int32 := z.2.2.2.2.2.2.2.2.2.2.2.2.1
abbrev sNd.w (z : sNd) : sFr := z.2.2.2.2.2.2.2.2.2.2.2.2.2.1
abbrev sNd.i (z : sNd) : sFr := z.2.2.2.2.2.2.2.2.2.2.2.2.2.2.1
abbrev sNd.d (z : sNd) : sDi := z.2.2.2.2.2.2.2.2.2.2.2.2.2.2.2.1
abbrev sNd.k (z : sNd) : sCo := z.2.2.2.2.2.2.2.2.2.2.2.2.2.2.2.2.1
abbrev sNd.r (z : sNd) : sRe := z.2.2.2.2.2.2.2.2.2.2.2.2.2.2.2.2.2
abbrev sNd.mk (st was se he lo ma va sp dr pf ss on ro : Int32) (w i : sFr) (d : sDi) (k : sCo) (r : sRe) : sNd := (st, was, se, he, lo, ma, va, sp, dr, pf, ss, on, ro, w, i, d, k, r)
abbrev cNo (b : Nat) (z : sNd) : va_E := .inr (3, [.ref (b + 1), .ref (b + 3), .ref (b + 5), .ref (b + 7), .ref (b + 9), .int (z.st), .int (z.was), .int (z.se), .int (z.he), .int (z.lo), .int (z.ma), .int (z.va), .int (z.sp), .int (z.dr), .int (z.pf), .int (z.ss), .int (z.on), .int (z.ro)])
def NdP (D : va_G) (cI cZ : ClassId) (b : Nat) (z : sNd) (H : Heap) : Prop := va_at D vwCl (b, cNo b z) H ∧ FrP D cI (b + 1) z.w H ∧ FrP D cI (b + 3) z.i H ∧ DiP D cZ (b + 5) z.d H ∧ CoP D cI (b + 7) z.k H ∧ va_at D vwCl (b + 9, cRe z.r) H
def okNd (z : sNd) : Prop := z.w.k ≤ 4 ∧ z.i.k ≤ 4 ∧ okDi z.d ∧ z.k.len ≤ 50
def f_Ma_min (x y : Int32) : Int32 := if y < x then (y) else (x)
set_option maxHeartbeats 4000000 in
set_option maxRecDepth 100000 in
theorem c_Ma_min (l : Launch) (D : va_G) (cI cZ cN cJ : ClassId) (lo : Nat)  (x y : Int32) : hq_M l y_Ma_min b_Ma_min 2 (some .int) TB { frames := 0, cells := 0, slots := 0, locals := 0 } lo D vwCl (TY cI cZ cN cJ) [.int (x), .int (y)] (fun _ => True) (fun H v H' => v = some (.int (f_Ma_min x y)) ∧ H' = H) := by
  refine hq_ofWF (by decide +kernel) (Nat.le_of_ble_eq_true rfl) ?_
  intro p e s m below meth c ls C hml hret hlk hnm hl hP
  have hL : hq_L lo [] := hq_L0
  have hl : lv_has ls 2 [(0, .int (x)), (1, .int (y))] := hl
  refine lv_iload_n C.1 C.2.1 d_Ma_min_0 rfl (lv_at hl 0 rfl) ?_
  refine lv_iload_n C.1 C.2.1 d_Ma_min_1 rfl (lv_at hl 1 rfl) ?_
  refine lv_icmp_gt (tgt := 9) C.1 C.2.1 d_Ma_min_2 (by decide) ?_ ?_
  · intro c41
    refine lv_iload_n C.1 C.2.1 d_Ma_min_9 rfl (lv_at hl 1 rfl) ?_
    have hf : f_Ma_min x y = y := by unfold f_Ma_min; rw [if_pos c41]
    exact hq_iret C hret hlk (Nat.le_of_ble_eq_true rfl) (Nat.le_of_ble_eq_true rfl) hL ⟨by rw [hf], rfl⟩ d_Ma_min_10
  · intro c41
    refine lv_iload_n C.1 C.2.1 d_Ma_min_5 rfl (lv_at hl 0 rfl) ?_
    refine lv_goto (tgt := 10) C.1 C.2.1 d_Ma_min_6 (by decide) ?_
    have hf : f_Ma_min x y = x := by unfold f_Ma_min; rw [if_neg c41]
    exact hq_iret C hret hlk (Nat.le_of_ble_eq_true rfl) (Nat.le_of_ble_eq_true rfl) hL ⟨by rw [hf], rfl⟩ d_Ma_min_10
theorem write_len (k : sCo) (x : Int32) : (f_Co_write k x).len ≤ 50 := by
  have h0 : sCo.len (k.bits, 0, 0) ≤ 50 := Nat.zero_le 50
  unfold f_Co_write
  split
  · exact append_len _ _ _ (append_len _ _ _ (append_len _ _ _ (append_len _ _ _ (append_len _ _ _ h0))))
  · split
    · exact append_len _ _ _ (append_len _ _ _ (append_len _ _ _ (append_len _ _ _ (append_len _ _ _ (append_len _ _ _ h0)))))
    · exact append_len _ _ _ (append_len _ _ _ (append_len _ _ _ (append_len _ _ _ (append_len _ _ _ (append_len _ _ _ (append_len _ _ _ h0))))))
def f_No_isPassive (z : sNd) : Int32 := if 127 < z.se then ((1 : Int32)) else (if z.he ≤ 127 then ((0 : Int32)) else ((1 : Int32)))
set_option maxHeartbeats 4000000 in
set_option maxRecDepth 100000 in
theorem c_No_isPassive (l : Launch) (D : va_G) (cI cZ cN cJ : ClassId) (lo : Nat) (b : Nat) (z : sNd) : hq_M l y_No_isPassive b_No_isPassive 1 (some .boolean) TB { frames := 0, cells := 0, slots := 0, locals := 0 } lo D vwCl (TY cI cZ cN cJ) [.ref (b)] (fun U => NdP D cI cZ b z U.heap) (fun H v H' => v = some (.int (f_No_isPassive z)) ∧ H' = H) := by
  refine hq_ofW (by decide) (Nat.le_of_ble_eq_true rfl) ?_
  intro p e s m below meth c ls C hml hret hlk hnm hl hP
  have hL : hq_L lo [] := hq_L0
  have hl : lv_has ls 1 [(0, .ref (b))] := hl
  have kz := hP
  refine lv_aload_n C.1 C.2.1 d_No_isPassive_0 rfl (lv_at hl 0 rfl) ?_
  refine hq_get (v := .int (z.se)) C f_No_49 kz.1 rfl d_No_isPassive_1 ?_
  refine lv_bipush (v := 127) C.1 C.2.1 d_No_isPassive_4 (by decide) ?_
  refine lv_icmp_gt (tgt := 18) C.1 C.2.1 d_No_isPassive_6 (by decide) ?_ ?_
  · intro c41
    refine lv_iconst (v := 1) C.1 C.2.1 d_No_isPassive_18 (by decide) ?_
    refine lv_goto (tgt := 23) C.1 C.2.1 d_No_isPassive_19 (by decide) ?_
    have hf : f_No_isPassive z = (1 : Int32) := by unfold f_No_isPassive; rw [if_pos c41]
    exact hq_zret C hret hlk (by decide) (Nat.le_of_ble_eq_true rfl) (Nat.le_of_ble_eq_true rfl) hL ⟨by rw [hf], rfl⟩ d_No_isPassive_23
  · intro c41
    refine lv_aload_n C.1 C.2.1 d_No_isPassive_9 rfl (lv_at hl 0 rfl) ?_
    refine hq_get (v := .int (z.he)) C f_No_52 kz.1 rfl d_No_isPassive_10 ?_
    refine lv_bipush (v := 127) C.1 C.2.1 d_No_isPassive_13 (by decide) ?_
    refine lv_icmp_le (tgt := 22) C.1 C.2.1 d_No_isPassive_15 (by decide) ?_ ?_
    · intro c42
      refine lv_iconst (v := 0) C.1 C.2.1 d_No_isPassive_22 (by decide) ?_
      have hf : f_No_isPassive z = (0 : Int32) := by unfold f_No_isPassive; rw [if_neg c41, if_pos c42]
      exact hq_zret C hret hlk (by decide) (Nat.le_of_ble_eq_true rfl) (Nat.le_of_ble_eq_true rfl) hL ⟨by rw [hf], rfl⟩ d_No_isPassive_23
    · intro c42
      refine lv_iconst (v := 1) C.1 C.2.1 d_No_isPassive_18 (by decide) ?_
      refine lv_goto (tgt := 23) C.1 C.2.1 d_No_isPassive_19 (by decide) ?_
      have hf : f_No_isPassive z = (1 : Int32) := by unfold f_No_isPassive; rw [if_neg c41, if_neg c42]
      exact hq_zret C hret hlk (by decide) (Nat.le_of_ble_eq_true rfl) (Nat.le_of_ble_eq_true rfl) hL ⟨by rw [hf], rfl⟩ d_No_isPassive_23
theorem isPassive01 (z : sNd) : f_No_isPassive z = 0 ∨ f_No_isPassive z = 1 := by
  unfold f_No_isPassive
  split
  · exact Or.inr rfl
  · split
    · exact Or.inl rfl
    · exact Or.inr rfl
def f_No_beginFlag (z : sNd) (x : Int32) : sNd := (sNd.mk 3 z.was z.se z.he z.lo z.ma z.va z.sp z.dr x 0 z.on z.ro z.w z.i z.d z.k z.r)
set_option maxHeartbeats 4000000 in
set_option maxRecDepth 100000 in
theorem c_No_beginFlag (l : Launch) (D : va_G) (cI cZ cN cJ : ClassId) (lo : Nat) (b : Nat) (hlo : lo ≤ b) (z : sNd) (x : Int32) (hx : x = 0 ∨ x = 1) : hq_M l y_No_beginFlag b_No_beginFlag 2 none TB { frames := 0, cells := 0, slots := 0, locals := 0 } lo D vwCl (TY cI cZ cN cJ) [.ref (b), .int (x)] (fun U => NdP D cI cZ b z U.heap) (fun H v H' => v = none ∧ NdP D cI cZ b (f_No_beginFlag z x) H' ∧ hq_S b 10 H H') := by
  refine hq_ofW (by decide) (Nat.le_of_ble_eq_true rfl) ?_
  intro p e s m below meth c ls C hml hret hlk hnm hl hP
  have hL : hq_L lo [] := hq_L0
  have hl : lv_has ls 2 [(0, .ref (b)), (1, .int (x))] := hl
  have kz := hP
  refine lv_aload_n C.1 C.2.1 d_No_beginFlag_0 rfl (lv_at hl 0 rfl) ?_
  refine lv_iload_n C.1 C.2.1 d_No_beginFlag_1 rfl (lv_at hl 1 rfl) ?_
  refine hq_put (lo := lo) C f_No_70 kz.1 (nar01 hx) (by rcases hx with rfl | rfl <;> rfl) (Nat.le_of_ble_eq_true rfl) hL (by omega) d_No_beginFlag_2 (fun H41 locs u42 hL => ?_)
  have k43 : va_at D vwCl (b, .inr (3, [.ref (b + 1), .ref (b + 3), .ref (b + 5), .ref (b + 7), .ref (b + 9), .int (z.st), .int (z.was), .int (z.se), .int (z.he), .int (z.lo), .int (z.ma), .int (z.va), .int (z.sp), .int (z.dr), .int (x), .int (z.ss), .int (z.on), .int (z.ro)])) H41 := u42.2.2
  refine lv_aload_n C.1 C.2.1 d_No_beginFlag_5 rfl (lv_at hl 0 rfl) ?_
  refine lv_iconst (v := 3) C.1 C.2.1 d_No_beginFlag_6 (by decide) ?_
  refine hq_put (lo := lo) C f_No_42 k43 rfl rfl (Nat.le_of_ble_eq_true rfl) hL (by omega) d_No_beginFlag_7 (fun H44 locs u45 hL => ?_)
  have k46 : va_at D vwCl (b, .inr (3, [.ref (b + 1), .ref (b + 3), .ref (b + 5), .ref (b + 7), .ref (b + 9), .int (3), .int (z.was), .int (z.se), .int (z.he), .int (z.lo), .int (z.ma), .int (z.va), .int (z.sp), .int (z.dr), .int (x), .int (z.ss), .int (z.on), .int (z.ro)])) H44 := u45.2.2
  refine lv_aload_n C.1 C.2.1 d_No_beginFlag_10 rfl (lv_at hl 0 rfl) ?_
  refine lv_iconst (v := 0) C.1 C.2.1 d_No_beginFlag_11 (by decide) ?_
  refine hq_put (lo := lo) C f_No_74 k46 rfl rfl (Nat.le_of_ble_eq_true rfl) hL (by omega) d_No_beginFlag_12 (fun H47 locs u48 hL => ?_)
  have k49 : va_at D vwCl (b, .inr (3, [.ref (b + 1), .ref (b + 3), .ref (b + 5), .ref (b + 7), .ref (b + 9), .int (3), .int (z.was), .int (z.se), .int (z.he), .int (z.lo), .int (z.ma), .int (z.va), .int (z.sp), .int (z.dr), .int (x), .int (0), .int (z.on), .int (z.ro)])) H47 := u48.2.2
  have hf : f_No_beginFlag z x = (sNd.mk 3 z.was z.se z.he z.lo z.ma z.va z.sp z.dr x 0 z.on z.ro z.w z.i z.d z.k z.r) := rfl
  have k50 := hq_au (hq_au (hq_au kz.2.1.1 u42 (by omega)) u45 (by omega)) u48 (by omega)
  have k51 := hq_au (hq_au (hq_au kz.2.1.2 u42 (by omega)) u45 (by omega)) u48 (by omega)
  have k52 := hq_au (hq_au (hq_au kz.2.2.1.1 u42 (by omega)) u45 (by omega)) u48 (by omega)
  have k53 := hq_au (hq_au (hq_au kz.2.2.1.2 u42 (by omega)) u45 (by omega)) u48 (by omega)
  have k54 := hq_au (hq_au (hq_au kz.2.2.2.1.1 u42 (by omega)) u45 (by omega)) u48 (by omega)
  have k55 := hq_au (hq_au (hq_au kz.2.2.2.1.2 u42 (by omega)) u45 (by omega)) u48 (by omega)
  have k56 := hq_au (hq_au (hq_au kz.2.2.2.2.1.1 u42 (by omega)) u45 (by omega)) u48 (by omega)
  have k57 := hq_au (hq_au (hq_au kz.2.2.2.2.1.2 u42 (by omega)) u45 (by omega)) u48 (by omega)
  have k58 := hq_au (hq_au (hq_au kz.2.2.2.2.2 u42 (by omega)) u45 (by omega)) u48 (by omega)
  exact hq_vret C hret hlk (Nat.le_of_ble_eq_true rfl) (Nat.le_of_ble_eq_true rfl) hL ⟨rfl, by rw [hf]; exact ⟨k49, ⟨k50, k51⟩, ⟨k52, k53⟩, ⟨k54, k55⟩, ⟨k56, k57⟩, k58⟩, hq_Sput (hq_Sput (hq_Sput (hq_S0) u42 (by omega) (by omega)) u45 (by omega) (by omega)) u48 (by omega) (by omega)⟩ d_No_beginFlag_15
def f_No_goOffIfTooMany (z : sNd) : sNd := if z.se ≤ 255 then (z) else ((sNd.mk 7 z.was z.se z.he z.lo z.ma z.va z.sp z.dr z.pf z.ss 0 0 (⟨z.w.row, 0⟩ : sFr) z.i z.d z.k z.r))
set_option maxHeartbeats 4000000 in
set_option maxRecDepth 100000 in
theorem c_No_goOffIfTooMany (l : Launch) (D : va_G) (cI cZ cN cJ : ClassId) (lo : Nat) (b : Nat) (hlo : lo ≤ b) (z : sNd) : hq_M l y_No_goOffIfTooMany b_No_goOffIfTooMany 1 none TB { frames := 0, cells := 0, slots := 0, locals := 0 } lo D vwCl (TY cI cZ cN cJ) [.ref (b)] (fun U => NdP D cI cZ b z U.heap) (fun H v H' => v = none ∧ NdP D cI cZ b (f_No_goOffIfTooMany z) H' ∧ hq_S b 10 H H') := by
  refine hq_ofW (by decide) (Nat.le_of_ble_eq_true rfl) ?_
  intro p e s m below meth c ls C hml hret hlk hnm hl hP
  have hL : hq_L lo [] := hq_L0
  have hl : lv_has ls 1 [(0, .ref (b))] := hl
  have kz := hP
  refine lv_aload_n C.1 C.2.1 d_No_goOffIfTooMany_0 rfl (lv_at hl 0 rfl) ?_
  refine hq_get (v := .int (z.se)) C f_No_49 kz.1 rfl d_No_goOffIfTooMany_1 ?_
  refine lv_sipush (v := 255) C.1 C.2.1 d_No_goOffIfTooMany_4 (by decide) ?_
  refine lv_icmp_le (tgt := 34) C.1 C.2.1 d_No_goOffIfTooMany_7 (by decide) ?_ ?_
  · intro c41
    have hf : f_No_goOffIfTooMany z = z := by unfold f_No_goOffIfTooMany; rw [if_pos c41]
    exact hq_vret C hret hlk (Nat.le_of_ble_eq_true rfl) (Nat.le_of_ble_eq_true rfl) hL ⟨rfl, by rw [hf]; exact kz, hq_S0⟩ d_No_goOffIfTooMany_34
  · intro c41
    refine lv_aload_n C.1 C.2.1 d_No_goOffIfTooMany_10 rfl (lv_at hl 0 rfl) ?_
    refine lv_bipush (v := 7) C.1 C.2.1 d_No_goOffIfTooMany_11 (by decide) ?_
    refine hq_put (lo := lo) C f_No_42 kz.1 rfl rfl (Nat.le_of_ble_eq_true rfl) hL (by omega) d_No_goOffIfTooMany_13 (fun H42 locs u43 hL => ?_)
    have k44 : va_at D vwCl (b, .inr (3, [.ref (b + 1), .ref (b + 3), .ref (b + 5), .ref (b + 7), .ref (b + 9), .int (7), .int (z.was), .int (z.se), .int (z.he), .int (z.lo), .int (z.ma), .int (z.va), .int (z.sp), .int (z.dr), .int (z.pf), .int (z.ss), .int (z.on), .int (z.ro)])) H42 := u43.2.2
    refine lv_aload_n C.1 C.2.1 d_No_goOffIfTooMany_16 rfl (lv_at hl 0 rfl) ?_
    refine hq_get (v := .ref (b + 1)) C f_No_12 k44 rfl d_No_goOffIfTooMany_17 ?_
    refine lv_iconst (v := 0) C.1 C.2.1 d_No_goOffIfTooMany_20 (by decide) ?_
    have k45 := hq_au kz.2.1.1 u43 (by omega)
    refine hq_put (lo := lo) C f_No_83 k45 rfl rfl (Nat.le_of_ble_eq_true rfl) hL (by omega) d_No_goOffIfTooMany_21 (fun H46 locs u47 hL => ?_)
    have k48 : va_at D vwCl (b + 1, .inr (2, [.ref (b + 1 + 1), .int (0)])) H46 := u47.2.2
    refine lv_aload_n C.1 C.2.1 d_No_goOffIfTooMany_24 rfl (lv_at hl 0 rfl) ?_
    refine lv_iconst (v := 0) C.1 C.2.1 d_No_goOffIfTooMany_25 (by decide) ?_
    have k49 := hq_au k44 u47 (by omega)
    refine hq_put (lo := lo) C f_No_77 k49 rfl rfl (Nat.le_of_ble_eq_true rfl) hL (by omega) d_No_goOffIfTooMany_26 (fun H50 locs u51 hL => ?_)
    have k52 : va_at D vwCl (b, .inr (3, [.ref (b + 1), .ref (b + 3), .ref (b + 5), .ref (b + 7), .ref (b + 9), .int (7), .int (z.was), .int (z.se), .int (z.he), .int (z.lo), .int (z.ma), .int (z.va), .int (z.sp), .int (z.dr), .int (z.pf), .int (z.ss), .int (0), .int (z.ro)])) H50 := u51.2.2
    refine lv_aload_n C.1 C.2.1 d_No_goOffIfTooMany_29 rfl (lv_at hl 0 rfl) ?_
    refine lv_iconst (v := 0) C.1 C.2.1 d_No_goOffIfTooMany_30 (by decide) ?_
    refine hq_put (lo := lo) C f_No_80 k52 rfl rfl (Nat.le_of_ble_eq_true rfl) hL (by omega) d_No_goOffIfTooMany_31 (fun H53 locs u54 hL => ?_)
    have k55 : va_at D vwCl (b, .inr (3, [.ref (b + 1), .ref (b + 3), .ref (b + 5), .ref (b + 7), .ref (b + 9), .int (7), .int (z.was), .int (z.se), .int (z.he), .int (z.lo), .int (z.ma), .int (z.va), .int (z.sp), .int (z.dr), .int (z.pf), .int (z.ss), .int (0), .int (0)])) H53 := u54.2.2
    have hf : f_No_goOffIfTooMany z = (sNd.mk 7 z.was z.se z.he z.lo z.ma z.va z.sp z.dr z.pf z.ss 0 0 (⟨z.w.row, 0⟩ : sFr) z.i z.d z.k z.r) := by unfold f_No_goOffIfTooMany; rw [if_neg c41]
    have k56 := hq_au (hq_au k48 u51 (by omega)) u54 (by omega)
    have k57 := hq_au (hq_au (hq_au (hq_au kz.2.1.2 u43 (by omega)) u47 (by omega)) u51 (by omega)) u54 (by omega)
    have k58 := hq_au (hq_au (hq_au (hq_au kz.2.2.1.1 u43 (by omega)) u47 (by omega)) u51 (by omega)) u54 (by omega)
    have k59 := hq_au (hq_au (hq_au (hq_au kz.2.2.1.2 u43 (by omega)) u47 (by omega)) u51 (by omega)) u54 (by omega)
    have k60 := hq_au (hq_au (hq_au (hq_au kz.2.2.2.1.1 u43 (by omega)) u47 (by omega)) u51 (by omega)) u54 (by omega)
    have k61 := hq_au (hq_au (hq_au (hq_au kz.2.2.2.1.2 u43 (by omega)) u47 (by omega)) u51 (by omega)) u54 (by omega)
    have k62 := hq_au (hq_au (hq_au (hq_au kz.2.2.2.2.1.1 u43 (by omega)) u47 (by omega)) u51 (by omega)) u54 (by omega)
    have k63 := hq_au (hq_au (hq_au (hq_au kz.2.2.2.2.1.2 u43 (by omega)) u47 (by omega)) u51 (by omega)) u54 (by omega)
    have k64 := hq_au (hq_au (hq_au (hq_au kz.2.2.2.2.2 u43 (by omega)) u47 (by omega)) u51 (by omega)) u54 (by omega)
    exact hq_vret C hret hlk (Nat.le_of_ble_eq_true rfl) (Nat.le_of_ble_eq_true rfl) hL ⟨rfl, by rw [hf]; exact ⟨k55, ⟨k56, k57⟩, ⟨k58, k59⟩, ⟨k60, k61⟩, ⟨k62, k63⟩, k64⟩, hq_Sput (hq_Sput (hq_Sput (hq_Sput (hq_S0) u43 (by omega) (by omega)) u47 (by omega) (by omega)) u51 (by omega) (by omega)) u54 (by omega) (by omega)⟩ d_No_goOffIfTooMany_34
def f_No_beginPause (z : sNd) : sNd := (sNd.mk 5 z.was z.se z.he z.lo z.ma z.va z.sp z.dr z.pf 0 z.on z.ro z.w z.i z.d z.k z.r)
set_option maxHeartbeats 4000000 in
set_option maxRecDepth 100000 in
theorem c_No_beginPause (l : Launch) (D : va_G) (cI cZ cN cJ : ClassId) (lo : Nat) (b : Nat) (hlo : lo ≤ b) (z : sNd) : hq_M l y_No_beginPause b_No_beginPause 1 none TB { frames := 0, cells := 0, slots := 0, locals := 0 } lo D vwCl (TY cI cZ cN cJ) [.ref (b)] (fun U => NdP D cI cZ b z U.heap) (fun H v H' => v = none ∧ NdP D cI cZ b (f_No_beginPause z) H' ∧ hq_S b 10 H H') := by
  refine hq_ofW (by decide) (Nat.le_of_ble_eq_true rfl) ?_
  intro p e s m below meth c ls C hml hret hlk hnm hl hP
  have hL : hq_L lo [] := hq_L0
  have hl : lv_has ls 1 [(0, .ref (b))] := hl
  have kz := hP
  refine lv_aload_n C.1 C.2.1 d_No_beginPause_0 rfl (lv_at hl 0 rfl) ?_
  refine lv_iconst (v := 5) C.1 C.2.1 d_No_beginPause_1 (by decide) ?_
  refine hq_put (lo := lo) C f_No_42 kz.1 rfl rfl (Nat.le_of_ble_eq_true rfl) hL (by omega) d_No_beginPause_2 (fun H41 locs u42 hL => ?_)
  have k43 : va_at D vwCl (b, .inr (3, [.ref (b + 1), .ref (b + 3), .ref (b + 5), .ref (b + 7), .ref (b + 9), .int (5), .int (z.was), .int (z.se), .int (z.he), .int (z.lo), .int (z.ma), .int (z.va), .int (z.sp), .int (z.dr), .int (z.pf), .int (z.ss), .int (z.on), .int (z.ro)])) H41 := u42.2.2
  refine lv_aload_n C.1 C.2.1 d_No_beginPause_5 rfl (lv_at hl 0 rfl) ?_
  refine lv_iconst (v := 0) C.1 C.2.1 d_No_beginPause_6 (by decide) ?_
  refine hq_put (lo := lo) C f_No_74 k43 rfl rfl (Nat.le_of_ble_eq_true rfl) hL (by omega) d_No_beginPause_7 (fun H44 locs u45 hL => ?_)
  have k46 : va_at D vwCl (b, .inr (3, [.ref (b + 1), .ref (b + 3), .ref (b + 5), .ref (b + 7), .ref (b + 9), .int (5), .int (z.was), .int (z.se), .int (z.he), .int (z.lo), .int (z.ma), .int (z.va), .int (z.sp), .int (z.dr), .int (z.pf), .int (0), .int (z.on), .int (z.ro)])) H44 := u45.2.2
  have hf : f_No_beginPause z = (sNd.mk 5 z.was z.se z.he z.lo z.ma z.va z.sp z.dr z.pf 0 z.on z.ro z.w z.i z.d z.k z.r) := rfl
  have k47 := hq_au (hq_au kz.2.1.1 u42 (by omega)) u45 (by omega)
  have k48 := hq_au (hq_au kz.2.1.2 u42 (by omega)) u45 (by omega)
  have k49 := hq_au (hq_au kz.2.2.1.1 u42 (by omega)) u45 (by omega)
  have k50 := hq_au (hq_au kz.2.2.1.2 u42 (by omega)) u45 (by omega)
  have k51 := hq_au (hq_au kz.2.2.2.1.1 u42 (by omega)) u45 (by omega)
  have k52 := hq_au (hq_au kz.2.2.2.1.2 u42 (by omega)) u45 (by omega)
  have k53 := hq_au (hq_au kz.2.2.2.2.1.1 u42 (by omega)) u45 (by omega)
  have k54 := hq_au (hq_au kz.2.2.2.2.1.2 u42 (by omega)) u45 (by omega)
  have k55 := hq_au (hq_au kz.2.2.2.2.2 u42 (by omega)) u45 (by omega)
  exact hq_vret C hret hlk (Nat.le_of_ble_eq_true rfl) (Nat.le_of_ble_eq_true rfl) hL ⟨rfl, by rw [hf]; exact ⟨k46, ⟨k47, k48⟩, ⟨k49, k50⟩, ⟨k51, k52⟩, ⟨k53, k54⟩, k55⟩, hq_Sput (hq_Sput (hq_S0) u42 (by omega) (by omega)) u45 (by omega) (by omega)⟩ d_No_beginPause_10
def f_No_overload (z : sNd) : sNd × Int32 := ((f_No_beginFlag (sNd.mk z.st 0 z.se z.he z.lo z.ma z.va z.sp z.dr z.pf z.ss z.on z.ro z.w z.i z.d z.k z.r) 0), 7)
set_option maxHeartbeats 4000000 in
set_option maxRecDepth 100000 in
theorem c_No_overload (l : Launch) (D : va_G) (cI cZ cN cJ : ClassId) (lo : Nat) (b : Nat) (hlo : lo ≤ b) (z : sNd) : hq_M l y_No_overload b_No_overload 1 (some .int) TB { frames := 1, cells := 0, slots := 0, locals := 21 } lo D vwCl (TY cI cZ cN cJ) [.ref (b)] (fun U => NdP D cI cZ b z U.heap) (fun H v H' => v = some (.int (f_No_overload z).2) ∧ NdP D cI cZ b (f_No_overload z).1 H' ∧ hq_S b 10 H H') := by
  refine hq_ofW (by decide) (Nat.le_of_ble_eq_true rfl) ?_
  intro p e s m below meth c ls C hml hret hlk hnm hl hP
  have hL : hq_L lo [] := hq_L0
  have hl : lv_has ls 1 [(0, .ref (b))] := hl
  have kz := hP
  refine lv_aload_n C.1 C.2.1 d_No_overload_0 rfl (lv_at hl 0 rfl) ?_
  refine lv_iconst (v := 0) C.1 C.2.1 d_No_overload_1 (by decide) ?_
  refine hq_put (lo := lo) C f_No_46 kz.1 rfl rfl (Nat.le_of_ble_eq_true rfl) hL (by omega) d_No_overload_2 (fun H41 locs u42 hL => ?_)
  have k43 : va_at D vwCl (b, .inr (3, [.ref (b + 1), .ref (b + 3), .ref (b + 5), .ref (b + 7), .ref (b + 9), .int (z.st), .int (0), .int (z.se), .int (z.he), .int (z.lo), .int (z.ma), .int (z.va), .int (z.sp), .int (z.dr), .int (z.pf), .int (z.ss), .int (z.on), .int (z.ro)])) H41 := u42.2.2
  refine lv_aload_n C.1 C.2.1 d_No_overload_5 rfl (lv_at hl 0 rfl) ?_
  refine lv_iconst (v := 0) C.1 C.2.1 d_No_overload_6 (by decide) ?_
  have k44 := hq_au kz.2.1.1 u42 (by omega)
  have k45 := hq_au kz.2.1.2 u42 (by omega)
  have k46 := hq_au kz.2.2.1.1 u42 (by omega)
  have k47 := hq_au kz.2.2.1.2 u42 (by omega)
  have k48 := hq_au kz.2.2.2.1.1 u42 (by omega)
  have k49 := hq_au kz.2.2.2.1.2 u42 (by omega)
  have k50 := hq_au kz.2.2.2.2.1.1 u42 (by omega)
  have k51 := hq_au kz.2.2.2.2.1.2 u42 (by omega)
  have k52 := hq_au kz.2.2.2.2.2 u42 (by omega)
  refine hq_callV (lo := lo) (As := [.int (0)]) (rest := []) C tb_good hml Y_No_210 (c_No_beginFlag l D cI cZ cN cJ lo (b) (by omega) (sNd.mk z.st 0 z.se z.he z.lo z.ma z.va z.sp z.dr z.pf z.ss z.on z.ro z.w z.i z.d z.k z.r) 0 (Or.inl rfl)) k43 rfl (fun _ _ _ _ h => h) (fun U hU hW => by show NdP D cI cZ (b) (sNd.mk z.st 0 z.se z.he z.lo z.ma z.va z.sp z.dr z.pf z.ss z.on z.ro z.w z.i z.d z.k z.r) U.heap; rw [hU]; exact ⟨k43, ⟨k44, k45⟩, ⟨k46, k47⟩, ⟨k48, k49⟩, ⟨k50, k51⟩, k52⟩) hL hl.1 rfl rfl ⟨⟨Nat.le_of_ble_eq_true rfl, Nat.le_of_ble_eq_true rfl⟩, Nat.le_of_ble_eq_true rfl, Nat.le_of_ble_eq_true rfl⟩ (Nat.le_of_ble_eq_true rfl) d_No_overload_7 (fun v H55 locs hp hL => ?_)
  obtain ⟨rfl, k54, S53⟩ := hp
  refine W.eq (g2 := F0 m 10 ls []) rfl ?_
  refine lv_bipush (v := 7) C.1 C.2.1 d_No_overload_10 (by decide) ?_
  have hf : f_No_overload z = ((f_No_beginFlag (sNd.mk z.st 0 z.se z.he z.lo z.ma z.va z.sp z.dr z.pf z.ss z.on z.ro z.w z.i z.d z.k z.r) 0), 7) := rfl
  exact hq_iret C hret hlk (Nat.le_of_ble_eq_true rfl) (Nat.le_of_ble_eq_true rfl) hL ⟨by rw [hf], by rw [hf]; exact k54, hq_Scall (hq_Sput (hq_S0) u42 (by omega) (by omega)) S53 (by omega) (by omega)⟩ d_No_overload_12
def f_No_countHeavily (z : sNd) : sNd := if z.was = 1 then ((f_No_goOffIfTooMany (sNd.mk z.st z.was (z.se + 8) z.he z.lo z.ma z.va z.sp z.dr z.pf z.ss z.on z.ro z.w z.i z.d z.k z.r))) else (if z.was = 2 then ((f_No_goOffIfTooMany (sNd.mk z.st z.was z.se (z.he + 8) z.lo z.ma z.va z.sp z.dr z.pf z.ss z.on z.ro z.w z.i z.d z.k z.r))) else ((f_No_goOffIfTooMany z)))
set_option maxHeartbeats 4000000 in
set_option maxRecDepth 100000 in
theorem c_No_countHeavily (l : Launch) (D : va_G) (cI cZ cN cJ : ClassId) (lo : Nat) (b : Nat) (hlo : lo ≤ b) (z : sNd) : hq_M l y_No_countHeavily b_No_countHeavily 1 none TB { frames := 1, cells := 0, slots := 0, locals := 20 } lo D vwCl (TY cI cZ cN cJ) [.ref (b)] (fun U => NdP D cI cZ b z U.heap) (fun H v H' => v = none ∧ NdP D cI cZ b (f_No_countHeavily z) H' ∧ hq_S b 10 H H') := by
  refine hq_ofW (by decide) (Nat.le_of_ble_eq_true rfl) ?_
  intro p e s m below meth c ls C hml hret hlk hnm hl hP
  have hL : hq_L lo [] := hq_L0
  have hl : lv_has ls 1 [(0, .ref (b))] := hl
  have kz := hP
  refine lv_aload_n C.1 C.2.1 d_No_countHeavily_0 rfl (lv_at hl 0 rfl) ?_
  refine hq_get (v := .int (z.was)) C f_No_46 kz.1 rfl d_No_countHeavily_1 ?_
  refine lv_iconst (v := 1) C.1 C.2.1 d_No_countHeavily_4 (by decide) ?_
  refine lv_icmp_ne (tgt := 22) C.1 C.2.1 d_No_countHeavily_5 (by decide) ?_ ?_
  · intro c41
    refine lv_aload_n C.1 C.2.1 d_No_countHeavily_22 rfl (lv_at hl 0 rfl) ?_
    refine hq_get (v := .int (z.was)) C f_No_46 kz.1 rfl d_No_countHeavily_23 ?_
    refine lv_iconst (v := 2) C.1 C.2.1 d_No_countHeavily_26 (by decide) ?_
    refine lv_icmp_ne (tgt := 41) C.1 C.2.1 d_No_countHeavily_27 (by decide) ?_ ?_
    · intro c42
      refine lv_aload_n C.1 C.2.1 d_No_countHeavily_41 rfl (lv_at hl 0 rfl) ?_
      refine hq_callV (lo := lo) (As := []) (rest := []) C tb_good hml Y_No_214 (c_No_goOffIfTooMany l D cI cZ cN cJ lo (b) (by omega) z) kz.1 rfl (fun _ _ _ _ h => h) (fun U hU hW => by show NdP D cI cZ (b) z U.heap; rw [hU]; exact kz) hL hl.1 rfl rfl ⟨⟨Nat.le_of_ble_eq_true rfl, Nat.le_of_ble_eq_true rfl⟩, Nat.le_of_ble_eq_true rfl, Nat.le_of_ble_eq_true rfl⟩ (Nat.le_of_ble_eq_true rfl) d_No_countHeavily_42 (fun v H45 locs hp hL => ?_)
      obtain ⟨rfl, k44, S43⟩ := hp
      refine W.eq (g2 := F0 m 45 ls []) rfl ?_
      have hf : f_No_countHeavily z = (f_No_goOffIfTooMany z) := by unfold f_No_countHeavily; rw [if_neg c41, if_neg c42]
      exact hq_vret C hret hlk (Nat.le_of_ble_eq_true rfl) (Nat.le_of_ble_eq_true rfl) hL ⟨rfl, by rw [hf]; exact k44, hq_Scall (hq_S0) S43 (by omega) (by omega)⟩ d_No_countHeavily_45
    · intro c42
      refine lv_aload_n C.1 C.2.1 d_No_countHeavily_30 rfl (lv_at hl 0 rfl) ?_
      refine lv_dup C.1 C.2.1 d_No_countHeavily_31 rfl ?_
      refine hq_get (v := .int (z.he)) C f_No_52 kz.1 rfl d_No_countHeavily_32 ?_
      refine lv_bipush (v := 8) C.1 C.2.1 d_No_countHeavily_35 (by decide) ?_
      refine lv_iadd C.1 C.2.1 d_No_countHeavily_37 ?_
      refine hq_put (lo := lo) C f_No_52 kz.1 rfl rfl (Nat.le_of_ble_eq_true rfl) hL (by omega) d_No_countHeavily_38 (fun H46 locs u47 hL => ?_)
      have k48 : va_at D vwCl (b, .inr (3, [.ref (b + 1), .ref (b + 3), .ref (b + 5), .ref (b + 7), .ref (b + 9), .int (z.st), .int (z.was), .int (z.se), .int (z.he + 8), .int (z.lo), .int (z.ma), .int (z.va), .int (z.sp), .int (z.dr), .int (z.pf), .int (z.ss), .int (z.on), .int (z.ro)])) H46 := u47.2.2
      refine lv_aload_n C.1 C.2.1 d_No_countHeavily_41 rfl (lv_at hl 0 rfl) ?_
      have k49 := hq_au kz.2.1.1 u47 (by omega)
      have k50 := hq_au kz.2.1.2 u47 (by omega)
      have k51 := hq_au kz.2.2.1.1 u47 (by omega)
      have k52 := hq_au kz.2.2.1.2 u47 (by omega)
      have k53 := hq_au kz.2.2.2.1.1 u47 (by omega)
      have k54 := hq_au kz.2.2.2.1.2 u47 (by omega)
      have k55 := hq_au kz.2.2.2.2.1.1 u47 (by omega)
      have k56 := hq_au kz.2.2.2.2.1.2 u47 (by omega)
      have k57 := hq_au kz.2.2.2.2.2 u47 (by omega)
      refine hq_callV (lo := lo) (As := []) (rest := []) C tb_good hml Y_No_214 (c_No_goOffIfTooMany l D cI cZ cN cJ lo (b) (by omega) (sNd.mk z.st z.was z.se (z.he + 8) z.lo z.ma z.va z.sp z.dr z.pf z.ss z.on z.ro z.w z.i z.d z.k z.r)) k48 rfl (fun _ _ _ _ h => h) (fun U hU hW => by show NdP D cI cZ (b) (sNd.mk z.st z.was z.se (z.he + 8) z.lo z.ma z.va z.sp z.dr z.pf z.ss z.on z.ro z.w z.i z.d z.k z.r) U.heap; rw [hU]; exact ⟨k48, ⟨k49, k50⟩, ⟨k51, k52⟩, ⟨k53, k54⟩, ⟨k55, k56⟩, k57⟩) hL hl.1 rfl rfl ⟨⟨Nat.le_of_ble_eq_true rfl, Nat.le_of_ble_eq_true rfl⟩, Nat.le_of_ble_eq_true rfl, Nat.le_of_ble_eq_true rfl⟩ (Nat.le_of_ble_eq_true rfl) d_No_countHeavily_42 (fun v H60 locs hp hL => ?_)
      obtain ⟨rfl, k59, S58⟩ := hp
      refine W.eq (g2 := F0 m 45 ls []) rfl ?_
      have hf : f_No_countHeavily z = (f_No_goOffIfTooMany (sNd.mk z.st z.was z.se (z.he + 8) z.lo z.ma z.va z.sp z.dr z.pf z.ss z.on z.ro z.w z.i z.d z.k z.r)) := by unfold f_No_countHeavily; rw [if_neg c41, if_pos c42]
      exact hq_vret C hret hlk (Nat.le_of_ble_eq_true rfl) (Nat.le_of_ble_eq_true rfl) hL ⟨rfl, by rw [hf]; exact k59, hq_Scall (hq_Sput (hq_S0) u47 (by omega) (by omega)) S58 (by omega) (by omega)⟩ d_No_countHeavily_45
  · intro c41
    refine lv_aload_n C.1 C.2.1 d_No_countHeavily_8 rfl (lv_at hl 0 rfl) ?_
    refine lv_dup C.1 C.2.1 d_No_countHeavily_9 rfl ?_
    refine hq_get (v := .int (z.se)) C f_No_49 kz.1 rfl d_No_countHeavily_10 ?_
    refine lv_bipush (v := 8) C.1 C.2.1 d_No_countHeavily_13 (by decide) ?_
    refine lv_iadd C.1 C.2.1 d_No_countHeavily_15 ?_
    refine hq_put (lo := lo) C f_No_49 kz.1 rfl rfl (Nat.le_of_ble_eq_true rfl) hL (by omega) d_No_countHeavily_16 (fun H61 locs u62 hL => ?_)
    have k63 : va_at D vwCl (b, .inr (3, [.ref (b + 1), .ref (b + 3), .ref (b + 5), .ref (b + 7), .ref (b + 9), .int (z.st), .int (z.was), .int (z.se + 8), .int (z.he), .int (z.lo), .int (z.ma), .int (z.va), .int (z.sp), .int (z.dr), .int (z.pf), .int (z.ss), .int (z.on), .int (z.ro)])) H61 := u62.2.2
    refine lv_goto (tgt := 41) C.1 C.2.1 d_No_countHeavily_19 (by decide) ?_
    refine lv_aload_n C.1 C.2.1 d_No_countHeavily_41 rfl (lv_at hl 0 rfl) ?_
    have k64 := hq_au kz.2.1.1 u62 (by omega)
    have k65 := hq_au kz.2.1.2 u62 (by omega)
    have k66 := hq_au kz.2.2.1.1 u62 (by omega)
    have k67 := hq_au kz.2.2.1.2 u62 (by omega)
    have k68 := hq_au kz.2.2.2.1.1 u62 (by omega)
    have k69 := hq_au kz.2.2.2.1.2 u62 (by omega)
    have k70 := hq_au kz.2.2.2.2.1.1 u62 (by omega)
    have k71 := hq_au kz.2.2.2.2.1.2 u62 (by omega)
    have k72 := hq_au kz.2.2.2.2.2 u62 (by omega)
    refine hq_callV (lo := lo) (As := []) (rest := []) C tb_good hml Y_No_214 (c_No_goOffIfTooMany l D cI cZ cN cJ lo (b) (by omega) (sNd.mk z.st z.was (z.se + 8) z.he z.lo z.ma z.va z.sp z.dr z.pf z.ss z.on z.ro z.w z.i z.d z.k z.r)) k63 rfl (fun _ _ _ _ h => h) (fun U hU hW => by show NdP D cI cZ (b) (sNd.mk z.st z.was (z.se + 8) z.he z.lo z.ma z.va z.sp z.dr z.pf z.ss z.on z.ro z.w z.i z.d z.k z.r) U.heap; rw [hU]; exact ⟨k63, ⟨k64, k65⟩, ⟨k66, k67⟩, ⟨k68, k69⟩, ⟨k70, k71⟩, k72⟩) hL hl.1 rfl rfl ⟨⟨Nat.le_of_ble_eq_true rfl, Nat.le_of_ble_eq_true rfl⟩, Nat.le_of_ble_eq_true rfl, Nat.le_of_ble_eq_true rfl⟩ (Nat.le_of_ble_eq_true rfl) d_No_countHeavily_42 (fun v H75 locs hp hL => ?_)
    obtain ⟨rfl, k74, S73⟩ := hp
    refine W.eq (g2 := F0 m 45 ls []) rfl ?_
    have hf : f_No_countHeavily z = (f_No_goOffIfTooMany (sNd.mk z.st z.was (z.se + 8) z.he z.lo z.ma z.va z.sp z.dr z.pf z.ss z.on z.ro z.w z.i z.d z.k z.r)) := by unfold f_No_countHeavily; rw [if_pos c41]
    exact hq_vret C hret hlk (Nat.le_of_ble_eq_true rfl) (Nat.le_of_ble_eq_true rfl) hL ⟨rfl, by rw [hf]; exact k74, hq_Scall (hq_Sput (hq_S0) u62 (by omega) (by omega)) S73 (by omega) (by omega)⟩ d_No_countHeavily_45
def f_No_beginToSend (z : sNd) : sNd := (sNd.mk 1 1 z.se z.he z.lo z.ma z.va (nI (f_Fr_placeOfLeastId z.w)) z.dr z.pf z.ss z.on z.ro z.w z.i z.d (f_Co_write z.k ((f_Fr_at z.w (nI (f_Fr_placeOfLeastId z.w))))) (f_Re_begin z.r))
set_option maxHeartbeats 4000000 in
set_option maxRecDepth 100000 in
theorem c_No_beginToSend (l : Launch) (D : va_G) (cI cZ cN cJ : ClassId) (lo : Nat) (b : Nat) (hlo : lo ≤ b) (z : sNd) (ok : okNd z) : hq_M l y_No_beginToSend b_No_beginToSend 1 none TB { frames := 3, cells := 0, slots := 0, locals := 84 } lo D vwCl (TY cI cZ cN cJ) [.ref (b)] (fun U => NdP D cI cZ b z U.heap) (fun H v H' => v = none ∧ NdP D cI cZ b (f_No_beginToSend z) H' ∧ hq_S b 10 H H') := by
  refine hq_ofW (by decide) (Nat.le_of_ble_eq_true rfl) ?_
  intro p e s m below meth c ls C hml hret hlk hnm hl hP
  have hL : hq_L lo [] := hq_L0
  have hl : lv_has ls 1 [(0, .ref (b))] := hl
  have kz := hP
  refine lv_aload_n C.1 C.2.1 d_No_beginToSend_0 rfl (lv_at hl 0 rfl) ?_
  refine lv_aload_n C.1 C.2.1 d_No_beginToSend_1 rfl (lv_at hl 0 rfl) ?_
  refine hq_get (v := .ref (b + 1)) C f_No_12 kz.1 rfl d_No_beginToSend_2 ?_
  refine hq_callV (lo := lo) (As := []) (rest := [.ref (b)]) C tb_good hml Y_No_143 (c_Fr_placeOfLeastId l D cI cZ cN cJ lo (b + 1) z.w ok.1) kz.2.1.1 rfl (fun _ _ _ _ h => h) (fun U hU hW => by show FrP D cI (b + 1) z.w U.heap; rw [hU]; exact ⟨kz.2.1.1, kz.2.1.2⟩) hL hl.1 rfl rfl ⟨⟨Nat.le_of_ble_eq_true rfl, Nat.le_of_ble_eq_true rfl⟩, Nat.le_of_ble_eq_true rfl, Nat.le_of_ble_eq_true rfl⟩ (Nat.le_of_ble_eq_true rfl) d_No_beginToSend_5 (fun v H41 locs hp hL => ?_)
  obtain ⟨rfl, rfl⟩ := hp
  refine W.eq (g2 := F0 m 8 ls [.int (nI (f_Fr_placeOfLeastId z.w)), .ref (b)]) rfl ?_
  refine hq_put (lo := lo) C f_No_64 kz.1 rfl rfl (Nat.le_of_ble_eq_true rfl) hL (by omega) d_No_beginToSend_8 (fun H42 locs u43 hL => ?_)
  have k44 : va_at D vwCl (b, .inr (3, [.ref (b + 1), .ref (b + 3), .ref (b + 5), .ref (b + 7), .ref (b + 9), .int (z.st), .int (z.was), .int (z.se), .int (z.he), .int (z.lo), .int (z.ma), .int (z.va), .int (nI (f_Fr_placeOfLeastId z.w)), .int (z.dr), .int (z.pf), .int (z.ss), .int (z.on), .int (z.ro)])) H42 := u43.2.2
  refine lv_aload_n C.1 C.2.1 d_No_beginToSend_11 rfl (lv_at hl 0 rfl) ?_
  refine hq_get (v := .ref (b + 7)) C f_No_31 k44 rfl d_No_beginToSend_12 ?_
  refine lv_aload_n C.1 C.2.1 d_No_beginToSend_15 rfl (lv_at hl 0 rfl) ?_
  refine hq_get (v := .ref (b + 1)) C f_No_12 k44 rfl d_No_beginToSend_16 ?_
  refine lv_aload_n C.1 C.2.1 d_No_beginToSend_19 rfl (lv_at hl 0 rfl) ?_
  refine hq_get (v := .int (nI (f_Fr_placeOfLeastId z.w))) C f_No_64 k44 rfl d_No_beginToSend_20 ?_
  have k45 := hq_au kz.2.1.1 u43 (by omega)
  have k46 := hq_au kz.2.1.2 u43 (by omega)
  refine hq_callV (lo := lo) (As := [.int (nI (f_Fr_placeOfLeastId z.w))]) (rest := [.ref (b + 7)]) C tb_good hml Y_No_146 (c_Fr_at l D cI cZ cN cJ lo (b + 1) z.w ok.1 (nI (f_Fr_placeOfLeastId z.w))) k45 rfl (fun _ _ _ _ h => h) (fun U hU hW => by show FrP D cI (b + 1) z.w U.heap; rw [hU]; exact ⟨k45, k46⟩) hL hl.1 rfl rfl ⟨⟨Nat.le_of_ble_eq_true rfl, Nat.le_of_ble_eq_true rfl⟩, Nat.le_of_ble_eq_true rfl, Nat.le_of_ble_eq_true rfl⟩ (Nat.le_of_ble_eq_true rfl) d_No_beginToSend_23 (fun v H47 locs hp hL => ?_)
  obtain ⟨rfl, rfl⟩ := hp
  refine W.eq (g2 := F0 m 26 ls [.int ((f_Fr_at z.w (nI (f_Fr_placeOfLeastId z.w)))), .ref (b + 7)]) rfl ?_
  have k48 := hq_au kz.2.2.2.2.1.1 u43 (by omega)
  have k49 := hq_au kz.2.2.2.2.1.2 u43 (by omega)
  refine hq_callV (lo := lo) (As := [.int ((f_Fr_at z.w (nI (f_Fr_placeOfLeastId z.w))))]) (rest := []) C tb_good hml Y_No_149 (c_Co_write l D cI cZ cN cJ lo (b + 7) (by omega) z.k ((f_Fr_at z.w (nI (f_Fr_placeOfLeastId z.w))))) k48 rfl (fun _ _ _ _ h => h) (fun U hU hW => by show CoP D cI (b + 7) z.k U.heap; rw [hU]; exact ⟨k48, k49⟩) hL hl.1 rfl rfl ⟨⟨Nat.le_of_ble_eq_true rfl, Nat.le_of_ble_eq_true rfl⟩, Nat.le_of_ble_eq_true rfl, Nat.le_of_ble_eq_true rfl⟩ (Nat.le_of_ble_eq_true rfl) d_No_beginToSend_26 (fun v H52 locs hp hL => ?_)
  obtain ⟨rfl, k51, S50⟩ := hp
  refine W.eq (g2 := F0 m 29 ls []) rfl ?_
  refine lv_aload_n C.1 C.2.1 d_No_beginToSend_29 rfl (lv_at hl 0 rfl) ?_
  have k53 := hq_as k44 S50 (by omega)
  refine hq_get (v := .ref (b + 9)) C f_No_38 k53 rfl d_No_beginToSend_30 ?_
  have k54 := hq_as (hq_au kz.2.2.2.2.2 u43 (by omega)) S50 (by omega)
  refine hq_callV (lo := lo) (As := []) (rest := []) C tb_good hml Y_No_153 (c_Re_begin l D cI cZ cN cJ lo (b + 9) (by omega) z.r) k54 rfl (fun _ _ _ _ h => h) (fun U hU hW => by show va_at D vwCl (b + 9, cRe z.r) U.heap; rw [hU]; exact k54) hL hl.1 rfl rfl ⟨⟨Nat.le_of_ble_eq_true rfl, Nat.le_of_ble_eq_true rfl⟩, Nat.le_of_ble_eq_true rfl, Nat.le_of_ble_eq_true rfl⟩ (Nat.le_of_ble_eq_true rfl) d_No_beginToSend_33 (fun v H57 locs hp hL => ?_)
  obtain ⟨rfl, k56, S55⟩ := hp
  refine W.eq (g2 := F0 m 36 ls []) rfl ?_
  refine lv_aload_n C.1 C.2.1 d_No_beginToSend_36 rfl (lv_at hl 0 rfl) ?_
  refine lv_iconst (v := 1) C.1 C.2.1 d_No_beginToSend_37 (by decide) ?_
  have k58 := hq_as k53 S55 (by omega)
  refine hq_put (lo := lo) C f_No_42 k58 rfl rfl (Nat.le_of_ble_eq_true rfl) hL (by omega) d_No_beginToSend_38 (fun H59 locs u60 hL => ?_)
  have k61 : va_at D vwCl (b, .inr (3, [.ref (b + 1), .ref (b + 3), .ref (b + 5), .ref (b + 7), .ref (b + 9), .int (1), .int (z.was), .int (z.se), .int (z.he), .int (z.lo), .int (z.ma), .int (z.va), .int (nI (f_Fr_placeOfLeastId z.w)), .int (z.dr), .int (z.pf), .int (z.ss), .int (z.on), .int (z.ro)])) H59 := u60.2.2
  refine lv_aload_n C.1 C.2.1 d_No_beginToSend_41 rfl (lv_at hl 0 rfl) ?_
  refine lv_iconst (v := 1) C.1 C.2.1 d_No_beginToSend_42 (by decide) ?_
  refine hq_put (lo := lo) C f_No_46 k61 rfl rfl (Nat.le_of_ble_eq_true rfl) hL (by omega) d_No_beginToSend_43 (fun H62 locs u63 hL => ?_)
  have k64 : va_at D vwCl (b, .inr (3, [.ref (b + 1), .ref (b + 3), .ref (b + 5), .ref (b + 7), .ref (b + 9), .int (1), .int (1), .int (z.se), .int (z.he), .int (z.lo), .int (z.ma), .int (z.va), .int (nI (f_Fr_placeOfLeastId z.w)), .int (z.dr), .int (z.pf), .int (z.ss), .int (z.on), .int (z.ro)])) H62 := u63.2.2
  have hf : f_No_beginToSend z = (sNd.mk 1 1 z.se z.he z.lo z.ma z.va (nI (f_Fr_placeOfLeastId z.w)) z.dr z.pf z.ss z.on z.ro z.w z.i z.d (f_Co_write z.k ((f_Fr_at z.w (nI (f_Fr_placeOfLeastId z.w))))) (f_Re_begin z.r)) := rfl
  have k65 := hq_au (hq_au (hq_as (hq_as k45 S50 (by omega)) S55 (by omega)) u60 (by omega)) u63 (by omega)
  have k66 := hq_au (hq_au (hq_as (hq_as k46 S50 (by omega)) S55 (by omega)) u60 (by omega)) u63 (by omega)
  have k67 := hq_au (hq_au (hq_as (hq_as (hq_au kz.2.2.1.1 u43 (by omega)) S50 (by omega)) S55 (by omega)) u60 (by omega)) u63 (by omega)
  have k68 := hq_au (hq_au (hq_as (hq_as (hq_au kz.2.2.1.2 u43 (by omega)) S50 (by omega)) S55 (by omega)) u60 (by omega)) u63 (by omega)
  have k69 := hq_au (hq_au (hq_as (hq_as (hq_au kz.2.2.2.1.1 u43 (by omega)) S50 (by omega)) S55 (by omega)) u60 (by omega)) u63 (by omega)
  have k70 := hq_au (hq_au (hq_as (hq_as (hq_au kz.2.2.2.1.2 u43 (by omega)) S50 (by omega)) S55 (by omega)) u60 (by omega)) u63 (by omega)
  have k71 := hq_au (hq_au (hq_as k51.1 S55 (by omega)) u60 (by omega)) u63 (by omega)
  have k72 := hq_au (hq_au (hq_as k51.2 S55 (by omega)) u60 (by omega)) u63 (by omega)
  have k73 := hq_au (hq_au k56 u60 (by omega)) u63 (by omega)
  exact hq_vret C hret hlk (Nat.le_of_ble_eq_true rfl) (Nat.le_of_ble_eq_true rfl) hL ⟨rfl, by rw [hf]; exact ⟨k64, ⟨k65, k66⟩, ⟨k67, k68⟩, ⟨k69, k70⟩, ⟨k71, k72⟩, k73⟩, hq_Sput (hq_Sput (hq_Scall (hq_Scall (hq_Sput (hq_S0) u43 (by omega) (by omega)) S50 (by omega) (by omega)) S55 (by omega) (by omega)) u60 (by omega) (by omega)) u63 (by omega) (by omega)⟩ d_No_beginToSend_46
theorem ok_beginToSend {z : sNd} (ok : okNd z) : okNd (f_No_beginToSend z) := ⟨ok.1, ok.2.1, ok.2.2.1, write_len _ _⟩
def f_No_beginToHear (z : sNd) : sNd × Int32 := ((sNd.mk 2 2 z.se z.he z.lo z.ma z.va z.sp z.dr z.pf z.ss z.on z.ro z.w z.i z.d z.k (f_Re_read (f_Re_begin z.r) 0)), 0)
set_option maxHeartbeats 4000000 in
set_option maxRecDepth 100000 in
theorem c_No_beginToHear (l : Launch) (D : va_G) (cI cZ cN cJ : ClassId) (lo : Nat) (b : Nat) (hlo : lo ≤ b) (z : sNd) : hq_M l y_No_beginToHear b_No_beginToHear 1 (some .int) TB { frames := 3, cells := 0, slots := 0, locals := 65 } lo D vwCl (TY cI cZ cN cJ) [.ref (b)] (fun U => NdP D cI cZ b z U.heap) (fun H v H' => v = some (.int (f_No_beginToHear z).2) ∧ NdP D cI cZ b (f_No_beginToHear z).1 H' ∧ hq_S b 10 H H') := by
  refine hq_ofW (by decide) (Nat.le_of_ble_eq_true rfl) ?_
  intro p e s m below meth c ls C hml hret hlk hnm hl hP
  have hL : hq_L lo [] := hq_L0
  have hl : lv_has ls 1 [(0, .ref (b))] := hl
  have kz := hP
  refine lv_aload_n C.1 C.2.1 d_No_beginToHear_0 rfl (lv_at hl 0 rfl) ?_
  refine hq_get (v := .ref (b + 9)) C f_No_38 kz.1 rfl d_No_beginToHear_1 ?_
  refine hq_callV (lo := lo) (As := []) (rest := []) C tb_good hml Y_No_153 (c_Re_begin l D cI cZ cN cJ lo (b + 9) (by omega) z.r) kz.2.2.2.2.2 rfl (fun _ _ _ _ h => h) (fun U hU hW => by show va_at D vwCl (b + 9, cRe z.r) U.heap; rw [hU]; exact kz.2.2.2.2.2) hL hl.1 rfl rfl ⟨⟨Nat.le_of_ble_eq_true rfl, Nat.le_of_ble_eq_true rfl⟩, Nat.le_of_ble_eq_true rfl, Nat.le_of_ble_eq_true rfl⟩ (Nat.le_of_ble_eq_true rfl) d_No_beginToHear_4 (fun v H43 locs hp hL => ?_)
  obtain ⟨rfl, k42, S41⟩ := hp
  refine W.eq (g2 := F0 m 7 ls []) rfl ?_
  refine lv_aload_n C.1 C.2.1 d_No_beginToHear_7 rfl (lv_at hl 0 rfl) ?_
  have k44 := hq_as kz.1 S41 (by omega)
  refine hq_get (v := .ref (b + 9)) C f_No_38 k44 rfl d_No_beginToHear_8 ?_
  refine lv_iconst (v := 0) C.1 C.2.1 d_No_beginToHear_11 (by decide) ?_
  refine hq_callV (lo := lo) (As := [.int (0)]) (rest := []) C tb_good hml Y_No_156 (c_Re_read l D cI cZ cN cJ lo (b + 9) (by omega) (f_Re_begin z.r) 0) k42 rfl (fun _ _ _ _ h => h) (fun U hU hW => by show va_at D vwCl (b + 9, cRe (f_Re_begin z.r)) U.heap; rw [hU]; exact k42) hL hl.1 rfl rfl ⟨⟨Nat.le_of_ble_eq_true rfl, Nat.le_of_ble_eq_true rfl⟩, Nat.le_of_ble_eq_true rfl, Nat.le_of_ble_eq_true rfl⟩ (Nat.le_of_ble_eq_true rfl) d_No_beginToHear_12 (fun v H47 locs hp hL => ?_)
  obtain ⟨rfl, k46, S45⟩ := hp
  refine W.eq (g2 := F0 m 15 ls []) rfl ?_
  refine lv_aload_n C.1 C.2.1 d_No_beginToHear_15 rfl (lv_at hl 0 rfl) ?_
  refine lv_iconst (v := 2) C.1 C.2.1 d_No_beginToHear_16 (by decide) ?_
  have k48 := hq_as k44 S45 (by omega)
  refine hq_put (lo := lo) C f_No_42 k48 rfl rfl (Nat.le_of_ble_eq_true rfl) hL (by omega) d_No_beginToHear_17 (fun H49 locs u50 hL => ?_)
  have k51 : va_at D vwCl (b, .inr (3, [.ref (b + 1), .ref (b + 3), .ref (b + 5), .ref (b + 7), .ref (b + 9), .int (2), .int (z.was), .int (z.se), .int (z.he), .int (z.lo), .int (z.ma), .int (z.va), .int (z.sp), .int (z.dr), .int (z.pf), .int (z.ss), .int (z.on), .int (z.ro)])) H49 := u50.2.2
  refine lv_aload_n C.1 C.2.1 d_No_beginToHear_20 rfl (lv_at hl 0 rfl) ?_
  refine lv_iconst (v := 2) C.1 C.2.1 d_No_beginToHear_21 (by decide) ?_
  refine hq_put (lo := lo) C f_No_46 k51 rfl rfl (Nat.le_of_ble_eq_true rfl) hL (by omega) d_No_beginToHear_22 (fun H52 locs u53 hL => ?_)
  have k54 : va_at D vwCl (b, .inr (3, [.ref (b + 1), .ref (b + 3), .ref (b + 5), .ref (b + 7), .ref (b + 9), .int (2), .int (2), .int (z.se), .int (z.he), .int (z.lo), .int (z.ma), .int (z.va), .int (z.sp), .int (z.dr), .int (z.pf), .int (z.ss), .int (z.on), .int (z.ro)])) H52 := u53.2.2
  refine lv_iconst (v := 0) C.1 C.2.1 d_No_beginToHear_25 (by decide) ?_
  have hf : f_No_beginToHear z = ((sNd.mk 2 2 z.se z.he z.lo z.ma z.va z.sp z.dr z.pf z.ss z.on z.ro z.w z.i z.d z.k (f_Re_read (f_Re_begin z.r) 0)), 0) := rfl
  have k55 := hq_au (hq_au (hq_as (hq_as kz.2.1.1 S41 (by omega)) S45 (by omega)) u50 (by omega)) u53 (by omega)
  have k56 := hq_au (hq_au (hq_as (hq_as kz.2.1.2 S41 (by omega)) S45 (by omega)) u50 (by omega)) u53 (by omega)
  have k57 := hq_au (hq_au (hq_as (hq_as kz.2.2.1.1 S41 (by omega)) S45 (by omega)) u50 (by omega)) u53 (by omega)
  have k58 := hq_au (hq_au (hq_as (hq_as kz.2.2.1.2 S41 (by omega)) S45 (by omega)) u50 (by omega)) u53 (by omega)
  have k59 := hq_au (hq_au (hq_as (hq_as kz.2.2.2.1.1 S41 (by omega)) S45 (by omega)) u50 (by omega)) u53 (by omega)
  have k60 := hq_au (hq_au (hq_as (hq_as kz.2.2.2.1.2 S41 (by omega)) S45 (by omega)) u50 (by omega)) u53 (by omega)
  have k61 := hq_au (hq_au (hq_as (hq_as kz.2.2.2.2.1.1 S41 (by omega)) S45 (by omega)) u50 (by omega)) u53 (by omega)
  have k62 := hq_au (hq_au (hq_as (hq_as kz.2.2.2.2.1.2 S41 (by omega)) S45 (by omega)) u50 (by omega)) u53 (by omega)
  have k63 := hq_au (hq_au k46 u50 (by omega)) u53 (by omega)
  exact hq_iret C hret hlk (Nat.le_of_ble_eq_true rfl) (Nat.le_of_ble_eq_true rfl) hL ⟨by rw [hf], by rw [hf]; exact ⟨k54, ⟨k55, k56⟩, ⟨k57, k58⟩, ⟨k59, k60⟩, ⟨k61, k62⟩, k63⟩, hq_Sput (hq_Sput (hq_Scall (hq_Scall (hq_S0) S41 (by omega) (by omega)) S45 (by omega) (by omega)) u50 (by omega) (by omega)) u53 (by omega) (by omega)⟩ d_No_beginToHear_26
def f_No_nextBit (z : sNd) : Int32 := if ((f_Re_padIsDue z.r)) = 0 then ((f_Co_bitAt z.k z.r.p)) else (1 - z.r.l)
set_option maxHeartbeats 4000000 in
set_option maxRecDepth 100000 in
theorem c_No_nextBit (l : Launch) (D : va_G) (cI cZ cN cJ : ClassId) (lo : Nat) (b : Nat) (z : sNd) (ok : okNd z) : hq_M l y_No_nextBit b_No_nextBit 1 (some .int) TB { frames := 1, cells := 0, slots := 0, locals := 21 } lo D vwCl (TY cI cZ cN cJ) [.ref (b)] (fun U => NdP D cI cZ b z U.heap) (fun H v H' => v = some (.int (f_No_nextBit z)) ∧ H' = H) := by
  refine hq_ofW (by decide) (Nat.le_of_ble_eq_true rfl) ?_
  intro p e s m below meth c ls C hml hret hlk hnm hl hP
  have hL : hq_L lo [] := hq_L0
  have hl : lv_has ls 1 [(0, .ref (b))] := hl
  have kz := hP
  refine lv_aload_n C.1 C.2.1 d_No_nextBit_0 rfl (lv_at hl 0 rfl) ?_
  refine hq_get (v := .ref (b + 9)) C f_No_38 kz.1 rfl d_No_nextBit_1 ?_
  refine hq_callV (lo := lo) (As := []) (rest := []) C tb_good hml Y_No_103 (c_Re_padIsDue l D cI cZ cN cJ lo (b + 9) z.r) kz.2.2.2.2.2 rfl (fun _ _ _ _ h => h) (fun U hU hW => by show va_at D vwCl (b + 9, cRe z.r) U.heap; rw [hU]; exact kz.2.2.2.2.2) hL hl.1 rfl rfl ⟨⟨Nat.le_of_ble_eq_true rfl, Nat.le_of_ble_eq_true rfl⟩, Nat.le_of_ble_eq_true rfl, Nat.le_of_ble_eq_true rfl⟩ (Nat.le_of_ble_eq_true rfl) d_No_nextBit_4 (fun v H41 locs hp hL => ?_)
  obtain ⟨rfl, rfl⟩ := hp
  refine W.eq (g2 := F0 m 7 ls [.int ((f_Re_padIsDue z.r))]) rfl ?_
  refine lv_if_eq (tgt := 22) C.1 C.2.1 d_No_nextBit_7 (by decide) ?_ ?_
  · intro c42
    refine lv_aload_n C.1 C.2.1 d_No_nextBit_22 rfl (lv_at hl 0 rfl) ?_
    refine hq_get (v := .ref (b + 7)) C f_No_31 kz.1 rfl d_No_nextBit_23 ?_
    refine lv_aload_n C.1 C.2.1 d_No_nextBit_26 rfl (lv_at hl 0 rfl) ?_
    refine hq_get (v := .ref (b + 9)) C f_No_38 kz.1 rfl d_No_nextBit_27 ?_
    refine hq_get (v := .int (z.r.p)) C f_No_109 kz.2.2.2.2.2 rfl d_No_nextBit_30 ?_
    refine hq_callV (lo := lo) (As := [.int (z.r.p)]) (rest := []) C tb_good hml Y_No_112 (c_Co_bitAt l D cI cZ cN cJ lo (b + 7) z.k ok.2.2.2 z.r.p) kz.2.2.2.2.1.1 rfl (fun _ _ _ _ h => h) (fun U hU hW => by show CoP D cI (b + 7) z.k U.heap; rw [hU]; exact ⟨kz.2.2.2.2.1.1, kz.2.2.2.2.1.2⟩) hL hl.1 rfl rfl ⟨⟨Nat.le_of_ble_eq_true rfl, Nat.le_of_ble_eq_true rfl⟩, Nat.le_of_ble_eq_true rfl, Nat.le_of_ble_eq_true rfl⟩ (Nat.le_of_ble_eq_true rfl) d_No_nextBit_33 (fun v H43 locs hp hL => ?_)
    obtain ⟨rfl, rfl⟩ := hp
    refine W.eq (g2 := F0 m 36 ls [.int ((f_Co_bitAt z.k z.r.p))]) rfl ?_
    have hf : f_No_nextBit z = (f_Co_bitAt z.k z.r.p) := by unfold f_No_nextBit; rw [if_pos c42]
    exact hq_iret C hret hlk (Nat.le_of_ble_eq_true rfl) (Nat.le_of_ble_eq_true rfl) hL ⟨by rw [hf], rfl⟩ d_No_nextBit_36
  · intro c42
    refine lv_iconst (v := 1) C.1 C.2.1 d_No_nextBit_10 (by decide) ?_
    refine lv_aload_n C.1 C.2.1 d_No_nextBit_11 rfl (lv_at hl 0 rfl) ?_
    refine hq_get (v := .ref (b + 9)) C f_No_38 kz.1 rfl d_No_nextBit_12 ?_
    refine hq_get (v := .int (z.r.l)) C f_No_106 kz.2.2.2.2.2 rfl d_No_nextBit_15 ?_
    refine lv_isub C.1 C.2.1 d_No_nextBit_18 ?_
    refine lv_goto (tgt := 36) C.1 C.2.1 d_No_nextBit_19 (by decide) ?_
    have hf : f_No_nextBit z = 1 - z.r.l := by unfold f_No_nextBit; rw [if_neg c42]
    exact hq_iret C hret hlk (Nat.le_of_ble_eq_true rfl) (Nat.le_of_ble_eq_true rfl) hL ⟨by rw [hf], rfl⟩ d_No_nextBit_36
def f_No_levelToDrive (z : sNd) : Int32 := if z.st = 1 then ((f_No_nextBit z)) else (if z.st = 2 then (if ((f_Re_isAtAnswer z.r)) = 0 then ((1 : Int32)) else (if ((f_Re_isRight z.r)) = 0 then ((1 : Int32)) else ((0 : Int32)))) else (if z.st = 3 then (if z.pf = 0 then ((0 : Int32)) else ((1 : Int32))) else ((1 : Int32))))
set_option maxHeartbeats 4000000 in
set_option maxRecDepth 100000 in
theorem c_No_levelToDrive (l : Launch) (D : va_G) (cI cZ cN cJ : ClassId) (lo : Nat) (b : Nat) (z : sNd) (ok : okNd z) : hq_M l y_No_levelToDrive b_No_levelToDrive 1 (some .int) TB { frames := 3, cells := 0, slots := 0, locals := 60 } lo D vwCl (TY cI cZ cN cJ) [.ref (b)] (fun U => NdP D cI cZ b z U.heap) (fun H v H' => v = some (.int (f_No_levelToDrive z)) ∧ H' = H) := by
  refine hq_ofW (by decide) (Nat.le_of_ble_eq_true rfl) ?_
  intro p e s m below meth c ls C hml hret hlk hnm hl hP
  have hL : hq_L lo [] := hq_L0
  have hl : lv_has ls 1 [(0, .ref (b))] := hl
  have kz := hP
  refine lv_aload_n C.1 C.2.1 d_No_levelToDrive_0 rfl (lv_at hl 0 rfl) ?_
  refine hq_get (v := .int (z.st)) C f_No_42 kz.1 rfl d_No_levelToDrive_1 ?_
  by_cases g41 : z.st = 1
  · refine lv_tableIn (tgt := 32) C.1 C.2.1 d_No_levelToDrive_4 (by rw [g41]; decide) (by rw [g41]; decide) (off := 28) (by rw [g41]; decide) (by decide) ?_
    refine lv_aload_n C.1 C.2.1 d_No_levelToDrive_32 rfl (lv_at hl 0 rfl) ?_
    refine hq_callV (lo := lo) (As := []) (rest := []) C tb_good hml Y_No_93 (c_No_nextBit l D cI cZ cN cJ lo (b) z ok) kz.1 rfl (fun _ _ _ _ h => h) (fun U hU hW => by show NdP D cI cZ (b) z U.heap; rw [hU]; exact kz) hL hl.1 rfl rfl ⟨⟨Nat.le_of_ble_eq_true rfl, Nat.le_of_ble_eq_true rfl⟩, Nat.le_of_ble_eq_true rfl, Nat.le_of_ble_eq_true rfl⟩ (Nat.le_of_ble_eq_true rfl) d_No_levelToDrive_33 (fun v H42 locs hp hL => ?_)
    obtain ⟨rfl, rfl⟩ := hp
    refine W.eq (g2 := F0 m 36 ls [.int ((f_No_nextBit z))]) rfl ?_
    have hf : f_No_levelToDrive z = (f_No_nextBit z) := by unfold f_No_levelToDrive; rw [if_pos g41]
    exact hq_iret C hret hlk (Nat.le_of_ble_eq_true rfl) (Nat.le_of_ble_eq_true rfl) hL ⟨by rw [hf], rfl⟩ d_No_levelToDrive_36
  · skip
    by_cases g43 : z.st = 2
    · refine lv_tableIn (tgt := 37) C.1 C.2.1 d_No_levelToDrive_4 (by rw [g43]; decide) (by rw [g43]; decide) (off := 33) (by rw [g43]; decide) (by decide) ?_
      refine lv_aload_n C.1 C.2.1 d_No_levelToDrive_37 rfl (lv_at hl 0 rfl) ?_
      refine hq_get (v := .ref (b + 9)) C f_No_38 kz.1 rfl d_No_levelToDrive_38 ?_
      refine hq_callV (lo := lo) (As := []) (rest := []) C tb_good hml Y_No_96 (c_Re_isAtAnswer l D cI cZ cN cJ lo (b + 9) z.r) kz.2.2.2.2.2 rfl (fun _ _ _ _ h => h) (fun U hU hW => by show va_at D vwCl (b + 9, cRe z.r) U.heap; rw [hU]; exact kz.2.2.2.2.2) hL hl.1 rfl rfl ⟨⟨Nat.le_of_ble_eq_true rfl, Nat.le_of_ble_eq_true rfl⟩, Nat.le_of_ble_eq_true rfl, Nat.le_of_ble_eq_true rfl⟩ (Nat.le_of_ble_eq_true rfl) d_No_levelToDrive_41 (fun v H44 locs hp hL => ?_)
      obtain ⟨rfl, rfl⟩ := hp
      refine W.eq (g2 := F0 m 44 ls [.int ((f_Re_isAtAnswer z.r))]) rfl ?_
      refine lv_if_eq (tgt := 61) C.1 C.2.1 d_No_levelToDrive_44 (by decide) ?_ ?_
      · intro c45
        refine lv_iconst (v := 1) C.1 C.2.1 d_No_levelToDrive_61 (by decide) ?_
        have hf : f_No_levelToDrive z = (1 : Int32) := by unfold f_No_levelToDrive; rw [if_neg g41, if_pos g43, if_pos c45]
        exact hq_iret C hret hlk (Nat.le_of_ble_eq_true rfl) (Nat.le_of_ble_eq_true rfl) hL ⟨by rw [hf], rfl⟩ d_No_levelToDrive_62
      · intro c45
        refine lv_aload_n C.1 C.2.1 d_No_levelToDrive_47 rfl (lv_at hl 0 rfl) ?_
        refine hq_get (v := .ref (b + 9)) C f_No_38 kz.1 rfl d_No_levelToDrive_48 ?_
        refine hq_callV (lo := lo) (As := []) (rest := []) C tb_good hml Y_No_100 (c_Re_isRight l D cI cZ cN cJ lo (b + 9) z.r) kz.2.2.2.2.2 rfl (fun _ _ _ _ h => h) (fun U hU hW => by show va_at D vwCl (b + 9, cRe z.r) U.heap; rw [hU]; exact kz.2.2.2.2.2) hL hl.1 rfl rfl ⟨⟨Nat.le_of_ble_eq_true rfl, Nat.le_of_ble_eq_true rfl⟩, Nat.le_of_ble_eq_true rfl, Nat.le_of_ble_eq_true rfl⟩ (Nat.le_of_ble_eq_true rfl) d_No_levelToDrive_51 (fun v H46 locs hp hL => ?_)
        obtain ⟨rfl, rfl⟩ := hp
        refine W.eq (g2 := F0 m 54 ls [.int ((f_Re_isRight z.r))]) rfl ?_
        refine lv_if_eq (tgt := 61) C.1 C.2.1 d_No_levelToDrive_54 (by decide) ?_ ?_
        · intro c47
          refine lv_iconst (v := 1) C.1 C.2.1 d_No_levelToDrive_61 (by decide) ?_
          have hf : f_No_levelToDrive z = (1 : Int32) := by unfold f_No_levelToDrive; rw [if_neg g41, if_pos g43, if_neg c45, if_pos c47]
          exact hq_iret C hret hlk (Nat.le_of_ble_eq_true rfl) (Nat.le_of_ble_eq_true rfl) hL ⟨by rw [hf], rfl⟩ d_No_levelToDrive_62
        · intro c47
          refine lv_iconst (v := 0) C.1 C.2.1 d_No_levelToDrive_57 (by decide) ?_
          refine lv_goto (tgt := 62) C.1 C.2.1 d_No_levelToDrive_58 (by decide) ?_
          have hf : f_No_levelToDrive z = (0 : Int32) := by unfold f_No_levelToDrive; rw [if_neg g41, if_pos g43, if_neg c45, if_neg c47]
          exact hq_iret C hret hlk (Nat.le_of_ble_eq_true rfl) (Nat.le_of_ble_eq_true rfl) hL ⟨by rw [hf], rfl⟩ d_No_levelToDrive_62
    · skip
      by_cases g48 : z.st = 3
      · refine lv_tableIn (tgt := 63) C.1 C.2.1 d_No_levelToDrive_4 (by rw [g48]; decide) (by rw [g48]; decide) (off := 59) (by rw [g48]; decide) (by decide) ?_
        refine lv_aload_n C.1 C.2.1 d_No_levelToDrive_63 rfl (lv_at hl 0 rfl) ?_
        refine hq_get (v := .int (z.pf)) C f_No_70 kz.1 rfl d_No_levelToDrive_64 ?_
        refine lv_if_eq (tgt := 74) C.1 C.2.1 d_No_levelToDrive_67 (by decide) ?_ ?_
        · intro c49
          refine lv_iconst (v := 0) C.1 C.2.1 d_No_levelToDrive_74 (by decide) ?_
          have hf : f_No_levelToDrive z = (0 : Int32) := by unfold f_No_levelToDrive; rw [if_neg g41, if_neg g43, if_pos g48, if_pos c49]
          exact hq_iret C hret hlk (Nat.le_of_ble_eq_true rfl) (Nat.le_of_ble_eq_true rfl) hL ⟨by rw [hf], rfl⟩ d_No_levelToDrive_75
        · intro c49
          refine lv_iconst (v := 1) C.1 C.2.1 d_No_levelToDrive_70 (by decide) ?_
          refine lv_goto (tgt := 75) C.1 C.2.1 d_No_levelToDrive_71 (by decide) ?_
          have hf : f_No_levelToDrive z = (1 : Int32) := by unfold f_No_levelToDrive; rw [if_neg g41, if_neg g43, if_pos g48, if_neg c49]
          exact hq_iret C hret hlk (Nat.le_of_ble_eq_true rfl) (Nat.le_of_ble_eq_true rfl) hL ⟨by rw [hf], rfl⟩ d_No_levelToDrive_75
      · skip
        have hout : (z.st).toInt < 1 ∨ 3 < (z.st).toInt := by
          have y0 := lv_neT g41 (a := 1) rfl
          have y1 := lv_neT g43 (a := 2) rfl
          have y2 := lv_neT g48 (a := 3) rfl
          omega
        refine lv_tableOut (tgt := 76) C.1 C.2.1 d_No_levelToDrive_4 hout (by decide) ?_
        refine lv_iconst (v := 1) C.1 C.2.1 d_No_levelToDrive_76 (by decide) ?_
        have hf : f_No_levelToDrive z = (1 : Int32) := by unfold f_No_levelToDrive; rw [if_neg g41, if_neg g43, if_neg g48]
        exact hq_iret C hret hlk (Nat.le_of_ble_eq_true rfl) (Nat.le_of_ble_eq_true rfl) hL ⟨by rw [hf], rfl⟩ d_No_levelToDrive_77
def f_No_drive_21 (z : sNd) : sNd × Int32 := ((sNd.mk z.st z.was z.se z.he z.lo z.ma z.va z.sp (f_No_levelToDrive z) z.pf z.ss z.on z.ro z.w z.i z.d z.k z.r), (f_No_levelToDrive z))
def f_No_drive (z : sNd) : sNd × Int32 := if z.st = 0 then (if (nI z.w.k) ≤ 0 then (f_No_drive_21 z) else (f_No_drive_21 (f_No_beginToSend z))) else (f_No_drive_21 z)
set_option maxHeartbeats 4000000 in
set_option maxRecDepth 100000 in
theorem s_No_drive_21 {p : Program} {l : Launch} {e : Env} {s : State} {m : MethodId} {args : Array Value} {below : List Frame} {meth : Method} {c : Code} {H : Heap} {locs : List Loc} {ls : Array Slot} (D : va_G) (cI cZ cN cJ : ClassId) (lo b : Nat) (hlo : lo ≤ b) (z : sNd) (ok : okNd z) {R9 : sNd × Int32} (hR : f_No_drive_21 z = R9) (C : hq_C p c s m args R_No b_No_drive TB D vwCl (TY cI cZ cN cJ)) (hml : c.maxLocals = 1) (hret : meth.sig.returnType = (some .int)) (hlk : meth.locks = false) (hL : hq_L lo locs) (kz : NdP D cI cZ b z H) (hS : hq_S b 10 s.heap H) (hl : lv_has ls 1 [(0, .ref (b))]) : W p l e { frames := 4, cells := 0, slots := 0, locals := 104 } s m args below meth c H locs 0 0 (MQ below (hq_Q (fun H v H' => v = some (.int (R9).2) ∧ NdP D cI cZ b (R9).1 H' ∧ hq_S b 10 H H')) args s 0 0 (fun q => lo ≤ q)) (F0 m 21 ls []) := by
  refine lv_aload_n C.1 C.2.1 d_No_drive_21 rfl (lv_at hl 0 rfl) ?_
  refine lv_aload_n C.1 C.2.1 d_No_drive_22 rfl (lv_at hl 0 rfl) ?_
  refine hq_callV (lo := lo) (As := []) (rest := [.ref (b)]) C tb_good hml Y_No_89 (c_No_levelToDrive l D cI cZ cN cJ lo (b) z ok) kz.1 rfl (fun _ _ _ _ h => h) (fun U hU hW => by show NdP D cI cZ (b) z U.heap; rw [hU]; exact kz) hL hl.1 rfl rfl ⟨⟨Nat.le_of_ble_eq_true rfl, Nat.le_of_ble_eq_true rfl⟩, Nat.le_of_ble_eq_true rfl, Nat.le_of_ble_eq_true rfl⟩ (Nat.le_of_ble_eq_true rfl) d_No_drive_23 (fun v H61 locs hp hL => ?_)
  obtain ⟨rfl, rfl⟩ := hp
  refine W.eq (g2 := F0 m 26 ls [.int ((f_No_levelToDrive z)), .ref (b)]) rfl ?_
  refine hq_put (lo := lo) C f_No_67 kz.1 rfl rfl (Nat.le_of_ble_eq_true rfl) hL (by omega) d_No_drive_26 (fun H62 locs u63 hL => ?_)
  have k64 : va_at D vwCl (b, .inr (3, [.ref (b + 1), .ref (b + 3), .ref (b + 5), .ref (b + 7), .ref (b + 9), .int (z.st), .int (z.was), .int (z.se), .int (z.he), .int (z.lo), .int (z.ma), .int (z.va), .int (z.sp), .int ((f_No_levelToDrive z)), .int (z.pf), .int (z.ss), .int (z.on), .int (z.ro)])) H62 := u63.2.2
  refine lv_aload_n C.1 C.2.1 d_No_drive_29 rfl (lv_at hl 0 rfl) ?_
  refine hq_get (v := .int ((f_No_levelToDrive z))) C f_No_67 k64 rfl d_No_drive_30 ?_
  have hf : R9 = ((sNd.mk z.st z.was z.se z.he z.lo z.ma z.va z.sp (f_No_levelToDrive z) z.pf z.ss z.on z.ro z.w z.i z.d z.k z.r), (f_No_levelToDrive z)) := by rw [← hR]; rfl
  have k65 := hq_au kz.2.1.1 u63 (by omega)
  have k66 := hq_au kz.2.1.2 u63 (by omega)
  have k67 := hq_au kz.2.2.1.1 u63 (by omega)
  have k68 := hq_au kz.2.2.1.2 u63 (by omega)
  have k69 := hq_au kz.2.2.2.1.1 u63 (by omega)
  have k70 := hq_au kz.2.2.2.1.2 u63 (by omega)
  have k71 := hq_au kz.2.2.2.2.1.1 u63 (by omega)
  have k72 := hq_au kz.2.2.2.2.1.2 u63 (by omega)
  have k73 := hq_au kz.2.2.2.2.2 u63 (by omega)
  exact hq_iret C hret hlk (Nat.le_of_ble_eq_true rfl) (Nat.le_of_ble_eq_true rfl) hL ⟨by rw [hf], by rw [hf]; exact ⟨k64, ⟨k65, k66⟩, ⟨k67, k68⟩, ⟨k69, k70⟩, ⟨k71, k72⟩, k73⟩, hq_Sput (hS) u63 (by omega) (by omega)⟩ d_No_drive_33
set_option maxHeartbeats 4000000 in
set_option maxRecDepth 100000 in
theorem c_No_drive (l : Launch) (D : va_G) (cI cZ cN cJ : ClassId) (lo : Nat) (b : Nat) (hlo : lo ≤ b) (z : sNd) (ok : okNd z) : hq_M l y_No_drive b_No_drive 1 (some .int) TB { frames := 4, cells := 0, slots := 0, locals := 104 } lo D vwCl (TY cI cZ cN cJ) [.ref (b)] (fun U => NdP D cI cZ b z U.heap) (fun H v H' => v = some (.int (f_No_drive z).2) ∧ NdP D cI cZ b (f_No_drive z).1 H' ∧ hq_S b 10 H H') := by
  refine hq_ofW (by decide) (Nat.le_of_ble_eq_true rfl) ?_
  intro p e s m below meth c ls C hml hret hlk hnm hl hP
  have hL : hq_L lo [] := hq_L0
  have hl : lv_has ls 1 [(0, .ref (b))] := hl
  have kz := hP
  refine lv_aload_n C.1 C.2.1 d_No_drive_0 rfl (lv_at hl 0 rfl) ?_
  refine hq_get (v := .int (z.st)) C f_No_42 kz.1 rfl d_No_drive_1 ?_
  refine lv_if_ne (tgt := 21) C.1 C.2.1 d_No_drive_4 (by decide) ?_ ?_
  · intro c41
    exact s_No_drive_21 D cI cZ cN cJ lo b hlo z ok ((show f_No_drive z = f_No_drive_21 z from by unfold f_No_drive; rw [if_neg c41]).symm) C hml hret hlk hL kz (hq_S0) (lv_push (lv_nil hl) (lv_at hl 0 rfl))
  · intro c41
    refine lv_aload_n C.1 C.2.1 d_No_drive_7 rfl (lv_at hl 0 rfl) ?_
    refine hq_get (v := .ref (b + 1)) C f_No_12 kz.1 rfl d_No_drive_8 ?_
    refine hq_get (v := .int (nI z.w.k)) C f_No_83 kz.2.1.1 rfl d_No_drive_11 ?_
    refine lv_if_le (tgt := 21) C.1 C.2.1 d_No_drive_14 (by decide) ?_ ?_
    · intro c42
      exact s_No_drive_21 D cI cZ cN cJ lo b hlo z ok ((show f_No_drive z = f_No_drive_21 z from by unfold f_No_drive; rw [if_pos c41, if_pos c42]).symm) C hml hret hlk hL kz (hq_S0) (lv_push (lv_nil hl) (lv_at hl 0 rfl))
    · intro c42
      refine lv_aload_n C.1 C.2.1 d_No_drive_17 rfl (lv_at hl 0 rfl) ?_
      refine hq_callV (lo := lo) (As := []) (rest := []) C tb_good hml Y_No_86 (c_No_beginToSend l D cI cZ cN cJ lo (b) (by omega) z ok) kz.1 rfl (fun _ _ _ _ h => h) (fun U hU hW => by show NdP D cI cZ (b) z U.heap; rw [hU]; exact kz) hL hl.1 rfl rfl ⟨⟨Nat.le_of_ble_eq_true rfl, Nat.le_of_ble_eq_true rfl⟩, Nat.le_of_ble_eq_true rfl, Nat.le_of_ble_eq_true rfl⟩ (Nat.le_of_ble_eq_true rfl) d_No_drive_18 (fun v H45 locs hp hL => ?_)
      obtain ⟨rfl, k44, S43⟩ := hp
      refine W.eq (g2 := F0 m 21 ls []) rfl ?_
      exact s_No_drive_21 D cI cZ cN cJ lo b hlo (f_No_beginToSend z) (ok_beginToSend ok) ((show f_No_drive z = f_No_drive_21 (f_No_beginToSend z) from by unfold f_No_drive; rw [if_pos c41, if_neg c42]).symm) C hml hret hlk hL k44 (hq_Scall (hq_S0) S43 (by omega) (by omega)) (lv_push (lv_nil hl) (lv_at hl 0 rfl))
def f_No_err_55 (z : sNd) (v1 v2 : Int32) : sNd × Int32 := if v2 = 0 then (((f_No_goOffIfTooMany (f_No_beginFlag z ((f_No_isPassive z)))), 0)) else (((f_No_goOffIfTooMany (f_No_beginFlag z ((f_No_isPassive z)))), v1))
def f_No_err_19 (z : sNd) (v1 v2 : Int32) : sNd × Int32 := if z.was = 2 then (f_No_err_55 (sNd.mk z.st z.was z.se (z.he + 1) z.lo z.ma z.va z.sp z.dr z.pf z.ss z.on z.ro z.w z.i z.d z.k z.r) v1 v2) else (if v2 = 0 then (f_No_err_55 z v1 v2) else (f_No_err_55 (sNd.mk z.st z.was (z.se + 8) z.he z.lo z.ma z.va z.sp z.dr z.pf z.ss z.on z.ro z.w z.i z.d z.k z.r) v1 v2))
def f_No_err (z : sNd) (x : Int32) : sNd × Int32 := if x = 6 then (if ((f_No_isPassive z)) = 0 then (f_No_err_19 z x 1) else (f_No_err_19 z x 0)) else (f_No_err_19 z x 1)
set_option maxHeartbeats 4000000 in
set_option maxRecDepth 100000 in
theorem s_No_err_55 {p : Program} {l : Launch} {e : Env} {s : State} {m : MethodId} {args : Array Value} {below : List Frame} {meth : Method} {c : Code} {H : Heap} {locs : List Loc} {ls : Array Slot} (D : va_G) (cI cZ cN cJ : ClassId) (lo b : Nat) (hlo : lo ≤ b) (z : sNd) (v1 v2 : Int32) {R9 : sNd × Int32} (hR : f_No_err_55 z v1 v2 = R9) (C : hq_C p c s m args R_No b_No_err TB D vwCl (TY cI cZ cN cJ)) (hml : c.maxLocals = 3) (hret : meth.sig.returnType = (some .int)) (hlk : meth.locks = false) (hL : hq_L lo locs) (kz : NdP D cI cZ b z H) (hS : hq_S b 10 s.heap H) (hl : lv_has ls 3 [(0, .ref (b)), (1, .int (v1)), (2, .int (v2))]) : W p l e { frames := 1, cells := 0, slots := 0, locals := 21 } s m args below meth c H locs 0 0 (MQ below (hq_Q (fun H v H' => v = some (.int (R9).2) ∧ NdP D cI cZ b (R9).1 H' ∧ hq_S b 10 H H')) args s 0 0 (fun q => lo ≤ q)) (F0 m 55 ls []) := by
  refine lv_aload_n C.1 C.2.1 d_No_err_55 rfl (lv_at hl 0 rfl) ?_
  refine lv_aload_n C.1 C.2.1 d_No_err_56 rfl (lv_at hl 0 rfl) ?_
  refine hq_callV (lo := lo) (As := []) (rest := [.ref (b)]) C tb_good hml Y_No_207 (c_No_isPassive l D cI cZ cN cJ lo (b) z) kz.1 rfl (fun _ _ _ _ h => h) (fun U hU hW => by show NdP D cI cZ (b) z U.heap; rw [hU]; exact kz) hL hl.1 rfl rfl ⟨⟨Nat.le_of_ble_eq_true rfl, Nat.le_of_ble_eq_true rfl⟩, Nat.le_of_ble_eq_true rfl, Nat.le_of_ble_eq_true rfl⟩ (Nat.le_of_ble_eq_true rfl) d_No_err_57 (fun v H61 locs hp hL => ?_)
  obtain ⟨rfl, rfl⟩ := hp
  refine W.eq (g2 := F0 m 60 ls [.int ((f_No_isPassive z)), .ref (b)]) rfl ?_
  refine hq_callV (lo := lo) (As := [.int ((f_No_isPassive z))]) (rest := []) C tb_good hml Y_No_210 (c_No_beginFlag l D cI cZ cN cJ lo (b) (by omega) z ((f_No_isPassive z)) (isPassive01 _)) kz.1 rfl (fun _ _ _ _ h => h) (fun U hU hW => by show NdP D cI cZ (b) z U.heap; rw [hU]; exact kz) hL hl.1 rfl rfl ⟨⟨Nat.le_of_ble_eq_true rfl, Nat.le_of_ble_eq_true rfl⟩, Nat.le_of_ble_eq_true rfl, Nat.le_of_ble_eq_true rfl⟩ (Nat.le_of_ble_eq_true rfl) d_No_err_60 (fun v H64 locs hp hL => ?_)
  obtain ⟨rfl, k63, S62⟩ := hp
  refine W.eq (g2 := F0 m 63 ls []) rfl ?_
  refine lv_aload_n C.1 C.2.1 d_No_err_63 rfl (lv_at hl 0 rfl) ?_
  refine hq_callV (lo := lo) (As := []) (rest := []) C tb_good hml Y_No_214 (c_No_goOffIfTooMany l D cI cZ cN cJ lo (b) (by omega) (f_No_beginFlag z ((f_No_isPassive z)))) k63.1 rfl (fun _ _ _ _ h => h) (fun U hU hW => by show NdP D cI cZ (b) (f_No_beginFlag z ((f_No_isPassive z))) U.heap; rw [hU]; exact k63) hL hl.1 rfl rfl ⟨⟨Nat.le_of_ble_eq_true rfl, Nat.le_of_ble_eq_true rfl⟩, Nat.le_of_ble_eq_true rfl, Nat.le_of_ble_eq_true rfl⟩ (Nat.le_of_ble_eq_true rfl) d_No_err_64 (fun v H67 locs hp hL => ?_)
  obtain ⟨rfl, k66, S65⟩ := hp
  refine W.eq (g2 := F0 m 67 ls []) rfl ?_
  refine lv_iload_n C.1 C.2.1 d_No_err_67 rfl (lv_at hl 2 rfl) ?_
  refine lv_if_eq (tgt := 75) C.1 C.2.1 d_No_err_68 (by decide) ?_ ?_
  · intro c68
    refine lv_iconst (v := 0) C.1 C.2.1 d_No_err_75 (by decide) ?_
    have hf : R9 = ((f_No_goOffIfTooMany (f_No_beginFlag z ((f_No_isPassive z)))), 0) := by rw [← hR]; unfold f_No_err_55; rw [if_pos c68]
    exact hq_iret C hret hlk (Nat.le_of_ble_eq_true rfl) (Nat.le_of_ble_eq_true rfl) hL ⟨by rw [hf], by rw [hf]; exact k66, hq_Scall (hq_Scall (hS) S62 (by omega) (by omega)) S65 (by omega) (by omega)⟩ d_No_err_76
  · intro c68
    refine lv_iload_n C.1 C.2.1 d_No_err_71 rfl (lv_at hl 1 rfl) ?_
    refine lv_goto (tgt := 76) C.1 C.2.1 d_No_err_72 (by decide) ?_
    have hf : R9 = ((f_No_goOffIfTooMany (f_No_beginFlag z ((f_No_isPassive z)))), v1) := by rw [← hR]; unfold f_No_err_55; rw [if_neg c68]
    exact hq_iret C hret hlk (Nat.le_of_ble_eq_true rfl) (Nat.le_of_ble_eq_true rfl) hL ⟨by rw [hf], by rw [hf]; exact k66, hq_Scall (hq_Scall (hS) S62 (by omega) (by omega)) S65 (by omega) (by omega)⟩ d_No_err_76
set_option maxHeartbeats 4000000 in
set_option maxRecDepth 100000 in
theorem s_No_err_19 {p : Program} {l : Launch} {e : Env} {s : State} {m : MethodId} {args : Array Value} {below : List Frame} {meth : Method} {c : Code} {H : Heap} {locs : List Loc} {ls : Array Slot} (D : va_G) (cI cZ cN cJ : ClassId) (lo b : Nat) (hlo : lo ≤ b) (z : sNd) (v1 v2 : Int32) {R9 : sNd × Int32} (hR : f_No_err_19 z v1 v2 = R9) (C : hq_C p c s m args R_No b_No_err TB D vwCl (TY cI cZ cN cJ)) (hml : c.maxLocals = 3) (hret : meth.sig.returnType = (some .int)) (hlk : meth.locks = false) (hL : hq_L lo locs) (kz : NdP D cI cZ b z H) (hS : hq_S b 10 s.heap H) (hl : lv_has ls 3 [(0, .ref (b)), (1, .int (v1)), (2, .int (v2))]) : W p l e { frames := 1, cells := 0, slots := 0, locals := 21 } s m args below meth c H locs 0 0 (MQ below (hq_Q (fun H v H' => v = some (.int (R9).2) ∧ NdP D cI cZ b (R9).1 H' ∧ hq_S b 10 H H')) args s 0 0 (fun q => lo ≤ q)) (F0 m 19 ls []) := by
  refine lv_aload_n C.1 C.2.1 d_No_err_19 rfl (lv_at hl 0 rfl) ?_
  refine hq_get (v := .int (z.was)) C f_No_46 kz.1 rfl d_No_err_20 ?_
  refine lv_iconst (v := 2) C.1 C.2.1 d_No_err_23 (by decide) ?_
  refine lv_icmp_ne (tgt := 40) C.1 C.2.1 d_No_err_24 (by decide) ?_ ?_
  · intro c61
    refine lv_iload_n C.1 C.2.1 d_No_err_40 rfl (lv_at hl 2 rfl) ?_
    refine lv_if_eq (tgt := 55) C.1 C.2.1 d_No_err_41 (by decide) ?_ ?_
    · intro c62
      exact s_No_err_55 D cI cZ cN cJ lo b hlo z  v1 v2 (((show f_No_err_19 z v1 v2 = f_No_err_55 z v1 v2 from by unfold f_No_err_19; rw [if_neg c61, if_pos c62]).symm).trans hR) C hml hret hlk hL kz (hS) (lv_push (lv_push (lv_push (lv_nil hl) (lv_at hl 2 rfl)) (lv_at hl 1 rfl)) (lv_at hl 0 rfl))
    · intro c62
      refine lv_aload_n C.1 C.2.1 d_No_err_44 rfl (lv_at hl 0 rfl) ?_
      refine lv_dup C.1 C.2.1 d_No_err_45 rfl ?_
      refine hq_get (v := .int (z.se)) C f_No_49 kz.1 rfl d_No_err_46 ?_
      refine lv_bipush (v := 8) C.1 C.2.1 d_No_err_49 (by decide) ?_
      refine lv_iadd C.1 C.2.1 d_No_err_51 ?_
      refine hq_put (lo := lo) C f_No_49 kz.1 rfl rfl (Nat.le_of_ble_eq_true rfl) hL (by omega) d_No_err_52 (fun H63 locs u64 hL => ?_)
      have k65 : va_at D vwCl (b, .inr (3, [.ref (b + 1), .ref (b + 3), .ref (b + 5), .ref (b + 7), .ref (b + 9), .int (z.st), .int (z.was), .int (z.se + 8), .int (z.he), .int (z.lo), .int (z.ma), .int (z.va), .int (z.sp), .int (z.dr), .int (z.pf), .int (z.ss), .int (z.on), .int (z.ro)])) H63 := u64.2.2
      have k66 := hq_au kz.2.1.1 u64 (by omega)
      have k67 := hq_au kz.2.1.2 u64 (by omega)
      have k68 := hq_au kz.2.2.1.1 u64 (by omega)
      have k69 := hq_au kz.2.2.1.2 u64 (by omega)
      have k70 := hq_au kz.2.2.2.1.1 u64 (by omega)
      have k71 := hq_au kz.2.2.2.1.2 u64 (by omega)
      have k72 := hq_au kz.2.2.2.2.1.1 u64 (by omega)
      have k73 := hq_au kz.2.2.2.2.1.2 u64 (by omega)
      have k74 := hq_au kz.2.2.2.2.2 u64 (by omega)
      exact s_No_err_55 D cI cZ cN cJ lo b hlo (sNd.mk z.st z.was (z.se + 8) z.he z.lo z.ma z.va z.sp z.dr z.pf z.ss z.on z.ro z.w z.i z.d z.k z.r)  v1 v2 (((show f_No_err_19 z v1 v2 = f_No_err_55 (sNd.mk z.st z.was (z.se + 8) z.he z.lo z.ma z.va z.sp z.dr z.pf z.ss z.on z.ro z.w z.i z.d z.k z.r) v1 v2 from by unfold f_No_err_19; rw [if_neg c61, if_neg c62]).symm).trans hR) C hml hret hlk hL ⟨k65, ⟨k66, k67⟩, ⟨k68, k69⟩, ⟨k70, k71⟩, ⟨k72, k73⟩, k74⟩ (hq_Sput (hS) u64 (by omega) (by omega)) (lv_push (lv_push (lv_push (lv_nil hl) (lv_at hl 2 rfl)) (lv_at hl 1 rfl)) (lv_at hl 0 rfl))
  · intro c61
    refine lv_aload_n C.1 C.2.1 d_No_err_27 rfl (lv_at hl 0 rfl) ?_
    refine lv_dup C.1 C.2.1 d_No_err_28 rfl ?_
    refine hq_get (v := .int (z.he)) C f_No_52 kz.1 rfl d_No_err_29 ?_
    refine lv_iconst (v := 1) C.1 C.2.1 d_No_err_32 (by decide) ?_
    refine lv_iadd C.1 C.2.1 d_No_err_33 ?_
    refine hq_put (lo := lo) C f_No_52 kz.1 rfl rfl (Nat.le_of_ble_eq_true rfl) hL (by omega) d_No_err_34 (fun H75 locs u76 hL => ?_)
    have k77 : va_at D vwCl (b, .inr (3, [.ref (b + 1), .ref (b + 3), .ref (b + 5), .ref (b + 7), .ref (b + 9), .int (z.st), .int (z.was), .int (z.se), .int (z.he + 1), .int (z.lo), .int (z.ma), .int (z.va), .int (z.sp), .int (z.dr), .int (z.pf), .int (z.ss), .int (z.on), .int (z.ro)])) H75 := u76.2.2
    refine lv_goto (tgt := 55) C.1 C.2.1 d_No_err_37 (by decide) ?_
    have k78 := hq_au kz.2.1.1 u76 (by omega)
    have k79 := hq_au kz.2.1.2 u76 (by omega)
    have k80 := hq_au kz.2.2.1.1 u76 (by omega)
    have k81 := hq_au kz.2.2.1.2 u76 (by omega)
    have k82 := hq_au kz.2.2.2.1.1 u76 (by omega)
    have k83 := hq_au kz.2.2.2.1.2 u76 (by omega)
    have k84 := hq_au kz.2.2.2.2.1.1 u76 (by omega)
    have k85 := hq_au kz.2.2.2.2.1.2 u76 (by omega)
    have k86 := hq_au kz.2.2.2.2.2 u76 (by omega)
    exact s_No_err_55 D cI cZ cN cJ lo b hlo (sNd.mk z.st z.was z.se (z.he + 1) z.lo z.ma z.va z.sp z.dr z.pf z.ss z.on z.ro z.w z.i z.d z.k z.r)  v1 v2 (((show f_No_err_19 z v1 v2 = f_No_err_55 (sNd.mk z.st z.was z.se (z.he + 1) z.lo z.ma z.va z.sp z.dr z.pf z.ss z.on z.ro z.w z.i z.d z.k z.r) v1 v2 from by unfold f_No_err_19; rw [if_pos c61]).symm).trans hR) C hml hret hlk hL ⟨k77, ⟨k78, k79⟩, ⟨k80, k81⟩, ⟨k82, k83⟩, ⟨k84, k85⟩, k86⟩ (hq_Sput (hS) u76 (by omega) (by omega)) (lv_push (lv_push (lv_push (lv_nil hl) (lv_at hl 2 rfl)) (lv_at hl 1 rfl)) (lv_at hl 0 rfl))
set_option maxHeartbeats 4000000 in
set_option maxRecDepth 100000 in
theorem c_No_err (l : Launch) (D : va_G) (cI cZ cN cJ : ClassId) (lo : Nat) (b : Nat) (hlo : lo ≤ b) (z : sNd) (x : Int32) : hq_M l y_No_err b_No_err 3 (some .int) TB { frames := 1, cells := 0, slots := 0, locals := 21 } lo D vwCl (TY cI cZ cN cJ) [.ref (b), .int (x)] (fun U => NdP D cI cZ b z U.heap) (fun H v H' => v = some (.int (f_No_err z x).2) ∧ NdP D cI cZ b (f_No_err z x).1 H' ∧ hq_S b 10 H H') := by
  refine hq_ofW (by decide) (Nat.le_of_ble_eq_true rfl) ?_
  intro p e s m below meth c ls C hml hret hlk hnm hl hP
  have hL : hq_L lo [] := hq_L0
  have hl : lv_has ls 3 [(0, .ref (b)), (1, .int (x))] := hl
  have kz := hP
  refine lv_iload_n C.1 C.2.1 d_No_err_0 rfl (lv_at hl 1 rfl) ?_
  refine lv_bipush (v := 6) C.1 C.2.1 d_No_err_1 (by decide) ?_
  refine lv_icmp_ne (tgt := 13) C.1 C.2.1 d_No_err_3 (by decide) ?_ ?_
  · intro c41
    refine lv_iconst (v := 1) C.1 C.2.1 d_No_err_13 (by decide) ?_
    refine lv_goto (tgt := 18) C.1 C.2.1 d_No_err_14 (by decide) ?_
    refine lv_istore_n C.1 C.2.1 d_No_err_18 rfl hl (by decide) rfl (lv' := [(2, .int (1)), (0, .ref (b)), (1, .int (x))]) (fun ls hl => ?_)
    exact s_No_err_19 D cI cZ cN cJ lo b hlo z  x 1 ((show f_No_err z x = f_No_err_19 z x 1 from by unfold f_No_err; rw [if_neg c41]).symm) C hml hret hlk hL kz (hq_S0) (lv_push (lv_push (lv_push (lv_nil hl) (lv_at hl 0 rfl)) (lv_at hl 2 rfl)) (lv_at hl 1 rfl))
  · intro c41
    refine lv_aload_n C.1 C.2.1 d_No_err_6 rfl (lv_at hl 0 rfl) ?_
    refine hq_callV (lo := lo) (As := []) (rest := []) C tb_good hml Y_No_207 (c_No_isPassive l D cI cZ cN cJ lo (b) z) kz.1 rfl (fun _ _ _ _ h => h) (fun U hU hW => by show NdP D cI cZ (b) z U.heap; rw [hU]; exact kz) hL hl.1 rfl rfl ⟨⟨Nat.le_of_ble_eq_true rfl, Nat.le_of_ble_eq_true rfl⟩, Nat.le_of_ble_eq_true rfl, Nat.le_of_ble_eq_true rfl⟩ (Nat.le_of_ble_eq_true rfl) d_No_err_7 (fun v H42 locs hp hL => ?_)
    obtain ⟨rfl, rfl⟩ := hp
    refine W.eq (g2 := F0 m 10 ls [.int ((f_No_isPassive z))]) rfl ?_
    refine lv_if_ne (tgt := 17) C.1 C.2.1 d_No_err_10 (by decide) ?_ ?_
    · intro c43
      refine lv_iconst (v := 0) C.1 C.2.1 d_No_err_17 (by decide) ?_
      refine lv_istore_n C.1 C.2.1 d_No_err_18 rfl hl (by decide) rfl (lv' := [(2, .int (0)), (0, .ref (b)), (1, .int (x))]) (fun ls hl => ?_)
      exact s_No_err_19 D cI cZ cN cJ lo b hlo z  x 0 ((show f_No_err z x = f_No_err_19 z x 0 from by unfold f_No_err; rw [if_pos c41, if_neg c43]).symm) C hml hret hlk hL kz (hq_S0) (lv_push (lv_push (lv_push (lv_nil hl) (lv_at hl 0 rfl)) (lv_at hl 2 rfl)) (lv_at hl 1 rfl))
    · intro c43
      refine lv_iconst (v := 1) C.1 C.2.1 d_No_err_13 (by decide) ?_
      refine lv_goto (tgt := 18) C.1 C.2.1 d_No_err_14 (by decide) ?_
      refine lv_istore_n C.1 C.2.1 d_No_err_18 rfl hl (by decide) rfl (lv' := [(2, .int (1)), (0, .ref (b)), (1, .int (x))]) (fun ls hl => ?_)
      exact s_No_err_19 D cI cZ cN cJ lo b hlo z  x 1 ((show f_No_err z x = f_No_err_19 z x 1 from by unfold f_No_err; rw [if_pos c41, if_pos c43]).symm) C hml hret hlk hL kz (hq_S0) (lv_push (lv_push (lv_push (lv_nil hl) (lv_at hl 0 rfl)) (lv_at hl 2 rfl)) (lv_at hl 1 rfl))
def f_No_endSending (z : sNd) : sNd × Int32 := if z.se ≤ 0 then (((f_No_beginPause (sNd.mk z.st z.was z.se z.he z.lo z.ma z.va z.sp z.dr z.pf z.ss z.on z.ro (f_Fr_remove z.w z.sp).1 z.i z.d z.k z.r)), 1)) else (((f_No_beginPause (sNd.mk z.st z.was (z.se - 1) z.he z.lo z.ma z.va z.sp z.dr z.pf z.ss z.on z.ro (f_Fr_remove z.w z.sp).1 z.i z.d z.k z.r)), 1))
set_option maxHeartbeats 4000000 in
set_option maxRecDepth 100000 in
theorem c_No_endSending (l : Launch) (D : va_G) (cI cZ cN cJ : ClassId) (lo : Nat) (b : Nat) (hlo : lo ≤ b) (z : sNd) (ok : okNd z) : hq_M l y_No_endSending b_No_endSending 1 (some .int) TB { frames := 2, cells := 0, slots := 0, locals := 53 } lo D vwCl (TY cI cZ cN cJ) [.ref (b)] (fun U => NdP D cI cZ b z U.heap) (fun H v H' => v = some (.int (f_No_endSending z).2) ∧ NdP D cI cZ b (f_No_endSending z).1 H' ∧ hq_S b 10 H H') := by
  refine hq_ofW (by decide) (Nat.le_of_ble_eq_true rfl) ?_
  intro p e s m below meth c ls C hml hret hlk hnm hl hP
  have hL : hq_L lo [] := hq_L0
  have hl : lv_has ls 1 [(0, .ref (b))] := hl
  have kz := hP
  refine lv_aload_n C.1 C.2.1 d_No_endSending_0 rfl (lv_at hl 0 rfl) ?_
  refine hq_get (v := .ref (b + 1)) C f_No_12 kz.1 rfl d_No_endSending_1 ?_
  refine lv_aload_n C.1 C.2.1 d_No_endSending_4 rfl (lv_at hl 0 rfl) ?_
  refine hq_get (v := .int (z.sp)) C f_No_64 kz.1 rfl d_No_endSending_5 ?_
  refine hq_callV (lo := lo) (As := [.int (z.sp)]) (rest := []) C tb_good hml Y_No_171 (c_Fr_remove l D cI cZ cN cJ lo (b + 1) (by omega) z.w ok.1 z.sp) kz.2.1.1 rfl (fun _ _ _ _ h => h) (fun U hU hW => by show FrP D cI (b + 1) z.w U.heap; rw [hU]; exact ⟨kz.2.1.1, kz.2.1.2⟩) hL hl.1 rfl rfl ⟨⟨Nat.le_of_ble_eq_true rfl, Nat.le_of_ble_eq_true rfl⟩, Nat.le_of_ble_eq_true rfl, Nat.le_of_ble_eq_true rfl⟩ (Nat.le_of_ble_eq_true rfl) d_No_endSending_8 (fun v H43 locs hp hL => ?_)
  obtain ⟨rfl, k42, S41⟩ := hp
  refine W.eq (g2 := F0 m 11 ls [.int ((f_Fr_remove z.w z.sp).2)]) rfl ?_
  refine lv_pop C.1 C.2.1 d_No_endSending_11 rfl ?_
  refine lv_aload_n C.1 C.2.1 d_No_endSending_12 rfl (lv_at hl 0 rfl) ?_
  have k44 := hq_as kz.1 S41 (by omega)
  refine hq_get (v := .int (z.se)) C f_No_49 k44 rfl d_No_endSending_13 ?_
  refine lv_if_le (tgt := 29) C.1 C.2.1 d_No_endSending_16 (by decide) ?_ ?_
  · intro c45
    refine lv_aload_n C.1 C.2.1 d_No_endSending_29 rfl (lv_at hl 0 rfl) ?_
    have k46 := hq_as kz.2.2.1.1 S41 (by omega)
    have k47 := hq_as kz.2.2.1.2 S41 (by omega)
    have k48 := hq_as kz.2.2.2.1.1 S41 (by omega)
    have k49 := hq_as kz.2.2.2.1.2 S41 (by omega)
    have k50 := hq_as kz.2.2.2.2.1.1 S41 (by omega)
    have k51 := hq_as kz.2.2.2.2.1.2 S41 (by omega)
    have k52 := hq_as kz.2.2.2.2.2 S41 (by omega)
    refine hq_callV (lo := lo) (As := []) (rest := []) C tb_good hml Y_No_174 (c_No_beginPause l D cI cZ cN cJ lo (b) (by omega) (sNd.mk z.st z.was z.se z.he z.lo z.ma z.va z.sp z.dr z.pf z.ss z.on z.ro (f_Fr_remove z.w z.sp).1 z.i z.d z.k z.r)) k44 rfl (fun _ _ _ _ h => h) (fun U hU hW => by show NdP D cI cZ (b) (sNd.mk z.st z.was z.se z.he z.lo z.ma z.va z.sp z.dr z.pf z.ss z.on z.ro (f_Fr_remove z.w z.sp).1 z.i z.d z.k z.r) U.heap; rw [hU]; exact ⟨k44, ⟨k42.1, k42.2⟩, ⟨k46, k47⟩, ⟨k48, k49⟩, ⟨k50, k51⟩, k52⟩) hL hl.1 rfl rfl ⟨⟨Nat.le_of_ble_eq_true rfl, Nat.le_of_ble_eq_true rfl⟩, Nat.le_of_ble_eq_true rfl, Nat.le_of_ble_eq_true rfl⟩ (Nat.le_of_ble_eq_true rfl) d_No_endSending_30 (fun v H55 locs hp hL => ?_)
    obtain ⟨rfl, k54, S53⟩ := hp
    refine W.eq (g2 := F0 m 33 ls []) rfl ?_
    refine lv_iconst (v := 1) C.1 C.2.1 d_No_endSending_33 (by decide) ?_
    have hf : f_No_endSending z = ((f_No_beginPause (sNd.mk z.st z.was z.se z.he z.lo z.ma z.va z.sp z.dr z.pf z.ss z.on z.ro (f_Fr_remove z.w z.sp).1 z.i z.d z.k z.r)), 1) := by unfold f_No_endSending; rw [if_pos c45]
    exact hq_iret C hret hlk (Nat.le_of_ble_eq_true rfl) (Nat.le_of_ble_eq_true rfl) hL ⟨by rw [hf], by rw [hf]; exact k54, hq_Scall (hq_Scall (hq_S0) S41 (by omega) (by omega)) S53 (by omega) (by omega)⟩ d_No_endSending_34
  · intro c45
    refine lv_aload_n C.1 C.2.1 d_No_endSending_19 rfl (lv_at hl 0 rfl) ?_
    refine lv_dup C.1 C.2.1 d_No_endSending_20 rfl ?_
    refine hq_get (v := .int (z.se)) C f_No_49 k44 rfl d_No_endSending_21 ?_
    refine lv_iconst (v := 1) C.1 C.2.1 d_No_endSending_24 (by decide) ?_
    refine lv_isub C.1 C.2.1 d_No_endSending_25 ?_
    refine hq_put (lo := lo) C f_No_49 k44 rfl rfl (Nat.le_of_ble_eq_true rfl) hL (by omega) d_No_endSending_26 (fun H56 locs u57 hL => ?_)
    have k58 : va_at D vwCl (b, .inr (3, [.ref (b + 1), .ref (b + 3), .ref (b + 5), .ref (b + 7), .ref (b + 9), .int (z.st), .int (z.was), .int (z.se - 1), .int (z.he), .int (z.lo), .int (z.ma), .int (z.va), .int (z.sp), .int (z.dr), .int (z.pf), .int (z.ss), .int (z.on), .int (z.ro)])) H56 := u57.2.2
    refine lv_aload_n C.1 C.2.1 d_No_endSending_29 rfl (lv_at hl 0 rfl) ?_
    have k59 := hq_au k42.1 u57 (by omega)
    have k60 := hq_au k42.2 u57 (by omega)
    have k61 := hq_au (hq_as kz.2.2.1.1 S41 (by omega)) u57 (by omega)
    have k62 := hq_au (hq_as kz.2.2.1.2 S41 (by omega)) u57 (by omega)
    have k63 := hq_au (hq_as kz.2.2.2.1.1 S41 (by omega)) u57 (by omega)
    have k64 := hq_au (hq_as kz.2.2.2.1.2 S41 (by omega)) u57 (by omega)
    have k65 := hq_au (hq_as kz.2.2.2.2.1.1 S41 (by omega)) u57 (by omega)
    have k66 := hq_au (hq_as kz.2.2.2.2.1.2 S41 (by omega)) u57 (by omega)
    have k67 := hq_au (hq_as kz.2.2.2.2.2 S41 (by omega)) u57 (by omega)
    refine hq_callV (lo := lo) (As := []) (rest := []) C tb_good hml Y_No_174 (c_No_beginPause l D cI cZ cN cJ lo (b) (by omega) (sNd.mk z.st z.was (z.se - 1) z.he z.lo z.ma z.va z.sp z.dr z.pf z.ss z.on z.ro (f_Fr_remove z.w z.sp).1 z.i z.d z.k z.r)) k58 rfl (fun _ _ _ _ h => h) (fun U hU hW => by show NdP D cI cZ (b) (sNd.mk z.st z.was (z.se - 1) z.he z.lo z.ma z.va z.sp z.dr z.pf z.ss z.on z.ro (f_Fr_remove z.w z.sp).1 z.i z.d z.k z.r) U.heap; rw [hU]; exact ⟨k58, ⟨k59, k60⟩, ⟨k61, k62⟩, ⟨k63, k64⟩, ⟨k65, k66⟩, k67⟩) hL hl.1 rfl rfl ⟨⟨Nat.le_of_ble_eq_true rfl, Nat.le_of_ble_eq_true rfl⟩, Nat.le_of_ble_eq_true rfl, Nat.le_of_ble_eq_true rfl⟩ (Nat.le_of_ble_eq_true rfl) d_No_endSending_30 (fun v H70 locs hp hL => ?_)
    obtain ⟨rfl, k69, S68⟩ := hp
    refine W.eq (g2 := F0 m 33 ls []) rfl ?_
    refine lv_iconst (v := 1) C.1 C.2.1 d_No_endSending_33 (by decide) ?_
    have hf : f_No_endSending z = ((f_No_beginPause (sNd.mk z.st z.was (z.se - 1) z.he z.lo z.ma z.va z.sp z.dr z.pf z.ss z.on z.ro (f_Fr_remove z.w z.sp).1 z.i z.d z.k z.r)), 1) := by unfold f_No_endSending; rw [if_neg c45]
    exact hq_iret C hret hlk (Nat.le_of_ble_eq_true rfl) (Nat.le_of_ble_eq_true rfl) hL ⟨by rw [hf], by rw [hf]; exact k69, hq_Scall (hq_Sput (hq_Scall (hq_S0) S41 (by omega) (by omega)) u57 (by omega) (by omega)) S68 (by omega) (by omega)⟩ d_No_endSending_34
def f_No_keep (z : sNd) (x : Int32) : sNd := if (fl (nI z.i.k)) = 0 then ((sNd.mk z.st z.was z.se z.he z.lo z.ma z.va z.sp z.dr z.pf z.ss z.on z.ro z.w (f_Fr_add z.i x) z.d z.k z.r)) else ((sNd.mk z.st z.was z.se z.he (z.lo + 1) z.ma z.va z.sp z.dr z.pf z.ss z.on z.ro z.w z.i z.d z.k z.r))
set_option maxHeartbeats 4000000 in
set_option maxRecDepth 100000 in
theorem c_No_keep (l : Launch) (D : va_G) (cI cZ cN cJ : ClassId) (lo : Nat) (b : Nat) (hlo : lo ≤ b) (z : sNd) (ok : okNd z) (x : Int32) : hq_M l y_No_keep b_No_keep 2 none TB { frames := 2, cells := 0, slots := 0, locals := 51 } lo D vwCl (TY cI cZ cN cJ) [.ref (b), .int (x)] (fun U => NdP D cI cZ b z U.heap) (fun H v H' => v = none ∧ NdP D cI cZ b (f_No_keep z x) H' ∧ hq_S b 10 H H') := by
  refine hq_ofW (by decide) (Nat.le_of_ble_eq_true rfl) ?_
  intro p e s m below meth c ls C hml hret hlk hnm hl hP
  have hL : hq_L lo [] := hq_L0
  have hl : lv_has ls 2 [(0, .ref (b)), (1, .int (x))] := hl
  have kz := hP
  refine lv_aload_n C.1 C.2.1 d_No_keep_0 rfl (lv_at hl 0 rfl) ?_
  refine hq_get (v := .ref (b + 3)) C f_No_18 kz.1 rfl d_No_keep_1 ?_
  refine hq_callV (lo := lo) (As := []) (rest := []) C tb_good hml Y_No_201 (c_isFull l D cI cZ cN cJ lo (b + 3) (b + 3 + 1) (nI z.i.k)) kz.2.2.1.1 rfl (fun _ _ _ _ h => h) (fun U hU hW => by show va_at D vwCl (b + 3, .inr (2, [.ref (b + 3 + 1), .int (nI z.i.k)])) U.heap; rw [hU]; exact kz.2.2.1.1) hL hl.1 rfl rfl ⟨⟨Nat.le_of_ble_eq_true rfl, Nat.le_of_ble_eq_true rfl⟩, Nat.le_of_ble_eq_true rfl, Nat.le_of_ble_eq_true rfl⟩ (Nat.le_of_ble_eq_true rfl) d_No_keep_4 (fun v H41 locs hp hL => ?_)
  obtain ⟨rfl, rfl⟩ := hp
  refine W.eq (g2 := F0 m 7 ls [.int (fl (nI z.i.k))]) rfl ?_
  refine lv_if_eq (tgt := 23) C.1 C.2.1 d_No_keep_7 (by decide) ?_ ?_
  · intro c42
    refine lv_aload_n C.1 C.2.1 d_No_keep_23 rfl (lv_at hl 0 rfl) ?_
    refine hq_get (v := .ref (b + 3)) C f_No_18 kz.1 rfl d_No_keep_24 ?_
    refine lv_iload_n C.1 C.2.1 d_No_keep_27 rfl (lv_at hl 1 rfl) ?_
    refine hq_callV (lo := lo) (As := [.int (x)]) (rest := []) C tb_good hml Y_No_204 (c_Fr_add l D cI cZ cN cJ lo (b + 3) (by omega) z.i ok.2.1 x) kz.2.2.1.1 rfl (fun _ _ _ _ h => h) (fun U hU hW => by show FrP D cI (b + 3) z.i U.heap; rw [hU]; exact ⟨kz.2.2.1.1, kz.2.2.1.2⟩) hL hl.1 rfl rfl ⟨⟨Nat.le_of_ble_eq_true rfl, Nat.le_of_ble_eq_true rfl⟩, Nat.le_of_ble_eq_true rfl, Nat.le_of_ble_eq_true rfl⟩ (Nat.le_of_ble_eq_true rfl) d_No_keep_28 (fun v H45 locs hp hL => ?_)
    obtain ⟨rfl, k44, S43⟩ := hp
    refine W.eq (g2 := F0 m 31 ls []) rfl ?_
    have hf : f_No_keep z x = (sNd.mk z.st z.was z.se z.he z.lo z.ma z.va z.sp z.dr z.pf z.ss z.on z.ro z.w (f_Fr_add z.i x) z.d z.k z.r) := by unfold f_No_keep; rw [if_pos c42]
    have k46 := hq_as kz.1 S43 (by omega)
    have k47 := hq_as kz.2.1.1 S43 (by omega)
    have k48 := hq_as kz.2.1.2 S43 (by omega)
    have k49 := hq_as kz.2.2.2.1.1 S43 (by omega)
    have k50 := hq_as kz.2.2.2.1.2 S43 (by omega)
    have k51 := hq_as kz.2.2.2.2.1.1 S43 (by omega)
    have k52 := hq_as kz.2.2.2.2.1.2 S43 (by omega)
    have k53 := hq_as kz.2.2.2.2.2 S43 (by omega)
    exact hq_vret C hret hlk (Nat.le_of_ble_eq_true rfl) (Nat.le_of_ble_eq_true rfl) hL ⟨rfl, by rw [hf]; exact ⟨k46, ⟨k47, k48⟩, ⟨k44.1, k44.2⟩, ⟨k49, k50⟩, ⟨k51, k52⟩, k53⟩, hq_Scall (hq_S0) S43 (by omega) (by omega)⟩ d_No_keep_31
  · intro c42
    refine lv_aload_n C.1 C.2.1 d_No_keep_10 rfl (lv_at hl 0 rfl) ?_
    refine lv_dup C.1 C.2.1 d_No_keep_11 rfl ?_
    refine hq_get (v := .int (z.lo)) C f_No_55 kz.1 rfl d_No_keep_12 ?_
    refine lv_iconst (v := 1) C.1 C.2.1 d_No_keep_15 (by decide) ?_
    refine lv_iadd C.1 C.2.1 d_No_keep_16 ?_
    refine hq_put (lo := lo) C f_No_55 kz.1 rfl rfl (Nat.le_of_ble_eq_true rfl) hL (by omega) d_No_keep_17 (fun H54 locs u55 hL => ?_)
    have k56 : va_at D vwCl (b, .inr (3, [.ref (b + 1), .ref (b + 3), .ref (b + 5), .ref (b + 7), .ref (b + 9), .int (z.st), .int (z.was), .int (z.se), .int (z.he), .int (z.lo + 1), .int (z.ma), .int (z.va), .int (z.sp), .int (z.dr), .int (z.pf), .int (z.ss), .int (z.on), .int (z.ro)])) H54 := u55.2.2
    refine lv_goto (tgt := 31) C.1 C.2.1 d_No_keep_20 (by decide) ?_
    have hf : f_No_keep z x = (sNd.mk z.st z.was z.se z.he (z.lo + 1) z.ma z.va z.sp z.dr z.pf z.ss z.on z.ro z.w z.i z.d z.k z.r) := by unfold f_No_keep; rw [if_neg c42]
    have k57 := hq_au kz.2.1.1 u55 (by omega)
    have k58 := hq_au kz.2.1.2 u55 (by omega)
    have k59 := hq_au kz.2.2.1.1 u55 (by omega)
    have k60 := hq_au kz.2.2.1.2 u55 (by omega)
    have k61 := hq_au kz.2.2.2.1.1 u55 (by omega)
    have k62 := hq_au kz.2.2.2.1.2 u55 (by omega)
    have k63 := hq_au kz.2.2.2.2.1.1 u55 (by omega)
    have k64 := hq_au kz.2.2.2.2.1.2 u55 (by omega)
    have k65 := hq_au kz.2.2.2.2.2 u55 (by omega)
    exact hq_vret C hret hlk (Nat.le_of_ble_eq_true rfl) (Nat.le_of_ble_eq_true rfl) hL ⟨rfl, by rw [hf]; exact ⟨k56, ⟨k57, k58⟩, ⟨k59, k60⟩, ⟨k61, k62⟩, ⟨k63, k64⟩, k65⟩, hq_Sput (hq_S0) u55 (by omega) (by omega)⟩ d_No_keep_31
theorem add_len {w : sFr} {x : Int32} (h : w.k ≤ 4) : (f_Fr_add w x).k ≤ 4 := by
  unfold f_Fr_add
  split
  · show w.k + 1 ≤ 4; omega
  · exact h
theorem ok_keep {z : sNd} {x : Int32} (ok : okNd z) : okNd (f_No_keep z x) := by
  unfold f_No_keep
  split
  all_goals first | exact ok | exact ⟨ok.1, add_len ok.2.1, ok.2.2⟩
def f_No_endHearing_52 (z : sNd) (v1 : Int32) : sNd × Int32 := if v1 = 0 then ((f_No_overload z)) else (((f_No_beginPause z), 0))
def f_No_endHearing_22 (z : sNd) (v1 : Int32) : sNd × Int32 := if (z.r.i &&& z.ma) = z.va then (f_No_endHearing_52 (f_No_keep z ((f_Re_frame z.r))) v1) else (f_No_endHearing_52 z v1)
def f_No_endHearing (z : sNd) (x : Int32) : sNd × Int32 := if z.he ≤ 0 then (f_No_endHearing_22 z x) else (f_No_endHearing_22 (sNd.mk z.st z.was z.se (f_Ma_min (z.he - 1) 127) z.lo z.ma z.va z.sp z.dr z.pf z.ss z.on z.ro z.w z.i z.d z.k z.r) x)
set_option maxHeartbeats 4000000 in
set_option maxRecDepth 100000 in
theorem s_No_endHearing_52 {p : Program} {l : Launch} {e : Env} {s : State} {m : MethodId} {args : Array Value} {below : List Frame} {meth : Method} {c : Code} {H : Heap} {locs : List Loc} {ls : Array Slot} (D : va_G) (cI cZ cN cJ : ClassId) (lo b : Nat) (hlo : lo ≤ b) (z : sNd) (ok : okNd z) (v1 : Int32) {R9 : sNd × Int32} (hR : f_No_endHearing_52 z v1 = R9) (C : hq_C p c s m args R_No b_No_endHearing TB D vwCl (TY cI cZ cN cJ)) (hml : c.maxLocals = 2) (hret : meth.sig.returnType = (some .int)) (hlk : meth.locks = false) (hL : hq_L lo locs) (kz : NdP D cI cZ b z H) (hS : hq_S b 10 s.heap H) (hl : lv_has ls 2 [(0, .ref (b)), (1, .int (v1))]) : W p l e { frames := 3, cells := 0, slots := 0, locals := 72 } s m args below meth c H locs 0 0 (MQ below (hq_Q (fun H v H' => v = some (.int (R9).2) ∧ NdP D cI cZ b (R9).1 H' ∧ hq_S b 10 H H')) args s 0 0 (fun q => lo ≤ q)) (F0 m 52 ls []) := by
  refine lv_iload_n C.1 C.2.1 d_No_endHearing_52 rfl (lv_at hl 1 rfl) ?_
  refine lv_if_ne (tgt := 61) C.1 C.2.1 d_No_endHearing_53 (by decide) ?_ ?_
  · intro c61
    refine lv_aload_n C.1 C.2.1 d_No_endHearing_61 rfl (lv_at hl 0 rfl) ?_
    refine hq_callV (lo := lo) (As := []) (rest := []) C tb_good hml Y_No_174 (c_No_beginPause l D cI cZ cN cJ lo (b) (by omega) z) kz.1 rfl (fun _ _ _ _ h => h) (fun U hU hW => by show NdP D cI cZ (b) z U.heap; rw [hU]; exact kz) hL hl.1 rfl rfl ⟨⟨Nat.le_of_ble_eq_true rfl, Nat.le_of_ble_eq_true rfl⟩, Nat.le_of_ble_eq_true rfl, Nat.le_of_ble_eq_true rfl⟩ (Nat.le_of_ble_eq_true rfl) d_No_endHearing_62 (fun v H64 locs hp hL => ?_)
    obtain ⟨rfl, k63, S62⟩ := hp
    refine W.eq (g2 := F0 m 65 ls []) rfl ?_
    refine lv_iconst (v := 0) C.1 C.2.1 d_No_endHearing_65 (by decide) ?_
    have hf : R9 = ((f_No_beginPause z), 0) := by rw [← hR]; unfold f_No_endHearing_52; rw [if_neg c61]
    exact hq_iret C hret hlk (Nat.le_of_ble_eq_true rfl) (Nat.le_of_ble_eq_true rfl) hL ⟨by rw [hf], by rw [hf]; exact k63, hq_Scall (hS) S62 (by omega) (by omega)⟩ d_No_endHearing_66
  · intro c61
    refine lv_aload_n C.1 C.2.1 d_No_endHearing_56 rfl (lv_at hl 0 rfl) ?_
    refine hq_callV (lo := lo) (As := []) (rest := []) C tb_good hml Y_No_198 (c_No_overload l D cI cZ cN cJ lo (b) (by omega) z) kz.1 rfl (fun _ _ _ _ h => h) (fun U hU hW => by show NdP D cI cZ (b) z U.heap; rw [hU]; exact kz) hL hl.1 rfl rfl ⟨⟨Nat.le_of_ble_eq_true rfl, Nat.le_of_ble_eq_true rfl⟩, Nat.le_of_ble_eq_true rfl, Nat.le_of_ble_eq_true rfl⟩ (Nat.le_of_ble_eq_true rfl) d_No_endHearing_57 (fun v H67 locs hp hL => ?_)
    obtain ⟨rfl, k66, S65⟩ := hp
    refine W.eq (g2 := F0 m 60 ls [.int ((f_No_overload z).2)]) rfl ?_
    have hf : R9 = (f_No_overload z) := by rw [← hR]; unfold f_No_endHearing_52; rw [if_pos c61]
    exact hq_iret C hret hlk (Nat.le_of_ble_eq_true rfl) (Nat.le_of_ble_eq_true rfl) hL ⟨by rw [hf], by rw [hf]; exact k66, hq_Scall (hS) S65 (by omega) (by omega)⟩ d_No_endHearing_60
set_option maxHeartbeats 4000000 in
set_option maxRecDepth 100000 in
theorem s_No_endHearing_22 {p : Program} {l : Launch} {e : Env} {s : State} {m : MethodId} {args : Array Value} {below : List Frame} {meth : Method} {c : Code} {H : Heap} {locs : List Loc} {ls : Array Slot} (D : va_G) (cI cZ cN cJ : ClassId) (lo b : Nat) (hlo : lo ≤ b) (z : sNd) (ok : okNd z) (v1 : Int32) {R9 : sNd × Int32} (hR : f_No_endHearing_22 z v1 = R9) (C : hq_C p c s m args R_No b_No_endHearing TB D vwCl (TY cI cZ cN cJ)) (hml : c.maxLocals = 2) (hret : meth.sig.returnType = (some .int)) (hlk : meth.locks = false) (hL : hq_L lo locs) (kz : NdP D cI cZ b z H) (hS : hq_S b 10 s.heap H) (hl : lv_has ls 2 [(0, .ref (b)), (1, .int (v1))]) : W p l e { frames := 3, cells := 0, slots := 0, locals := 72 } s m args below meth c H locs 0 0 (MQ below (hq_Q (fun H v H' => v = some (.int (R9).2) ∧ NdP D cI cZ b (R9).1 H' ∧ hq_S b 10 H H')) args s 0 0 (fun q => lo ≤ q)) (F0 m 22 ls []) := by
  refine lv_aload_n C.1 C.2.1 d_No_endHearing_22 rfl (lv_at hl 0 rfl) ?_
  refine hq_get (v := .ref (b + 9)) C f_No_38 kz.1 rfl d_No_endHearing_23 ?_
  refine hq_get (v := .int (z.r.i)) C f_No_189 kz.2.2.2.2.2 rfl d_No_endHearing_26 ?_
  refine lv_aload_n C.1 C.2.1 d_No_endHearing_29 rfl (lv_at hl 0 rfl) ?_
  refine hq_get (v := .int (z.ma)) C f_No_58 kz.1 rfl d_No_endHearing_30 ?_
  refine lv_iand C.1 C.2.1 d_No_endHearing_33 ?_
  refine lv_aload_n C.1 C.2.1 d_No_endHearing_34 rfl (lv_at hl 0 rfl) ?_
  refine hq_get (v := .int (z.va)) C f_No_61 kz.1 rfl d_No_endHearing_35 ?_
  refine lv_icmp_ne (tgt := 52) C.1 C.2.1 d_No_endHearing_38 (by decide) ?_ ?_
  · intro c61
    exact s_No_endHearing_52 D cI cZ cN cJ lo b hlo z ok v1 (((show f_No_endHearing_22 z v1 = f_No_endHearing_52 z v1 from by unfold f_No_endHearing_22; rw [if_neg c61]).symm).trans hR) C hml hret hlk hL kz (hS) (lv_push (lv_push (lv_nil hl) (lv_at hl 1 rfl)) (lv_at hl 0 rfl))
  · intro c61
    refine lv_aload_n C.1 C.2.1 d_No_endHearing_41 rfl (lv_at hl 0 rfl) ?_
    refine lv_aload_n C.1 C.2.1 d_No_endHearing_42 rfl (lv_at hl 0 rfl) ?_
    refine hq_get (v := .ref (b + 9)) C f_No_38 kz.1 rfl d_No_endHearing_43 ?_
    refine hq_callV (lo := lo) (As := []) (rest := [.ref (b)]) C tb_good hml Y_No_192 (c_Re_frame l D cI cZ cN cJ lo (b + 9) z.r) kz.2.2.2.2.2 rfl (fun _ _ _ _ h => h) (fun U hU hW => by show va_at D vwCl (b + 9, cRe z.r) U.heap; rw [hU]; exact kz.2.2.2.2.2) hL hl.1 rfl rfl ⟨⟨Nat.le_of_ble_eq_true rfl, Nat.le_of_ble_eq_true rfl⟩, Nat.le_of_ble_eq_true rfl, Nat.le_of_ble_eq_true rfl⟩ (Nat.le_of_ble_eq_true rfl) d_No_endHearing_46 (fun v H62 locs hp hL => ?_)
    obtain ⟨rfl, rfl⟩ := hp
    refine W.eq (g2 := F0 m 49 ls [.int ((f_Re_frame z.r)), .ref (b)]) rfl ?_
    refine hq_callV (lo := lo) (As := [.int ((f_Re_frame z.r))]) (rest := []) C tb_good hml Y_No_195 (c_No_keep l D cI cZ cN cJ lo (b) (by omega) z ok ((f_Re_frame z.r))) kz.1 rfl (fun _ _ _ _ h => h) (fun U hU hW => by show NdP D cI cZ (b) z U.heap; rw [hU]; exact kz) hL hl.1 rfl rfl ⟨⟨Nat.le_of_ble_eq_true rfl, Nat.le_of_ble_eq_true rfl⟩, Nat.le_of_ble_eq_true rfl, Nat.le_of_ble_eq_true rfl⟩ (Nat.le_of_ble_eq_true rfl) d_No_endHearing_49 (fun v H65 locs hp hL => ?_)
    obtain ⟨rfl, k64, S63⟩ := hp
    refine W.eq (g2 := F0 m 52 ls []) rfl ?_
    exact s_No_endHearing_52 D cI cZ cN cJ lo b hlo (f_No_keep z ((f_Re_frame z.r))) (ok_keep ok) v1 (((show f_No_endHearing_22 z v1 = f_No_endHearing_52 (f_No_keep z ((f_Re_frame z.r))) v1 from by unfold f_No_endHearing_22; rw [if_pos c61]).symm).trans hR) C hml hret hlk hL k64 (hq_Scall (hS) S63 (by omega) (by omega)) (lv_push (lv_push (lv_nil hl) (lv_at hl 1 rfl)) (lv_at hl 0 rfl))
set_option maxHeartbeats 4000000 in
set_option maxRecDepth 100000 in
theorem c_No_endHearing (l : Launch) (D : va_G) (cI cZ cN cJ : ClassId) (lo : Nat) (b : Nat) (hlo : lo ≤ b) (z : sNd) (ok : okNd z) (x : Int32) : hq_M l y_No_endHearing b_No_endHearing 2 (some .int) TB { frames := 3, cells := 0, slots := 0, locals := 72 } lo D vwCl (TY cI cZ cN cJ) [.ref (b), .int (x)] (fun U => NdP D cI cZ b z U.heap) (fun H v H' => v = some (.int (f_No_endHearing z x).2) ∧ NdP D cI cZ b (f_No_endHearing z x).1 H' ∧ hq_S b 10 H H') := by
  refine hq_ofW (by decide) (Nat.le_of_ble_eq_true rfl) ?_
  intro p e s m below meth c ls C hml hret hlk hnm hl hP
  have hL : hq_L lo [] := hq_L0
  have hl : lv_has ls 2 [(0, .ref (b)), (1, .int (x))] := hl
  have kz := hP
  refine lv_aload_n C.1 C.2.1 d_No_endHearing_0 rfl (lv_at hl 0 rfl) ?_
  refine hq_get (v := .int (z.he)) C f_No_52 kz.1 rfl d_No_endHearing_1 ?_
  refine lv_if_le (tgt := 22) C.1 C.2.1 d_No_endHearing_4 (by decide) ?_ ?_
  · intro c41
    exact s_No_endHearing_22 D cI cZ cN cJ lo b hlo z ok x ((show f_No_endHearing z x = f_No_endHearing_22 z x from by unfold f_No_endHearing; rw [if_pos c41]).symm) C hml hret hlk hL kz (hq_S0) (lv_push (lv_push (lv_nil hl) (lv_at hl 1 rfl)) (lv_at hl 0 rfl))
  · intro c41
    refine lv_aload_n C.1 C.2.1 d_No_endHearing_7 rfl (lv_at hl 0 rfl) ?_
    refine lv_aload_n C.1 C.2.1 d_No_endHearing_8 rfl (lv_at hl 0 rfl) ?_
    refine hq_get (v := .int (z.he)) C f_No_52 kz.1 rfl d_No_endHearing_9 ?_
    refine lv_iconst (v := 1) C.1 C.2.1 d_No_endHearing_12 (by decide) ?_
    refine lv_isub C.1 C.2.1 d_No_endHearing_13 ?_
    refine lv_bipush (v := 127) C.1 C.2.1 d_No_endHearing_14 (by decide) ?_
    refine hq_callS (lo := lo) (As := [.int (z.he - 1), .int (127)]) (rest := [.ref (b)]) C tb_good hml Y_No_183 (c_Ma_min l D cI cZ cN cJ lo (z.he - 1) 127) (fun _ _ _ _ h => h) (fun U hU hW => trivial) hL hl.1 rfl rfl ⟨⟨Nat.le_of_ble_eq_true rfl, Nat.le_of_ble_eq_true rfl⟩, Nat.le_of_ble_eq_true rfl, Nat.le_of_ble_eq_true rfl⟩ (Nat.le_of_ble_eq_true rfl) d_No_endHearing_16 (fun v H42 locs hp hL => ?_)
    obtain ⟨rfl, rfl⟩ := hp
    refine W.eq (g2 := F0 m 19 ls [.int (f_Ma_min (z.he - 1) 127), .ref (b)]) rfl ?_
    refine hq_put (lo := lo) C f_No_52 kz.1 rfl rfl (Nat.le_of_ble_eq_true rfl) hL (by omega) d_No_endHearing_19 (fun H43 locs u44 hL => ?_)
    have k45 : va_at D vwCl (b, .inr (3, [.ref (b + 1), .ref (b + 3), .ref (b + 5), .ref (b + 7), .ref (b + 9), .int (z.st), .int (z.was), .int (z.se), .int (f_Ma_min (z.he - 1) 127), .int (z.lo), .int (z.ma), .int (z.va), .int (z.sp), .int (z.dr), .int (z.pf), .int (z.ss), .int (z.on), .int (z.ro)])) H43 := u44.2.2
    have k46 := hq_au kz.2.1.1 u44 (by omega)
    have k47 := hq_au kz.2.1.2 u44 (by omega)
    have k48 := hq_au kz.2.2.1.1 u44 (by omega)
    have k49 := hq_au kz.2.2.1.2 u44 (by omega)
    have k50 := hq_au kz.2.2.2.1.1 u44 (by omega)
    have k51 := hq_au kz.2.2.2.1.2 u44 (by omega)
    have k52 := hq_au kz.2.2.2.2.1.1 u44 (by omega)
    have k53 := hq_au kz.2.2.2.2.1.2 u44 (by omega)
    have k54 := hq_au kz.2.2.2.2.2 u44 (by omega)
    exact s_No_endHearing_22 D cI cZ cN cJ lo b hlo (sNd.mk z.st z.was z.se (f_Ma_min (z.he - 1) 127) z.lo z.ma z.va z.sp z.dr z.pf z.ss z.on z.ro z.w z.i z.d z.k z.r) ⟨ok.1, ok.2.1, ok.2.2.1, ok.2.2.2⟩ x ((show f_No_endHearing z x = f_No_endHearing_22 (sNd.mk z.st z.was z.se (f_Ma_min (z.he - 1) 127) z.lo z.ma z.va z.sp z.dr z.pf z.ss z.on z.ro z.w z.i z.d z.k z.r) x from by unfold f_No_endHearing; rw [if_neg c41]).symm) C hml hret hlk hL ⟨k45, ⟨k46, k47⟩, ⟨k48, k49⟩, ⟨k50, k51⟩, ⟨k52, k53⟩, k54⟩ (hq_Sput (hq_S0) u44 (by omega) (by omega)) (lv_push (lv_push (lv_nil hl) (lv_at hl 1 rfl)) (lv_at hl 0 rfl))
end
