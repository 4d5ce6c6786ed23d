/-! The law's operations, each with all its cases. -/
theorem l_ix (v : Int32) {n : Nat} (hn : n < 2 ^ 31) : (v < 0 ∨ ¬ v < nI n) ∨ ∃ j : Nat, j < n ∧ v = nI j := by
  rcases pk_ix v hn with h | h | h
  · exact Or.inl (Or.inl h)
  · exact Or.inl (Or.inr (Int32.not_lt.mpr h))
  · exact Or.inr h
theorem l_200 (v : Int32) : (v < 1 ∨ ¬ v ≤ 200) ∨ ∃ i : Nat, 1 ≤ i ∧ i ≤ 200 ∧ v = nI i := by
  rcases l_ix v (n := 201) (by decide) with h | ⟨j, hj, rfl⟩
  · refine Or.inl ?_
    rw [Int32.lt_iff_toInt_lt, Int32.lt_iff_toInt_lt, show (0 : Int32).toInt = 0 from rfl, show (nI 201).toInt = 201 from rfl] at h
    rw [Int32.lt_iff_toInt_lt, Int32.le_iff_toInt_le, show (1 : Int32).toInt = 1 from rfl, show (200 : Int32).toInt = 200 from rfl]
    omega
  · by_cases h0 : j = 0
    · subst h0; exact Or.inl (Or.inl (by decide))
    · exact Or.inr ⟨j, by omega, by omega, rfl⟩
theorem l_5 (v : Int32) : ((v.toInt < 0 ∨ 4 < v.toInt) ∧ (v < 0 ∨ ¬ v ≤ 4)) ∨ ∃ k : Nat, k < 5 ∧ v = nI k := by
  rcases l_ix v (n := 5) (by decide) with h | h
  · refine Or.inl ?_
    rw [Int32.lt_iff_toInt_lt, Int32.lt_iff_toInt_lt, show (0 : Int32).toInt = 0 from rfl, show (nI 5).toInt = 5 from rfl] at h
    rw [Int32.lt_iff_toInt_lt, Int32.le_iff_toInt_le, show (0 : Int32).toInt = 0 from rfl, show (4 : Int32).toInt = 4 from rfl]
    omega
  · exact Or.inr h
theorem l_8 (v : Int32) : ((v < 0 ∨ ¬ v < 8) ∧ (v < 0 ∨ ¬ v ≤ 7)) ∨ ∃ k : Nat, k < 8 ∧ v = nI k := by
  rcases l_ix v (n := 8) (by decide) with h | h
  · refine Or.inl ⟨h, ?_⟩
    rw [Int32.lt_iff_toInt_lt, Int32.lt_iff_toInt_lt, show (0 : Int32).toInt = 0 from rfl, show (nI 8).toInt = 8 from rfl] at h
    rw [Int32.lt_iff_toInt_lt, Int32.le_iff_toInt_le, show (0 : Int32).toInt = 0 from rfl, show (7 : Int32).toInt = 7 from rfl]
    omega
  · exact Or.inr h
theorem ndNI {cI cZ : ClassId} {a : Nat} : ∀ j, j < 10 → ndC cI cZ a (NI 0) R0 j = ndC cI cZ a N0 R0 j := by
  intro j hj
  match j, hj with
  | 0, _ => rfl
  | 1, _ => rfl
  | 2, _ => rfl
  | 3, _ => rfl
  | 4, _ => rfl
  | 5, _ => rfl
  | 6, _ => rfl
  | 7, _ => rfl
  | 8, _ => rfl
  | 9, _ => rfl
  | k + 10, h => omega
section LAWOPS
variable {p : Program} {l : Launch} {e : Env} {s : State} {m : MethodId} {below : List Frame} {meth : Method} {c : Code} {H : Heap} {locs : List Loc} {cells slots : Nat} {D : va_G} {cI cZ cN cJ : ClassId} {b x n mb ob : Nat} {xs : Nat → Int32} {ls : Array Slot} {rest : List Value} {Q : State → Prop} {pc : Nat}
theorem l_PE (hE : hq_E x s) (hO : hq_O x s.heap H) (hBus : busP D cI cZ cN x n (fun _ => N0) (fun _ => R0) (fun _ => 0) (fun _ => 0) H) : ∀ U : State, U.heap = H → s.WarmedH U.vm → (fun U : State => hq_E x U ∧ busP D cI cZ cN x n (fun _ => N0) (fun _ => R0) (fun _ => 0) (fun _ => 0) U.heap) U := fun U hU hW => ⟨hE.move hW (by rw [hU]; exact hO), by show busP D cI cZ cN x n (fun _ => N0) (fun _ => R0) (fun _ => 0) (fun _ => 0) U.heap; rw [hU]; exact hBus⟩
theorem l_PS (hNc : va_Nc "java/lang/IllegalStateException" "java/lang/IllegalArgumentException" s) (hE : hq_E x s) (hO : hq_O x s.heap H) (hBus : busP D cI cZ cN x n (fun _ => N0) (fun _ => R0) (fun _ => 0) (fun _ => 0) H) : ∀ U : State, U.heap = H → s.WarmedH U.vm → (fun U : State => hq_E x U ∧ va_Nc "java/lang/IllegalStateException" "java/lang/IllegalArgumentException" U ∧ busP D cI cZ cN x n (fun _ => N0) (fun _ => R0) (fun _ => 0) (fun _ => 0) U.heap) U := fun U hU hW => ⟨hE.move hW (by rw [hU]; exact hO), hNc.moved hW.alike, by show busP D cI cZ cN x n (fun _ => N0) (fun _ => R0) (fun _ => 0) (fun _ => 0) U.heap; rw [hU]; exact hBus⟩
theorem l_PR (hBus : busP D cI cZ cN x n (fun _ => N0) (fun _ => R0) (fun _ => 0) (fun _ => 0) H) (ko : va_at D vwCl (ob, .inl (cJ, 1, .inr (.inl (fun _ => 0)))) H) : ∀ U : State, U.heap = H → s.WarmedH U.vm → (fun U : State => busP D cI cZ cN x n (fun _ => N0) (fun _ => R0) (fun _ => 0) (fun _ => 0) U.heap ∧ va_at D vwCl (ob, .inl (cJ, 1, .inr (.inl (fun _ => 0)))) U.heap) U := fun U hU hW => by show busP D cI cZ cN x n (fun _ => N0) (fun _ => R0) (fun _ => 0) (fun _ => 0) U.heap ∧ va_at D vwCl (ob, .inl (cJ, 1, .inr (.inl (fun _ => 0)))) U.heap; rw [hU]; exact ⟨hBus, ko⟩
theorem l_PR0 (hBus : busP D cI cZ cN x n (fun _ => N0) (fun _ => R0) (fun _ => 0) (fun _ => 0) H) : ∀ U : State, U.heap = H → s.WarmedH U.vm → (fun U : State => busP D cI cZ cN x n (fun _ => N0) (fun _ => R0) (fun _ => 0) (fun _ => 0) U.heap) U := fun U hU hW => by show busP D cI cZ cN x n (fun _ => N0) (fun _ => R0) (fun _ => 0) (fun _ => 0) U.heap; rw [hU]; exact hBus
theorem l_idle (hBus : busP D cI cZ cN x n (fun _ => N0) (fun _ => R0) (fun _ => 0) (fun _ => 0) H) : (∃ lev tot : Nat → Int32, tot 0 = nI 0 ∧ tot 1 = 0 ∧ busP D cI cZ cN x n (fun _ => NI 0) (fun _ => R0) lev tot H) := ⟨fun _ => 0, fun _ => 0, rfl, rfl, hBus.1, fun i hi => hq_Bm (hBus.2 i hi) ndNI⟩
theorem l_PP (hBus : busP D cI cZ cN x n (fun _ => N0) (fun _ => R0) (fun _ => 0) (fun _ => 0) H) (ko : va_at D vwCl (ob, .inl (cJ, 1, .inr (.inl (fun _ => 0)))) H) : ∀ U : State, U.heap = H → s.WarmedH U.vm → (fun U : State => (∃ lev tot : Nat → Int32, tot 0 = nI 0 ∧ tot 1 = 0 ∧ busP D cI cZ cN x n (fun _ => NI 0) (fun _ => R0) lev tot U.heap) ∧ va_at D vwCl (ob, .inl (cJ, 1, .inr (.inl (fun _ => 0)))) U.heap) U := fun U hU hW => by show (∃ lev tot : Nat → Int32, tot 0 = nI 0 ∧ tot 1 = 0 ∧ busP D cI cZ cN x n (fun _ => NI 0) (fun _ => R0) lev tot U.heap) ∧ va_at D vwCl (ob, .inl (cJ, 1, .inr (.inl (fun _ => 0)))) U.heap; rw [hU]; exact ⟨l_idle hBus, ko⟩
set_option maxHeartbeats 4000000 in
set_option maxRecDepth 100000 in
theorem l_request (C : hq_C p c s m #[Value.ref b] R_L code TB D vwCl (TY cI cZ cN cJ)) (hml : c.maxLocals = 7) (hret : meth.sig.returnType = ret) (hlk : meth.locks = false) (hL : hq_L x locs) (hc : cells ≤ 100) (hs : slots ≤ 10000) (Z : lz D cI cZ cJ b x n mb ob xs s H) (hBus : busP D cI cZ cN x n (fun _ => N0) (fun _ => R0) (fun _ => 0) (fun _ => 0) H) (hl : lv_has ls 7 [(4, .int (1)), (3, .ref (ob)), (2, .ref (mb)), (1, .ref (x)), (0, .ref (b))]) (htr : l.stackTraces = false) (hn : n ≤ 4) (hE : hq_E x s) : W p l e room_1 s m #[Value.ref b] below meth c H locs cells slots (lw_Z below #[Value.ref b] s) (F0 m 100 ls []) := by
  have Z9 := Z
  obtain ⟨hx, hmb, hob, hz, hX, hb, hO, hMd, ko⟩ := Z9
  rcases l_ix (xs 2) (n := n) (by omega) with h | ⟨j, hj, h⟩
  · exact l_request_T C hml hret hlk hL hc hs Z hl 1 (by decide) 0 (P := (fun U : State => hq_E x U ∧ busP D cI cZ cN x n (fun _ => N0) (fun _ => R0) (fun _ => 0) (fun _ => 0) U.heap)) (fun _ _ _ _ h => ⟨hq_E.call h.1, h.2⟩) (l_PE hE hO hBus) (w_request_A l D cI cZ cN cJ x x n (fun _ => N0) (fun _ => R0) (fun _ => 0) (fun _ => 0) ob (xs 2) (xs 3) (xs 4) (xs 5) (t_request_n l D cI cZ cN cJ x htr x n (fun _ => N0) (fun _ => R0) (fun _ => 0) (fun _ => 0) (xs 2) (xs 3) (xs 4) (xs 5) h)) (m_request_n l D cI cZ cN cJ x mb n 0 (by omega) (xs 2) (xs 3) (xs 4) (xs 5) h)
  · by_cases hq : rq (xs 3) (xs 4) (xs 5)
    · exact l_request_R C hml hret hlk hL hc hs Z hl (nI (0 + 1)) (P := (fun U : State => busP D cI cZ cN x n (fun _ => N0) (fun _ => R0) (fun _ => 0) (fun _ => 0) U.heap ∧ va_at D vwCl (ob, .inl (cJ, 1, .inr (.inl (fun _ => 0)))) U.heap)) (fun _ _ _ _ h => h) (l_PR hBus ko) (by rw [h]; exact w_request_R l D cI cZ cN cJ x x n ob (nI j) (xs 3) (xs 4) (xs 5) (nI (0 + 1)) (fun _ => 0) (Nat.le_refl x) (by omega) (fun H => busP D cI cZ cN x n (fun _ => N0) (fun _ => R0) (fun _ => 0) (fun _ => 0) H) (fun H h => h.1 0 (by decide)) (c_request l D cI cZ cN cJ x x n (fun _ => N0) (fun _ => R0) (fun _ => 0) (fun _ => 0) j hn hj 0 (xs 3) (xs 4) (xs 5) (Nat.le_refl x) hq (show ¬ (0 : Int32) = 7 by decide) rfl (by decide))) (by rw [h]; exact m_request_g l D cI cZ cN cJ x mb n 0 (by omega) j hn hj (xs 3) (xs 4) (xs 5) hq)
    · exact l_request_T C hml hret hlk hL hc hs Z hl 1 (by decide) 0 (P := (fun U : State => hq_E x U ∧ busP D cI cZ cN x n (fun _ => N0) (fun _ => R0) (fun _ => 0) (fun _ => 0) U.heap)) (fun _ _ _ _ h => ⟨hq_E.call h.1, h.2⟩) (l_PE hE hO hBus) (by rw [h]; exact w_request_A l D cI cZ cN cJ x x n (fun _ => N0) (fun _ => R0) (fun _ => 0) (fun _ => 0) ob (nI j) (xs 3) (xs 4) (xs 5) (t_request_f l D cI cZ cN cJ x htr x n (fun _ => N0) (fun _ => R0) (fun _ => 0) (fun _ => 0) j hn hj (xs 3) (xs 4) (xs 5) hq)) (by rw [h]; exact m_request_f l D cI cZ cN cJ x mb n 0 (by omega) j hn hj (xs 3) (xs 4) (xs 5) hq)
set_option maxHeartbeats 4000000 in
set_option maxRecDepth 100000 in
theorem l_filter (C : hq_C p c s m #[Value.ref b] R_L code TB D vwCl (TY cI cZ cN cJ)) (hml : c.maxLocals = 7) (hret : meth.sig.returnType = ret) (hlk : meth.locks = false) (hL : hq_L x locs) (hc : cells ≤ 100) (hs : slots ≤ 10000) (Z : lz D cI cZ cJ b x n mb ob xs s H) (hBus : busP D cI cZ cN x n (fun _ => N0) (fun _ => R0) (fun _ => 0) (fun _ => 0) H) (hl : lv_has ls 7 [(4, .int (1)), (3, .ref (ob)), (2, .ref (mb)), (1, .ref (x)), (0, .ref (b))]) (htr : l.stackTraces = false) (hn : n ≤ 4) (hE : hq_E x s) : W p l e room_1 s m #[Value.ref b] below meth c H locs cells slots (lw_Z below #[Value.ref b] s) (F0 m 192 ls []) := by
  have Z9 := Z
  obtain ⟨hx, hmb, hob, hz, hX, hb, hO, hMd, ko⟩ := Z9
  rcases l_ix (xs 2) (n := n) (by omega) with h | ⟨j, hj, h⟩
  · exact l_filter_T C hml hret hlk hL hc hs Z hl 1 (by decide) (P := (fun U : State => hq_E x U ∧ busP D cI cZ cN x n (fun _ => N0) (fun _ => R0) (fun _ => 0) (fun _ => 0) U.heap)) (fun _ _ _ _ h => ⟨hq_E.call h.1, h.2⟩) (l_PE hE hO hBus) (w_filter_A l D cI cZ cN cJ x x n (fun _ => N0) (fun _ => R0) (fun _ => 0) (fun _ => 0) (xs 2) (xs 3) (xs 4) (t_filter_n l D cI cZ cN cJ x htr x n (fun _ => N0) (fun _ => R0) (fun _ => 0) (fun _ => 0) (xs 2) (xs 3) (xs 4) h)) (m_filter_n l D cI cZ cN cJ x mb n 0 (by omega) (xs 2) (xs 3) (xs 4) h)
  · by_cases hq : ¬ el (xs 3) = 0 ∧ ¬ el (xs 4) = 0
    · exact l_filter_R C hml hret hlk hL hc hs Z hl (P := (fun U : State => busP D cI cZ cN x n (fun _ => N0) (fun _ => R0) (fun _ => 0) (fun _ => 0) U.heap)) (fun _ _ _ _ h => h) (l_PR0 hBus) (by rw [h]; exact w_filter_R l D cI cZ cN cJ x x n (nI j) (xs 3) (xs 4) (Nat.le_refl x) (fun H => busP D cI cZ cN x n (fun _ => N0) (fun _ => R0) (fun _ => 0) (fun _ => 0) H) (fun H h => h.1 0 (by decide)) (c_filter l D cI cZ cN cJ x x n (fun _ => N0) (fun _ => R0) (fun _ => 0) (fun _ => 0) j hn hj (xs 3) (xs 4) (Nat.le_refl x) hq.1 hq.2)) (by rw [h]; exact m_filter_g l D cI cZ cN cJ x mb n 0 (by omega) j hn hj (xs 3) (xs 4) hq.1 hq.2)
    · exact l_filter_T C hml hret hlk hL hc hs Z hl 1 (by decide) (P := (fun U : State => hq_E x U ∧ busP D cI cZ cN x n (fun _ => N0) (fun _ => R0) (fun _ => 0) (fun _ => 0) U.heap)) (fun _ _ _ _ h => ⟨hq_E.call h.1, h.2⟩) (l_PE hE hO hBus) (by rw [h]; exact w_filter_A l D cI cZ cN cJ x x n (fun _ => N0) (fun _ => R0) (fun _ => 0) (fun _ => 0) (nI j) (xs 3) (xs 4) (t_filter_f l D cI cZ cN cJ x htr x n (fun _ => N0) (fun _ => R0) (fun _ => 0) (fun _ => 0) j hn hj (xs 3) (xs 4) hq)) (by rw [h]; exact m_filter_f l D cI cZ cN cJ x mb n 0 (by omega) j hn hj (xs 3) (xs 4) hq)
set_option maxHeartbeats 4000000 in
set_option maxRecDepth 100000 in
theorem l_disturb (C : hq_C p c s m #[Value.ref b] R_L code TB D vwCl (TY cI cZ cN cJ)) (hml : c.maxLocals = 7) (hret : meth.sig.returnType = ret) (hlk : meth.locks = false) (hL : hq_L x locs) (hc : cells ≤ 100) (hs : slots ≤ 10000) (Z : lz D cI cZ cJ b x n mb ob xs s H) (hBus : busP D cI cZ cN x n (fun _ => N0) (fun _ => R0) (fun _ => 0) (fun _ => 0) H) (hl : lv_has ls 7 [(4, .int (1)), (3, .ref (ob)), (2, .ref (mb)), (1, .ref (x)), (0, .ref (b))]) (htr : l.stackTraces = false) (hn : n ≤ 4) (hE : hq_E x s) : W p l e room_1 s m #[Value.ref b] below meth c H locs cells slots (lw_Z below #[Value.ref b] s) (F0 m 252 ls []) := by
  have Z9 := Z
  obtain ⟨hx, hmb, hob, hz, hX, hb, hO, hMd, ko⟩ := Z9
  rcases l_ix (xs 2) (n := n) (by omega) with h | ⟨j, hj, h⟩
  · exact l_disturb_T C hml hret hlk hL hc hs Z hl 1 (by decide) (P := (fun U : State => hq_E x U ∧ busP D cI cZ cN x n (fun _ => N0) (fun _ => R0) (fun _ => 0) (fun _ => 0) U.heap)) (fun _ _ _ _ h => ⟨hq_E.call h.1, h.2⟩) (l_PE hE hO hBus) (w_disturb_A l D cI cZ cN cJ x x n (fun _ => N0) (fun _ => R0) (fun _ => 0) (fun _ => 0) (xs 2) (xs 3) (t_disturb_n l D cI cZ cN cJ x htr x n (fun _ => N0) (fun _ => R0) (fun _ => 0) (fun _ => 0) (xs 2) (xs 3) h)) (m_disturb_n l D cI cZ cN cJ x mb n 0 (by omega) (xs 2) (xs 3) h)
  · rcases l_200 (xs 3) with g | ⟨i, h1, h2, g⟩
    · exact l_disturb_T C hml hret hlk hL hc hs Z hl 1 (by decide) (P := (fun U : State => hq_E x U ∧ busP D cI cZ cN x n (fun _ => N0) (fun _ => R0) (fun _ => 0) (fun _ => 0) U.heap)) (fun _ _ _ _ h => ⟨hq_E.call h.1, h.2⟩) (l_PE hE hO hBus) (by rw [h]; exact w_disturb_A l D cI cZ cN cJ x x n (fun _ => N0) (fun _ => R0) (fun _ => 0) (fun _ => 0) (nI j) (xs 3) (t_disturb_f l D cI cZ cN cJ x htr x n (fun _ => N0) (fun _ => R0) (fun _ => 0) (fun _ => 0) j hn hj (xs 3) g)) (by rw [h]; exact m_disturb_f l D cI cZ cN cJ x mb n 0 (by omega) j hn hj (xs 3) g)
    · exact l_disturb_R C hml hret hlk hL hc hs Z hl (P := (fun U : State => busP D cI cZ cN x n (fun _ => N0) (fun _ => R0) (fun _ => 0) (fun _ => 0) U.heap)) (fun _ _ _ _ h => h) (l_PR0 hBus) (by rw [h, g]; exact w_disturb_R l D cI cZ cN cJ x x n (nI j) (nI i) (Nat.le_refl x) (fun H => busP D cI cZ cN x n (fun _ => N0) (fun _ => R0) (fun _ => 0) (fun _ => 0) H) (fun H h => h.1 0 (by decide)) (c_disturb l D cI cZ cN cJ x x n (fun _ => N0) (fun _ => R0) (fun _ => 0) (fun _ => 0) j hn hj 0 i (Nat.le_refl x) rfl (by decide) h1 h2)) (by rw [h, g]; exact m_disturb_g l D cI cZ cN cJ x mb n 0 (by omega) j hn hj i h1 h2)
set_option maxHeartbeats 4000000 in
set_option maxRecDepth 100000 in
theorem l_pass (C : hq_C p c s m #[Value.ref b] R_L code TB D vwCl (TY cI cZ cN cJ)) (hml : c.maxLocals = 7) (hret : meth.sig.returnType = ret) (hlk : meth.locks = false) (hL : hq_L x locs) (hc : cells ≤ 100) (hs : slots ≤ 10000) (Z : lz D cI cZ cJ b x n mb ob xs s H) (hBus : busP D cI cZ cN x n (fun _ => N0) (fun _ => R0) (fun _ => 0) (fun _ => 0) H) (hl : lv_has ls 7 [(4, .int (1)), (3, .ref (ob)), (2, .ref (mb)), (1, .ref (x)), (0, .ref (b))]) (htr : l.stackTraces = false) (hn : n ≤ 4) (hE : hq_E x s) : W p l e room_1 s m #[Value.ref b] below meth c H locs cells slots (lw_Z below #[Value.ref b] s) (F0 m 300 ls []) := by
  have Z9 := Z
  obtain ⟨hx, hmb, hob, hz, hX, hb, hO, hMd, ko⟩ := Z9
  rcases l_200 (xs 2) with g | ⟨i, h1, h2, g⟩
  · exact l_pass_T C hml hret hlk hL hc hs Z hl 1 (by decide) 0 (P := (fun U : State => hq_E x U ∧ busP D cI cZ cN x n (fun _ => N0) (fun _ => R0) (fun _ => 0) (fun _ => 0) U.heap)) (fun _ _ _ _ h => ⟨hq_E.call h.1, h.2⟩) (l_PE hE hO hBus) (w_pass_A l D cI cZ cN cJ x x n (fun _ => N0) (fun _ => R0) (fun _ => 0) (fun _ => 0) ob (xs 2) (t_pass l D cI cZ cN cJ x htr x n (fun _ => N0) (fun _ => R0) (fun _ => 0) (fun _ => 0) (xs 2) g)) (m_pass_f l D cI cZ cN cJ x mb n (xs 2) (by omega) g)
  · exact l_pass_R C hml hret hlk hL hc hs Z hl (0) (P := (fun U : State => (∃ lev tot : Nat → Int32, tot 0 = nI 0 ∧ tot 1 = 0 ∧ busP D cI cZ cN x n (fun _ => NI 0) (fun _ => R0) lev tot U.heap) ∧ va_at D vwCl (ob, .inl (cJ, 1, .inr (.inl (fun _ => 0)))) U.heap)) (fun _ _ _ _ h => h) (l_PP hBus ko) (by rw [g]; exact w_pass_R l D cI cZ cN cJ x x n ob (nI i) (0) (fun _ => 0) (Nat.le_refl x) (by omega) (fun H => (∃ lev tot : Nat → Int32, tot 0 = nI 0 ∧ tot 1 = 0 ∧ busP D cI cZ cN x n (fun _ => NI 0) (fun _ => R0) lev tot H)) (fun H h => by obtain ⟨lev, tot, -, -, h⟩ := h; exact h.1 0 (by decide)) (c_pass l D cI cZ cN cJ x x n i (Nat.le_refl x) hn h1 h2)) (by rw [g]; exact m_pass_g l D cI cZ cN cJ x mb n i (by omega) hn h1 h2)
set_option maxHeartbeats 4000000 in
set_option maxRecDepth 100000 in
theorem l_state (C : hq_C p c s m #[Value.ref b] R_L code TB D vwCl (TY cI cZ cN cJ)) (hml : c.maxLocals = 7) (hret : meth.sig.returnType = ret) (hlk : meth.locks = false) (hL : hq_L x locs) (hc : cells ≤ 100) (hs : slots ≤ 10000) (Z : lz D cI cZ cJ b x n mb ob xs s H) (hBus : busP D cI cZ cN x n (fun _ => N0) (fun _ => R0) (fun _ => 0) (fun _ => 0) H) (hl : lv_has ls 7 [(4, .int (1)), (3, .ref (ob)), (2, .ref (mb)), (1, .ref (x)), (0, .ref (b))]) (htr : l.stackTraces = false) (hn : n ≤ 4) (hE : hq_E x s) : W p l e room_1 s m #[Value.ref b] below meth c H locs cells slots (lw_Z below #[Value.ref b] s) (F0 m 381 ls []) := by
  have Z9 := Z
  obtain ⟨hx, hmb, hob, hz, hX, hb, hO, hMd, ko⟩ := Z9
  rcases l_ix (xs 2) (n := n) (by omega) with h | ⟨j, hj, h⟩
  · exact l_state_T C hml hret hlk hL hc hs Z hl 1 (by decide) 0 (P := (fun U : State => hq_E x U ∧ busP D cI cZ cN x n (fun _ => N0) (fun _ => R0) (fun _ => 0) (fun _ => 0) U.heap)) (fun _ _ _ _ h => ⟨hq_E.call h.1, h.2⟩) (l_PE hE hO hBus) (w_state_A l D cI cZ cN cJ x x n (fun _ => N0) (fun _ => R0) (fun _ => 0) (fun _ => 0) ob (xs 2) (t_state_n l D cI cZ cN cJ x htr x n (fun _ => N0) (fun _ => R0) (fun _ => 0) (fun _ => 0) (xs 2) h)) (m_state_n l D cI cZ cN cJ x mb n 0 (by omega) (xs 2) h)
  · exact l_state_R C hml hret hlk hL hc hs Z hl (0) (P := (fun U : State => busP D cI cZ cN x n (fun _ => N0) (fun _ => R0) (fun _ => 0) (fun _ => 0) U.heap ∧ va_at D vwCl (ob, .inl (cJ, 1, .inr (.inl (fun _ => 0)))) U.heap)) (fun _ _ _ _ h => h) (l_PR hBus ko) (by rw [h]; exact w_state_R l D cI cZ cN cJ x x n ob (nI j) (0) (fun _ => 0) (Nat.le_refl x) (by omega) (fun H => busP D cI cZ cN x n (fun _ => N0) (fun _ => R0) (fun _ => 0) (fun _ => 0) H) (fun H h => h.1 0 (by decide)) (c_state l D cI cZ cN cJ x x n (fun _ => N0) (fun _ => R0) (fun _ => 0) (fun _ => 0) j hn hj )) (by rw [h]; exact m_state_g l D cI cZ cN cJ x mb n 0 (by omega) j hn hj )
set_option maxHeartbeats 4000000 in
set_option maxRecDepth 100000 in
theorem l_count (C : hq_C p c s m #[Value.ref b] R_L code TB D vwCl (TY cI cZ cN cJ)) (hml : c.maxLocals = 7) (hret : meth.sig.returnType = ret) (hlk : meth.locks = false) (hL : hq_L x locs) (hc : cells ≤ 100) (hs : slots ≤ 10000) (Z : lz D cI cZ cJ b x n mb ob xs s H) (hBus : busP D cI cZ cN x n (fun _ => N0) (fun _ => R0) (fun _ => 0) (fun _ => 0) H) (hl : lv_has ls 7 [(4, .int (1)), (3, .ref (ob)), (2, .ref (mb)), (1, .ref (x)), (0, .ref (b))]) (htr : l.stackTraces = false) (hn : n ≤ 4) (hE : hq_E x s) : W p l e room_1 s m #[Value.ref b] below meth c H locs cells slots (lw_Z below #[Value.ref b] s) (F0 m 437 ls []) := by
  have Z9 := Z
  obtain ⟨hx, hmb, hob, hz, hX, hb, hO, hMd, ko⟩ := Z9
  rcases l_ix (xs 2) (n := n) (by omega) with h | ⟨j, hj, h⟩
  · exact l_count_T C hml hret hlk hL hc hs Z hl 1 (by decide) 0 (P := (fun U : State => hq_E x U ∧ busP D cI cZ cN x n (fun _ => N0) (fun _ => R0) (fun _ => 0) (fun _ => 0) U.heap)) (fun _ _ _ _ h => ⟨hq_E.call h.1, h.2⟩) (l_PE hE hO hBus) (w_count_A l D cI cZ cN cJ x x n (fun _ => N0) (fun _ => R0) (fun _ => 0) (fun _ => 0) ob (xs 2) (xs 3) (t_count_n l D cI cZ cN cJ x htr x n (fun _ => N0) (fun _ => R0) (fun _ => 0) (fun _ => 0) (xs 2) (xs 3) h)) (m_count_n l D cI cZ cN cJ x mb n 0 (by omega) (xs 2) (xs 3) h)
  · rcases l_5 (xs 3) with g | ⟨k, hk, g⟩
    · exact l_count_T C hml hret hlk hL hc hs Z hl 1 (by decide) 0 (P := (fun U : State => hq_E x U ∧ busP D cI cZ cN x n (fun _ => N0) (fun _ => R0) (fun _ => 0) (fun _ => 0) U.heap)) (fun _ _ _ _ h => ⟨hq_E.call h.1, h.2⟩) (l_PE hE hO hBus) (by rw [h]; exact w_count_A l D cI cZ cN cJ x x n (fun _ => N0) (fun _ => R0) (fun _ => 0) (fun _ => 0) ob (nI j) (xs 3) (t_count_f l D cI cZ cN cJ x htr x n (fun _ => N0) (fun _ => R0) (fun _ => 0) (fun _ => 0) j hn hj (xs 3) g.1)) (by rw [h]; exact m_count_f l D cI cZ cN cJ x mb n 0 (by omega) j hn hj (xs 3) g.2)
    · have hk9 : k = 0 ∨ k = 1 ∨ k = 2 ∨ k = 3 ∨ k = 4 := by omega
      rcases hk9 with rfl | rfl | rfl | rfl | rfl
      · exact l_count_R C hml hret hlk hL hc hs Z hl (0) (P := (fun U : State => busP D cI cZ cN x n (fun _ => N0) (fun _ => R0) (fun _ => 0) (fun _ => 0) U.heap ∧ va_at D vwCl (ob, .inl (cJ, 1, .inr (.inl (fun _ => 0)))) U.heap)) (fun _ _ _ _ h => h) (l_PR hBus ko) (by rw [h, g]; exact w_count_R l D cI cZ cN cJ x x n ob (nI j) (nI 0) (0) (fun _ => 0) (Nat.le_refl x) (by omega) (fun H => busP D cI cZ cN x n (fun _ => N0) (fun _ => R0) (fun _ => 0) (fun _ => 0) H) (fun H h => h.1 0 (by decide)) (c_count_0 l D cI cZ cN cJ x x n (fun _ => N0) (fun _ => R0) (fun _ => 0) (fun _ => 0) j hn hj )) (by rw [h, g]; exact m_count_0 l D cI cZ cN cJ x mb n 0 (by omega) j hn hj )
      · exact l_count_R C hml hret hlk hL hc hs Z hl (0) (P := (fun U : State => busP D cI cZ cN x n (fun _ => N0) (fun _ => R0) (fun _ => 0) (fun _ => 0) U.heap ∧ va_at D vwCl (ob, .inl (cJ, 1, .inr (.inl (fun _ => 0)))) U.heap)) (fun _ _ _ _ h => h) (l_PR hBus ko) (by rw [h, g]; exact w_count_R l D cI cZ cN cJ x x n ob (nI j) (nI 1) (0) (fun _ => 0) (Nat.le_refl x) (by omega) (fun H => busP D cI cZ cN x n (fun _ => N0) (fun _ => R0) (fun _ => 0) (fun _ => 0) H) (fun H h => h.1 0 (by decide)) (c_count_1 l D cI cZ cN cJ x x n (fun _ => N0) (fun _ => R0) (fun _ => 0) (fun _ => 0) j hn hj )) (by rw [h, g]; exact m_count_1 l D cI cZ cN cJ x mb n 0 (by omega) j hn hj )
      · exact l_count_R C hml hret hlk hL hc hs Z hl (0) (P := (fun U : State => busP D cI cZ cN x n (fun _ => N0) (fun _ => R0) (fun _ => 0) (fun _ => 0) U.heap ∧ va_at D vwCl (ob, .inl (cJ, 1, .inr (.inl (fun _ => 0)))) U.heap)) (fun _ _ _ _ h => h) (l_PR hBus ko) (by rw [h, g]; exact w_count_R l D cI cZ cN cJ x x n ob (nI j) (nI 2) (0) (fun _ => 0) (Nat.le_refl x) (by omega) (fun H => busP D cI cZ cN x n (fun _ => N0) (fun _ => R0) (fun _ => 0) (fun _ => 0) H) (fun H h => h.1 0 (by decide)) (c_count_2 l D cI cZ cN cJ x x n (fun _ => N0) (fun _ => R0) (fun _ => 0) (fun _ => 0) j hn hj )) (by rw [h, g]; exact m_count_2 l D cI cZ cN cJ x mb n 0 (by omega) j hn hj )
      · exact l_count_R C hml hret hlk hL hc hs Z hl (0) (P := (fun U : State => busP D cI cZ cN x n (fun _ => N0) (fun _ => R0) (fun _ => 0) (fun _ => 0) U.heap ∧ va_at D vwCl (ob, .inl (cJ, 1, .inr (.inl (fun _ => 0)))) U.heap)) (fun _ _ _ _ h => h) (l_PR hBus ko) (by rw [h, g]; exact w_count_R l D cI cZ cN cJ x x n ob (nI j) (nI 3) (0) (fun _ => 0) (Nat.le_refl x) (by omega) (fun H => busP D cI cZ cN x n (fun _ => N0) (fun _ => R0) (fun _ => 0) (fun _ => 0) H) (fun H h => h.1 0 (by decide)) (c_count_3 l D cI cZ cN cJ x x n (fun _ => N0) (fun _ => R0) (fun _ => 0) (fun _ => 0) j hn hj )) (by rw [h, g]; exact m_count_3 l D cI cZ cN cJ x mb n 0 (by omega) j hn hj )
      · exact l_count_R C hml hret hlk hL hc hs Z hl (0) (P := (fun U : State => busP D cI cZ cN x n (fun _ => N0) (fun _ => R0) (fun _ => 0) (fun _ => 0) U.heap ∧ va_at D vwCl (ob, .inl (cJ, 1, .inr (.inl (fun _ => 0)))) U.heap)) (fun _ _ _ _ h => h) (l_PR hBus ko) (by rw [h, g]; exact w_count_R l D cI cZ cN cJ x x n ob (nI j) (nI 4) (0) (fun _ => 0) (Nat.le_refl x) (by omega) (fun H => busP D cI cZ cN x n (fun _ => N0) (fun _ => R0) (fun _ => 0) (fun _ => 0) H) (fun H h => h.1 0 (by decide)) (c_count_4 l D cI cZ cN cJ x x n (fun _ => N0) (fun _ => R0) (fun _ => 0) (fun _ => 0) j hn hj )) (by rw [h, g]; exact m_count_4 l D cI cZ cN cJ x mb n 0 (by omega) j hn hj )
set_option maxHeartbeats 4000000 in
set_option maxRecDepth 100000 in
theorem l_take (C : hq_C p c s m #[Value.ref b] R_L code TB D vwCl (TY cI cZ cN cJ)) (hml : c.maxLocals = 7) (hret : meth.sig.returnType = ret) (hlk : meth.locks = false) (hL : hq_L x locs) (hc : cells ≤ 100) (hs : slots ≤ 10000) (Z : lz D cI cZ cJ b x n mb ob xs s H) (hBus : busP D cI cZ cN x n (fun _ => N0) (fun _ => R0) (fun _ => 0) (fun _ => 0) H) (hl : lv_has ls 7 [(4, .int (1)), (3, .ref (ob)), (2, .ref (mb)), (1, .ref (x)), (0, .ref (b))]) (htr : l.stackTraces = false) (hn : n ≤ 4) (hE : hq_E x s) (hNc : va_Nc "java/lang/IllegalStateException" "java/lang/IllegalArgumentException" s) : W p l e room_1 s m #[Value.ref b] below meth c H locs cells slots (lw_Z below #[Value.ref b] s) (F0 m 505 ls []) := by
  have Z9 := Z
  obtain ⟨hx, hmb, hob, hz, hX, hb, hO, hMd, ko⟩ := Z9
  rcases l_ix (xs 2) (n := n) (by omega) with h | ⟨j, hj, h⟩
  · exact l_take_T C hml hret hlk hL hc hs Z hl 1 (by decide) 0 (P := (fun U : State => hq_E x U ∧ busP D cI cZ cN x n (fun _ => N0) (fun _ => R0) (fun _ => 0) (fun _ => 0) U.heap)) (fun _ _ _ _ h => ⟨hq_E.call h.1, h.2⟩) (l_PE hE hO hBus) (w_take_A l D cI cZ cN cJ x x n (fun _ => N0) (fun _ => R0) (fun _ => 0) (fun _ => 0) ob (xs 2) (t_take_n l D cI cZ cN cJ x htr x n (fun _ => N0) (fun _ => R0) (fun _ => 0) (fun _ => 0) (xs 2) h)) (m_take_n l D cI cZ cN cJ x mb n 0 (by omega) (xs 2) h)
  · exact l_take_T C hml hret hlk hL hc hs Z hl 2 (by decide) 0 (P := (fun U : State => hq_E x U ∧ va_Nc "java/lang/IllegalStateException" "java/lang/IllegalArgumentException" U ∧ busP D cI cZ cN x n (fun _ => N0) (fun _ => R0) (fun _ => 0) (fun _ => 0) U.heap)) (fun _ _ _ _ h => ⟨hq_E.call h.1, h.2⟩) (l_PS hNc hE hO hBus) (by rw [h]; exact w_take_S l D cI cZ cN cJ x x n (fun _ => N0) (fun _ => R0) (fun _ => 0) (fun _ => 0) ob (nI j) (t_take_e l D cI cZ cN cJ x htr x n (fun _ => N0) (fun _ => R0) (fun _ => 0) (fun _ => 0) j hn hj rfl)) (by rw [h]; exact m_take_g l D cI cZ cN cJ x mb n 0 (by omega) j hn hj )
set_option maxHeartbeats 4000000 in
set_option maxRecDepth 100000 in
theorem l_total (C : hq_C p c s m #[Value.ref b] R_L code TB D vwCl (TY cI cZ cN cJ)) (hml : c.maxLocals = 7) (hret : meth.sig.returnType = ret) (hlk : meth.locks = false) (hL : hq_L x locs) (hc : cells ≤ 100) (hs : slots ≤ 10000) (Z : lz D cI cZ cJ b x n mb ob xs s H) (hBus : busP D cI cZ cN x n (fun _ => N0) (fun _ => R0) (fun _ => 0) (fun _ => 0) H) (hl : lv_has ls 7 [(4, .int (1)), (3, .ref (ob)), (2, .ref (mb)), (1, .ref (x)), (0, .ref (b))]) (htr : l.stackTraces = false) (hn : n ≤ 4) (hE : hq_E x s) : W p l e room_1 s m #[Value.ref b] below meth c H locs cells slots (lw_Z below #[Value.ref b] s) (F0 m 561 ls []) := by
  have Z9 := Z
  obtain ⟨hx, hmb, hob, hz, hX, hb, hO, hMd, ko⟩ := Z9
  rcases l_8 (xs 2) with g | ⟨k, hk, g⟩
  · exact l_total_T C hml hret hlk hL hc hs Z hl 1 (by decide) 0 (P := (fun U : State => hq_E x U ∧ busP D cI cZ cN x n (fun _ => N0) (fun _ => R0) (fun _ => 0) (fun _ => 0) U.heap)) (fun _ _ _ _ h => ⟨hq_E.call h.1, h.2⟩) (l_PE hE hO hBus) (w_total_A l D cI cZ cN cJ x x n (fun _ => N0) (fun _ => R0) (fun _ => 0) (fun _ => 0) ob (xs 2) (t_total l D cI cZ cN cJ x htr x n (fun _ => N0) (fun _ => R0) (fun _ => 0) (fun _ => 0) (xs 2) g.1)) (m_total_f l D cI cZ cN cJ x mb n 0 (by omega) (xs 2) g.2)
  · exact l_total_R C hml hret hlk hL hc hs Z hl (0) (P := (fun U : State => busP D cI cZ cN x n (fun _ => N0) (fun _ => R0) (fun _ => 0) (fun _ => 0) U.heap ∧ va_at D vwCl (ob, .inl (cJ, 1, .inr (.inl (fun _ => 0)))) U.heap)) (fun _ _ _ _ h => h) (l_PR hBus ko) (by rw [g]; exact w_total_R l D cI cZ cN cJ x x n ob (nI k) (0) (fun _ => 0) (Nat.le_refl x) (by omega) (fun H => busP D cI cZ cN x n (fun _ => N0) (fun _ => R0) (fun _ => 0) (fun _ => 0) H) (fun H h => h.1 0 (by decide)) (c_total l D cI cZ cN cJ x x n (fun _ => N0) (fun _ => R0) (fun _ => 0) (fun _ => 0) k hk)) (by rw [g]; exact m_total_g l D cI cZ cN cJ x mb n 0 (by omega) k hk)
set_option maxHeartbeats 4000000 in
set_option maxRecDepth 100000 in
theorem l_switch (C : hq_C p c s m #[Value.ref b] R_L code TB D vwCl (TY cI cZ cN cJ)) (hml : c.maxLocals = 7) (hret : meth.sig.returnType = ret) (hlk : meth.locks = false) (hL : hq_L x locs) (hc : cells ≤ 100) (hs : slots ≤ 10000) (Z : lz D cI cZ cJ b x n mb ob xs s H) (hBus : busP D cI cZ cN x n (fun _ => N0) (fun _ => R0) (fun _ => 0) (fun _ => 0) H) (hl : lv_has ls 7 [(4, .int (1)), (3, .ref (ob)), (2, .ref (mb)), (1, .ref (x)), (0, .ref (b))]) (htr : l.stackTraces = false) (hn : n ≤ 4) (hE : hq_E x s) (hNc : va_Nc "java/lang/IllegalStateException" "java/lang/IllegalArgumentException" s) : W p l e room_1 s m #[Value.ref b] below meth c H locs cells slots (lw_Z below #[Value.ref b] s) (F0 m 49 ls [.int (xs 1 &&& 15)]) := by
  have Z9 := Z
  obtain ⟨hx, hmb, hob, hz, hX, hb, hO, hMd, ko⟩ := Z9
  obtain ⟨k, hk, hk2⟩ := pk_andE (xs 1) (m := 15) 4 (by decide)
  rw [hk2]
  by_cases h9 : 9 ≤ k
  · refine lv_tableOut (tgt := 617) C.1 C.2.1 d_law_49 (Or.inr (by rw [nI_toInt (by omega)]; omega)) (by decide) ?_
    exact l_next C hml hret hlk hx hL (by omega) (by omega) hX hb hO hl
  · have hk9 : k = 0 ∨ k = 1 ∨ k = 2 ∨ k = 3 ∨ k = 4 ∨ k = 5 ∨ k = 6 ∨ k = 7 ∨ k = 8 := by omega
    rcases hk9 with rfl | rfl | rfl | rfl | rfl | rfl | rfl | rfl | rfl
    · refine lv_tableIn (tgt := 100) C.1 C.2.1 d_law_49 (by decide) (by decide) (off := 51) (by decide) (by decide) ?_
      exact l_request C hml hret hlk hL hc hs Z hBus hl htr hn hE
    · refine lv_tableIn (tgt := 192) C.1 C.2.1 d_law_49 (by decide) (by decide) (off := 143) (by decide) (by decide) ?_
      exact l_filter C hml hret hlk hL hc hs Z hBus hl htr hn hE
    · refine lv_tableIn (tgt := 252) C.1 C.2.1 d_law_49 (by decide) (by decide) (off := 203) (by decide) (by decide) ?_
      exact l_disturb C hml hret hlk hL hc hs Z hBus hl htr hn hE
    · refine lv_tableIn (tgt := 300) C.1 C.2.1 d_law_49 (by decide) (by decide) (off := 251) (by decide) (by decide) ?_
      exact l_pass C hml hret hlk hL hc hs Z hBus hl htr hn hE
    · refine lv_tableIn (tgt := 356) C.1 C.2.1 d_law_49 (by decide) (by decide) (off := 307) (by decide) (by decide) ?_
      exact l_level C hml hret hlk hL hc hs Z hBus hl
    · refine lv_tableIn (tgt := 381) C.1 C.2.1 d_law_49 (by decide) (by decide) (off := 332) (by decide) (by decide) ?_
      exact l_state C hml hret hlk hL hc hs Z hBus hl htr hn hE
    · refine lv_tableIn (tgt := 437) C.1 C.2.1 d_law_49 (by decide) (by decide) (off := 388) (by decide) (by decide) ?_
      exact l_count C hml hret hlk hL hc hs Z hBus hl htr hn hE
    · refine lv_tableIn (tgt := 505) C.1 C.2.1 d_law_49 (by decide) (by decide) (off := 456) (by decide) (by decide) ?_
      exact l_take C hml hret hlk hL hc hs Z hBus hl htr hn hE hNc
    · refine lv_tableIn (tgt := 561) C.1 C.2.1 d_law_49 (by decide) (by decide) (off := 512) (by decide) (by decide) ?_
      exact l_total C hml hret hlk hL hc hs Z hBus hl htr hn hE
set_option maxHeartbeats 4000000 in
set_option maxRecDepth 100000 in
theorem l_head {L : Nat} (C : hq_C p c s m #[Value.ref b] R_L code TB D vwCl (TY cI cZ cN cJ)) (hml : c.maxLocals = 7) (hret : meth.sig.returnType = ret) (hlk : meth.locks = false) (hL : hq_L x locs) (hc : cells ≤ 100) (hs : slots ≤ 10000) (hx : s.heap.size = x) (hmb : mb = x + 4 + 10 * n) (hob : ob = mb + 31) (hz : H.size = ob + 1) (hXL : va_X b L xs s s.heap) (hL6 : L ≤ 6) (hb : b < x) (hO : hq_O x s.heap H) (hMd : hq_B D vwCl mb 31 (mdC cI cZ mb 0 (nI n) (fun _ _ => 0)) H) (ko : va_at D vwCl (ob, .inl (cJ, 1, .inr (.inl (fun _ => 0)))) H) (hBus : busP D cI cZ cN x n (fun _ => N0) (fun _ => R0) (fun _ => 0) (fun _ => 0) H) (hl : lv_has ls 7 [(4, .int (1)), (3, .ref (ob)), (2, .ref (mb)), (1, .ref (x)), (0, .ref (b))]) (htr : l.stackTraces = false) (hn : n ≤ 4) (hE : hq_E x s) (hNc : va_Nc "java/lang/IllegalStateException" "java/lang/IllegalArgumentException" s) : W p l e room_1 s m #[Value.ref b] below meth c H locs cells slots (lw_Z below #[Value.ref b] s) (F0 m 33 ls []) := by
  refine lv_iload C.1 C.2.1 d_law_33 (lv_at hl 0 rfl) ?_
  refine lv_aload_n C.1 C.2.1 d_law_35 rfl (lv_at hl 4 rfl) ?_
  refine hq_slen C hXL (by omega) (hx ▸ hO) d_law_36 ?_
  refine lv_iconst (v := 5) C.1 C.2.1 d_law_37 (by decide) ?_
  refine lv_isub C.1 C.2.1 d_law_38 ?_
  by_cases h6 : L = 6
  · subst h6
    refine lv_icmp_gt (tgt := 623) C.1 C.2.1 d_law_39 (by decide) (fun hn => absurd hn (show ¬ nI 6 - 5 < 1 from by decide)) (fun _ => ?_)
    refine lv_aload_n C.1 C.2.1 d_law_42 rfl (lv_at hl 4 rfl) ?_
    refine lv_iload C.1 C.2.1 d_law_43 (lv_at hl 0 rfl) ?_
    refine l_ld1 C hXL hx hb hO d_law_45 ?_
    refine lv_bipush (v := 15) C.1 C.2.1 d_law_46 (by decide) ?_
    refine lv_iand C.1 C.2.1 d_law_48 ?_
    exact l_switch C hml hret hlk hL hc hs ⟨hx, hmb, hob, hz, hXL, hb, hO, hMd, ko⟩ hBus hl htr hn hE hNc
  · have h9 : nI L - 5 < 1 := by
      have hk9 : L = 0 ∨ L = 1 ∨ L = 2 ∨ L = 3 ∨ L = 4 ∨ L = 5 := by omega
      rcases hk9 with rfl | rfl | rfl | rfl | rfl | rfl <;> decide
    refine lv_icmp_gt (tgt := 623) C.1 C.2.1 d_law_39 (by decide) (fun _ => ?_) (fun hn => absurd (h9) hn)
    exact l_ret C hml hret hlk (hx ▸ hL) (by omega) (by omega)
set_option maxHeartbeats 4000000 in
set_option maxRecDepth 100000 in
theorem l_begin {L : Nat} (C : hq_C p c s m #[Value.ref b] R_L code TB D vwCl (TY cI cZ cN cJ)) (hml : c.maxLocals = 7) (hret : meth.sig.returnType = ret) (hlk : meth.locks = false) (hx : s.heap.size = x) (hXL : va_X b L xs s s.heap) (hL6 : L ≤ 6) (hb : b < x) (hl : lv_has ls 7 [(0, .ref b)]) (htr : l.stackTraces = false) (hE : hq_E x s) (hNc : va_Nc "java/lang/IllegalStateException" "java/lang/IllegalArgumentException" s) (hNW : hq_NW s) (hAO : va_AO R_No s) : W p l e room_1 s m #[Value.ref b] below meth c s.heap [] 0 0 (lw_Z below #[Value.ref b] s) (F0 m 0 ls []) := by
  obtain ⟨n, hn2, hn4, hcl⟩ := clip_n (cel L xs)
  have hL : hq_L x [] := hq_L0
  have hO0 : hq_O x s.heap s.heap := hq_O0
  refine hq_new C k_X (by decide +kernel) (by decide +kernel) (by decide +kernel) (fs := [.null, .null, .null]) (by decide +kernel) (Nat.le_of_ble_eq_true rfl) (Nat.le_of_ble_eq_true rfl) (h := x) hx d_law_0 (fun H1 n1 => ?_)
  have hO1 := hq_On hO0 n1 (Nat.le_refl x)
  have k1 : va_at D vwCl (x, .inr (5, [.null, .null, .null])) H1 := n1.2.2
  refine W.eq (g2 := F0 m 3 ls [.ref x]) rfl ?_
  refine lv_dup C.1 C.2.1 d_law_3 rfl ?_
  refine lv_aload_n C.1 C.2.1 d_law_4 rfl (lv_at hl 0 rfl) ?_
  refine lv_iconst (v := 0) C.1 C.2.1 d_law_5 (by decide) ?_
  have z1 := n1.1
  refine hq_callS (lo := x) (As := [.ref b, .int 0]) (rest := [.ref (x), .ref (x)]) C tb_good hml Y_L_42 (c_cell l D cI cZ cN cJ x b L xs hL6) (fun _ _ _ _ h => h) (fun U hU hW => ⟨by rw [hU]; exact (hXL.moved hW.alike).kept (hO1 b hb), by rw [hU]; omega⟩) hL hl.1 rfl rfl ⟨⟨Nat.le_of_ble_eq_true rfl, Nat.le_of_ble_eq_true rfl⟩, Nat.le_of_ble_eq_true rfl, Nat.le_of_ble_eq_true rfl⟩ (Nat.le_of_ble_eq_true rfl) d_law_6 (fun v H9 locs hp hL => ?_)
  obtain ⟨rfl, rfl⟩ := hp
  refine W.eq (g2 := F0 m 9 ls [.int (cel L xs), .ref (x), .ref (x)]) rfl ?_
  refine hq_callI (lo := x) (b := x) (As := [.int (cel L xs)]) (rest := [.ref x]) C tb_good hml Y_L_48 (c_X_init l D cI cZ cN cJ x x n (cel L xs) (Nat.le_refl x) hn4 hcl) (fun _ _ _ _ h => ⟨hq_NW.call h.1, h.2.1.moved (Vm.Alike.refl _), h.2.2⟩) (fun U hU hW => ⟨hq_NW.warm hW hNW, hAO.moved hW.alike, by rw [hU]; exact n1.1, by rw [hU]; exact k1⟩) hL hl.1 rfl rfl ⟨⟨Nat.le_of_ble_eq_true rfl, Nat.le_of_ble_eq_true rfl⟩, Nat.le_of_ble_eq_true rfl, Nat.le_of_ble_eq_true rfl⟩ (Nat.le_of_ble_eq_true rfl) d_law_9 (fun v H2 locs hp hL => ?_)
  obtain ⟨rfl, z2, hBus2, o2⟩ := hp
  refine W.eq (g2 := F0 m 12 ls [.ref x]) rfl ?_
  refine lv_astore_n C.1 C.2.1 d_law_12 rfl hl (by decide) rfl (lv' := [(1, .ref (x)), (0, .ref (b))]) (fun ls hl => ?_)
  have hO2 := hq_Oo hO1 o2 (Nat.le_refl x)
  refine hq_new C k_M (by decide +kernel) (by decide +kernel) (by decide +kernel) (fs := [.int (0), .int (0), .null, .null, .null, .null, .null, .null, .null, .null, .null, .null, .null, .null, .null, .null, .null, .null, .null, .null, .null, .null, .null, .null, .null, .null, .null, .null, .null, .null, .null, .null]) (by decide +kernel) (Nat.le_of_ble_eq_true rfl) (Nat.le_of_ble_eq_true rfl) (h := x + 4 + 10 * n) z2 d_law_13 (fun H3 n3 => ?_)
  have hO3 := hq_On hO2 n3 (by omega)
  have k3 : va_at D vwCl (x + 4 + 10 * n, .inr (6, [.int (0), .int (0), .null, .null, .null, .null, .null, .null, .null, .null, .null, .null, .null, .null, .null, .null, .null, .null, .null, .null, .null, .null, .null, .null, .null, .null, .null, .null, .null, .null, .null, .null])) H3 := n3.2.2
  have z3 := n3.1
  have hBus3 : busP D cI cZ cN x n (fun _ => N0) (fun _ => R0) (fun _ => 0) (fun _ => 0) H3 := ⟨hq_Bn hBus2.1 n3 (by omega), fun i hi => hq_Bn (hBus2.2 i hi) n3 (by omega)⟩
  refine W.eq (g2 := F0 m 16 ls [.ref (x + 4 + 10 * n)]) rfl ?_
  refine lv_dup C.1 C.2.1 d_law_16 rfl ?_
  refine lv_aload_n C.1 C.2.1 d_law_17 rfl (lv_at hl 1 rfl) ?_
  refine lv_iconst (v := 0) C.1 C.2.1 d_law_18 (by decide) ?_
  refine hq_callS (lo := x) (As := [.ref b, .int 0]) (rest := [.ref (x + 4 + 10 * n), .ref (x + 4 + 10 * n)]) C tb_good hml Y_L_42 (c_cell l D cI cZ cN cJ x b L xs hL6) (fun _ _ _ _ h => h) (fun U hU hW => ⟨by rw [hU]; exact (hXL.moved hW.alike).kept (hO3 b hb), by rw [hU]; omega⟩) hL hl.1 rfl rfl ⟨⟨Nat.le_of_ble_eq_true rfl, Nat.le_of_ble_eq_true rfl⟩, Nat.le_of_ble_eq_true rfl, Nat.le_of_ble_eq_true rfl⟩ (Nat.le_of_ble_eq_true rfl) d_law_19 (fun v H9 locs hp hL => ?_)
  obtain ⟨rfl, rfl⟩ := hp
  refine W.eq (g2 := F0 m 22 ls [.int (cel L xs), .ref (x + 4 + 10 * n), .ref (x + 4 + 10 * n)]) rfl ?_
  refine hq_callI (lo := x) (b := x + 4 + 10 * n) (As := [.int (cel L xs)]) (rest := [.ref (x + 4 + 10 * n)]) C tb_good hml Y_L_53 (c_M_init l D cI cZ cN cJ x (x + 4 + 10 * n) (cel L xs) (by omega)) (fun _ _ _ _ h => h) (fun U hU hW => ⟨by rw [hU]; exact n3.1, by rw [hU]; exact k3⟩) hL hl.1 rfl rfl ⟨⟨Nat.le_of_ble_eq_true rfl, Nat.le_of_ble_eq_true rfl⟩, Nat.le_of_ble_eq_true rfl, Nat.le_of_ble_eq_true rfl⟩ (Nat.le_of_ble_eq_true rfl) d_law_22 (fun v H4 locs hp hL => ?_)
  obtain ⟨rfl, z4, hMd4, o4⟩ := hp
  rw [hcl] at hMd4
  have hO4 := hq_Oo hO3 o4 (by omega)
  have hBus4 : busP D cI cZ cN x n (fun _ => N0) (fun _ => R0) (fun _ => 0) (fun _ => 0) H4 := ⟨hq_Bo hBus3.1 o4 (by omega), fun i hi => hq_Bo (hBus3.2 i hi) o4 (by omega)⟩
  refine W.eq (g2 := F0 m 25 ls [.ref (x + 4 + 10 * n)]) rfl ?_
  refine lv_astore_n C.1 C.2.1 d_law_25 rfl hl (by decide) rfl (lv' := [(2, .ref (x + 4 + 10 * n)), (1, .ref (x)), (0, .ref (b))]) (fun ls hl => ?_)
  refine lv_iconst (v := 1) C.1 C.2.1 d_law_26 (by decide) ?_
  refine hq_newa C (by decide +kernel) 3 rfl (a0 := (1, .inr (.inl (fun _ => 0)))) (N' := 1) (h := x + 4 + 10 * n + 31) (by first | rfl | exact vp_cell_l _ _ _ | exact vp_cell_j _ _ _) (by decide) (by decide) (by decide) (Nat.le_of_ble_eq_true rfl) (Nat.le_of_ble_eq_true rfl) z4 d_law_27 (fun H5 n5 => ?_)
  have hO5 := hq_On hO4 n5 (by omega)
  have hBus5 : busP D cI cZ cN x n (fun _ => N0) (fun _ => R0) (fun _ => 0) (fun _ => 0) H5 := ⟨hq_Bn hBus4.1 n5 (by omega), fun i hi => hq_Bn (hBus4.2 i hi) n5 (by omega)⟩
  have hMd5 := hq_Bn hMd4 n5 (by omega)
  refine W.eq (g2 := F0 m 29 ls [.ref (x + 4 + 10 * n + 31)]) rfl ?_
  refine lv_astore_n C.1 C.2.1 d_law_29 rfl hl (by decide) rfl (lv' := [(3, .ref (x + 4 + 10 * n + 31)), (2, .ref (x + 4 + 10 * n)), (1, .ref (x)), (0, .ref (b))]) (fun ls hl => ?_)
  refine lv_iconst (v := 1) C.1 C.2.1 d_law_30 (by decide) ?_
  refine lv_istore C.1 C.2.1 d_law_31 hl (by decide) rfl (lv' := [(4, .int (1)), (3, .ref (x + 4 + 10 * n + 31)), (2, .ref (x + 4 + 10 * n)), (1, .ref (x)), (0, .ref (b))]) (fun ls hl => ?_)
  exact l_head C hml hret hlk hL (Nat.le_of_ble_eq_true rfl) (Nat.le_of_ble_eq_true rfl) hx rfl rfl n5.1 hXL hL6 hb hO5 hMd5 n5.2.2 hBus5 hl htr hn4 hE hNc
end LAWOPS
