/-! The law's operations, each with all its cases. -/
theorem l_ix (v : Int32) {n : Nat} (hn : n < 2 ^ 31) : (v < 0 ∨ ¬ v < nI n) ∨ ∃ j : Nat, j < n ∧ v = nI j := by
  rcases pk_ix v hn with h | h | h
  · exact Or.inl (Or.inl h)
  · exact Or.inl (Or.inr (Int32.not_lt.mpr h))
  · exact Or.inr h
theorem l_200 (v : Int32) : (v < 1 ∨ ¬ v ≤ 200) ∨ ∃ i : Nat, 1 ≤ i ∧ i ≤ 200 ∧ v = nI i := by
  rcases l_ix v (n := 201) (by decide) with h | ⟨j, hj, rfl⟩
  · refine Or.inl ?_
    rw [Int32.lt_iff_toInt_lt, Int32.lt_iff_toInt_lt, show (0 : Int32).toInt = 0 from rfl, show (nI 201).toInt = 201 from rfl] at h
    rw [Int32.lt_iff_toInt_lt, Int32.le_iff_toInt_le, show (1 : Int32).toInt = 1 from rfl, show (200 : Int32).toInt = 200 from rfl]
    omega
  · by_cases h0 : j = 0
    · subst h0; exact Or.inl (Or.inl (by decide))
    · exact Or.inr ⟨j, by omega, by omega, rfl⟩
theorem l_5 (v : Int32) : (v.toInt < 0 ∨ 4 < v.toInt) ∨ ∃ k : Nat, k < 5 ∧ v = nI k := by
  rcases l_ix v (n := 5) (by decide) with h | h
  · refine Or.inl ?_
    rw [Int32.lt_iff_toInt_lt, Int32.lt_iff_toInt_lt, show (0 : Int32).toInt = 0 from rfl, show (nI 5).toInt = 5 from rfl] at h
    omega
  · exact Or.inr h
theorem l_8 (v : Int32) : (v < 0 ∨ ¬ v < 8) ∨ ∃ k : Nat, k < 8 ∧ v = nI k := l_ix v (n := 8) (by decide)
theorem fth_ok {A : Nat → Nat → Int32} {j : Nat} {a g : Int32} (h : ¬ el a = 0) (h2 : ¬ el g = 0) : (f_M_filter A j a g).2 = 0 := by
  obtain ⟨q0, q1⟩ := el_iff.mp h
  obtain ⟨q2, q3⟩ := el_iff.mp h2
  unfold f_M_filter
  rw [if_neg q0, if_neg q1, if_neg q2, if_pos (Int32.not_lt.mp q3)]
theorem fth_bad {A : Nat → Nat → Int32} {j : Nat} {a g : Int32} (h : ¬ (¬ el a = 0 ∧ ¬ el g = 0)) : (f_M_filter A j a g).2 = 1 := by
  unfold f_M_filter
  by_cases c0 : a < 0
  · rw [if_pos c0]
  · rw [if_neg c0]
    by_cases c1 : 2047 < a
    · rw [if_pos c1]
    · rw [if_neg c1]
      by_cases c2 : g < 0
      · rw [if_pos c2]
      · rw [if_neg c2]
        by_cases c3 : g ≤ 2047
        · exact absurd ⟨el_iff.mpr ⟨c0, c1⟩, el_iff.mpr ⟨c2, Int32.not_lt.mpr c3⟩⟩ h
        · rw [if_neg c3]
theorem dth_ok {A : Nat → Nat → Int32} {j i : Nat} (h1 : 1 ≤ i) (h2 : i ≤ 200) : (f_M_disturb A j (nI i)).2 = 0 := by
  unfold f_M_disturb
  rw [if_neg (show ¬ nI i < 1 from nI_nlt (a := i) (b := 1) h1 (by omega)), if_pos (show nI i ≤ 200 from nI_le (b := 200) h2 (by decide))]
theorem dth_bad {A : Nat → Nat → Int32} {j : Nat} {a : Int32} (h : a < 1 ∨ ¬ a ≤ 200) : (f_M_disturb A j a).2 = 1 := by
  unfold f_M_disturb
  by_cases c0 : a < 1
  · rw [if_pos c0]
  · rw [if_neg c0]
    by_cases c1 : a ≤ 200
    · exact absurd c1 (h.resolve_left c0)
    · rw [if_neg c1]
theorem lv_A (A : Nat → Nat → Int32) (a : Int32) : (f_M_level A a).1 = A := by
  unfold f_M_level
  split
  · rfl
  · split
    · rfl
    · split <;> rfl
theorem tt_A (A : Nat → Nat → Int32) (a : Int32) : (f_M_total A a).1 = A := by
  unfold f_M_total
  split
  · rfl
  · split <;> rfl
section LAWOPS
variable {p : Program} {l : Launch} {e : Env} {s : State} {m : MethodId} {below : List Frame} {meth : Method} {c : Code} {H : Heap} {locs : List Loc} {cells slots : Nat} {D : va_G} {cI cZ cN cJ : ClassId} {b x n mb ob L i r : Nat} {xs : Nat → Int32} {ls : Array Slot} {u : sBu}
theorem l_PE (hE : hq_E x s) (hO : hq_O x s.heap H) (hB : BuP D cI cZ cN x n u H) : ∀ U : State, U.heap = H → s.WarmedH U.vm → (fun U : State => hq_E x U ∧ busP D cI cZ cN x n (fun q => nOf (u.1 q)) (fun q => rOf (u.1 q)) u.2.1 u.2.2 U.heap) U := fun U hU hW => ⟨hE.move hW (by rw [hU]; exact hO), by show busP D cI cZ cN x n (fun q => nOf (u.1 q)) (fun q => rOf (u.1 q)) u.2.1 u.2.2 U.heap; rw [hU]; exact bus_to hB⟩
theorem l_PS (hNc : va_Nc "java/lang/IllegalStateException" "java/lang/IllegalArgumentException" s) (hE : hq_E x s) (hO : hq_O x s.heap H) (hB : BuP D cI cZ cN x n u H) : ∀ U : State, U.heap = H → s.WarmedH U.vm → (fun U : State => hq_E x U ∧ va_Nc "java/lang/IllegalStateException" "java/lang/IllegalArgumentException" U ∧ busP D cI cZ cN x n (fun q => nOf (u.1 q)) (fun q => rOf (u.1 q)) u.2.1 u.2.2 U.heap) U := fun U hU hW => ⟨hE.move hW (by rw [hU]; exact hO), hNc.moved hW.alike, by show busP D cI cZ cN x n (fun q => nOf (u.1 q)) (fun q => rOf (u.1 q)) u.2.1 u.2.2 U.heap; rw [hU]; exact bus_to hB⟩
set_option maxHeartbeats 4000000 in
set_option maxRecDepth 100000 in
theorem o_request (C : hq_C p c s m #[Value.ref b] R_L code TB D vwCl (TY cI cZ cN cJ)) (hml : c.maxLocals = 7) (hret : meth.sig.returnType = ret) (hlk : meth.locks = false) (hx : s.heap.size = x) (hmb : mb = x + 4 + 10 * n) (hob : ob = mb + 31) (hX : va_X b L xs s s.heap) (hLN : L ≤ 2561) (hb : b < x) (hL : hq_L x locs) (hc : cells ≤ 4000) (hs : slots ≤ 40000) (hi : i + 4 < L) (hl : lv_has ls 7 [(4, .int (nI i)), (3, .ref (ob)), (2, .ref (mb)), (1, .ref (x)), (0, .ref (b))]) (htr : l.stackTraces = false) (hn : n ≤ 4) (hE : hq_E x s) (hNc : va_Nc "java/lang/IllegalStateException" "java/lang/IllegalArgumentException" s) (hr : r ≤ 1000) (hI : LI D cI cZ cN cJ x n mb ob s r H) (KK : ∀ (H2 : Heap) (locs : List Loc) (ls : Array Slot) (cells2 slots2 : Nat), cells2 ≤ cells + 1 → slots2 ≤ slots + 6 → hq_L x locs → LI D cI cZ cN cJ x n mb ob s (r + 1) H2 → lv_has ls 7 [(4, .int (nI i)), (3, .ref (ob)), (2, .ref (mb)), (1, .ref (x)), (0, .ref (b))] → W p l e room_1 s m #[Value.ref b] below meth c H2 locs cells2 slots2 (lw_Z below #[Value.ref b] s) (F0 m 455 ls [])) : W p l e room_1 s m #[Value.ref b] below meth c H locs cells slots (lw_Z below #[Value.ref b] s) (F0 m 100 ls []) := by
  obtain ⟨u, A, th, f, k, hk, okb, oka, h0, hsb, hg⟩ := hI
  rcases l_ix (xs (i + 1)) (n := n) (by omega) with h | ⟨j, hj, h⟩
  · have hw := w_request_A l D cI cZ cN cJ x x n (fun q => nOf (u.1 q)) (fun q => rOf (u.1 q)) u.2.1 u.2.2 ob (xs (i + 1)) (xs (i + 2)) (xs (i + 3)) (xs (i + 4)) (t_request_n l D cI cZ cN cJ x htr x n (fun q => nOf (u.1 q)) (fun q => rOf (u.1 q)) u.2.1 u.2.2 (xs (i + 1)) (xs (i + 2)) (xs (i + 3)) (xs (i + 4)) h)
    have hm := c_M_request_n l D cI cZ cN cJ x mb n (by omega) th A (xs (i + 1)) (xs (i + 2)) (xs (i + 3)) (xs (i + 4)) h
    exact l_request C hml hret hlk hx hmb hob hX hLN hb hL (by omega) (by omega) hi hl hg (rm := { frames := 8, cells := 1, slots := 6, locals := 160 }) ⟨⟨Nat.le_of_ble_eq_true rfl, Nat.le_of_ble_eq_true rfl⟩, (by show cells + 1 ≤ 601024; omega), (by show slots + 6 ≤ 7293000; omega)⟩ (Nat.le_refl 1) (Nat.le_refl 6) (fun _ _ _ _ h => ⟨hq_E.call h.1, h.2⟩) (l_PE hE hg.1 hg.2.1) hw (fun v H1 hp => g_A hmb hob hg hp) hm (fun H2 locs ls c2 s2 e1 e2 hL hg2 hl => KK _ _ _ _ _ e1 e2 hL ⟨u, _, _, _, k, by omega, okb, (ok_M_request_n A (xs (i + 1)) (xs (i + 2)) (xs (i + 3)) (xs (i + 4)) oka), ((t0_M_request_n A (xs (i + 1)) (xs (i + 2)) (xs (i + 3)) (xs (i + 4))).trans h0), hsb, hg2⟩ hl)
  · by_cases hq : rq (xs (i + 2)) (xs (i + 3)) (xs (i + 4))
    · by_cases hb7 : (u.1 j).st = 7 ∨ (u.1 j).w.k = 4
      · have hw := w_request_S l D cI cZ cN cJ x x n (fun q => nOf (u.1 q)) (fun q => rOf (u.1 q)) u.2.1 u.2.2 ob (nI j) (xs (i + 2)) (xs (i + 3)) (xs (i + 4)) (t_request_s l D cI cZ cN cJ x htr x n (fun q => nOf (u.1 q)) (fun q => rOf (u.1 q)) u.2.1 u.2.2 j hn hj (xs (i + 2)) (xs (i + 3)) (xs (i + 4)) hq (hb7.elim Or.inl (fun h9 => Or.inr (congrArg nI h9))))
        rw [← h] at hw
        have hm := c_M_request l D cI cZ cN cJ x mb n (by omega) th A j (by omega) (xs (i + 2)) (xs (i + 3)) (xs (i + 4)) hn hj oka
        rw [← h] at hm
        exact l_request C hml hret hlk hx hmb hob hX hLN hb hL (by omega) (by omega) hi hl hg (rm := { frames := 8, cells := 1, slots := 6, locals := 160 }) ⟨⟨Nat.le_of_ble_eq_true rfl, Nat.le_of_ble_eq_true rfl⟩, (by show cells + 1 ≤ 601024; omega), (by show slots + 6 ≤ 7293000; omega)⟩ (Nat.le_refl 1) (Nat.le_refl 6) (fun _ _ _ _ h => ⟨hq_E.call h.1, h.2⟩) (l_PS hNc hE hg.1 hg.2.1) hw (fun v H1 hp => g_A hmb hob hg hp) hm (fun H2 locs ls c2 s2 e1 e2 hL hg2 hl => KK _ _ _ _ _ e1 e2 hL ⟨u, _, _, _, k, by omega, okb, (ok_M_request A j (by omega) (xs (i + 2)) (xs (i + 3)) (xs (i + 4)) oka), ((t0_M_request A j (by omega) (xs (i + 2)) (xs (i + 3)) (xs (i + 4))).trans h0), (by rw [q_reqs hsb hj hq hb7]; exact hsb), hg2⟩ hl)
      · have hk4 : (u.1 j).w.k < 4 := by have := (okb.1 j hj).1; omega
        have hw := w_request_R l D cI cZ cN cJ x x n ob (nI j) (xs (i + 2)) (xs (i + 3)) (xs (i + 4)) (nI ((u.1 j).w.k + 1)) f (Nat.le_refl x) (by omega) (fun H => BuP D cI cZ cN x n u H) (fun H => BuP D cI cZ cN x n (setB u j (f_X_request (u.1 j) (xs (i + 2)) (xs (i + 3)) (xs (i + 4)))) H) (fun e H H1 h hu => BuP_u h hu (by omega)) (fun H h => h.1 0 (by decide)) (c_X_request l D cI cZ cN cJ x x n k u (Nat.le_refl x) hn okb j hj (xs (i + 2)) (xs (i + 3)) (xs (i + 4)) hq (fun h9 => hb7 (Or.inl h9)) hk4)
        rw [← h] at hw
        have hm := c_M_request l D cI cZ cN cJ x mb n (by omega) th A j (by omega) (xs (i + 2)) (xs (i + 3)) (xs (i + 4)) hn hj oka
        rw [← h] at hm
        exact l_request C hml hret hlk hx hmb hob hX hLN hb hL (by omega) (by omega) hi hl hg (rm := { frames := 4, cells := 0, slots := 0, locals := 120 }) ⟨⟨Nat.le_of_ble_eq_true rfl, Nat.le_of_ble_eq_true rfl⟩, (by show cells + 0 ≤ 601024; omega), (by show slots + 0 ≤ 7293000; omega)⟩ (Nat.zero_le 1) (Nat.zero_le 6) (fun _ _ _ _ h => h) (fun U hU hW => by show BuP D cI cZ cN x n u U.heap ∧ va_at D vwCl (ob, outC cJ f) U.heap; rw [hU]; exact ⟨hg.2.1, hg.2.2.2.1⟩) hw (fun v H1 hp => g_R hmb hob hg ⟨hp.1, hp.2.1, hp.2.2.1, hp.2.2.2.1, hp.2.2.2.2⟩) hm (fun H2 locs ls c2 s2 e1 e2 hL hg2 hl => KK _ _ _ _ _ e1 e2 hL ⟨setB u j (f_X_request (u.1 j) (xs (i + 2)) (xs (i + 3)) (xs (i + 4))), _, _, _, k, by omega, (okB_set okb (ok_X_request (okb.1 j hj))), (ok_M_request A j (by omega) (xs (i + 2)) (xs (i + 3)) (xs (i + 4)) oka), ((t0_M_request A j (by omega) (xs (i + 2)) (xs (i + 3)) (xs (i + 4))).trans h0), (q_req hn hsb hj hq (fun h9 => hb7 (Or.inl h9)) hk4).1, hg2⟩ hl)
    · have hw := w_request_A l D cI cZ cN cJ x x n (fun q => nOf (u.1 q)) (fun q => rOf (u.1 q)) u.2.1 u.2.2 ob (nI j) (xs (i + 2)) (xs (i + 3)) (xs (i + 4)) (t_request_f l D cI cZ cN cJ x htr x n (fun q => nOf (u.1 q)) (fun q => rOf (u.1 q)) u.2.1 u.2.2 j hn hj (xs (i + 2)) (xs (i + 3)) (xs (i + 4)) hq)
      rw [← h] at hw
      have hm := c_M_request l D cI cZ cN cJ x mb n (by omega) th A j (by omega) (xs (i + 2)) (xs (i + 3)) (xs (i + 4)) hn hj oka
      rw [← h] at hm
      exact l_request C hml hret hlk hx hmb hob hX hLN hb hL (by omega) (by omega) hi hl hg (rm := { frames := 8, cells := 1, slots := 6, locals := 160 }) ⟨⟨Nat.le_of_ble_eq_true rfl, Nat.le_of_ble_eq_true rfl⟩, (by show cells + 1 ≤ 601024; omega), (by show slots + 6 ≤ 7293000; omega)⟩ (Nat.le_refl 1) (Nat.le_refl 6) (fun _ _ _ _ h => ⟨hq_E.call h.1, h.2⟩) (l_PE hE hg.1 hg.2.1) hw (fun v H1 hp => g_A hmb hob hg hp) hm (fun H2 locs ls c2 s2 e1 e2 hL hg2 hl => KK _ _ _ _ _ e1 e2 hL ⟨u, _, _, _, k, by omega, okb, (ok_M_request A j (by omega) (xs (i + 2)) (xs (i + 3)) (xs (i + 4)) oka), ((t0_M_request A j (by omega) (xs (i + 2)) (xs (i + 3)) (xs (i + 4))).trans h0), (by rw [q_reqf hq]; exact hsb), hg2⟩ hl)
set_option maxHeartbeats 4000000 in
set_option maxRecDepth 100000 in
theorem o_filter (C : hq_C p c s m #[Value.ref b] R_L code TB D vwCl (TY cI cZ cN cJ)) (hml : c.maxLocals = 7) (hret : meth.sig.returnType = ret) (hlk : meth.locks = false) (hx : s.heap.size = x) (hmb : mb = x + 4 + 10 * n) (hob : ob = mb + 31) (hX : va_X b L xs s s.heap) (hLN : L ≤ 2561) (hb : b < x) (hL : hq_L x locs) (hc : cells ≤ 4000) (hs : slots ≤ 40000) (hi : i + 4 < L) (hl : lv_has ls 7 [(4, .int (nI i)), (3, .ref (ob)), (2, .ref (mb)), (1, .ref (x)), (0, .ref (b))]) (htr : l.stackTraces = false) (hn : n ≤ 4) (hE : hq_E x s) (hNc : va_Nc "java/lang/IllegalStateException" "java/lang/IllegalArgumentException" s) (hr : r ≤ 1000) (hI : LI D cI cZ cN cJ x n mb ob s r H) (KK : ∀ (H2 : Heap) (locs : List Loc) (ls : Array Slot) (cells2 slots2 : Nat), cells2 ≤ cells + 1 → slots2 ≤ slots + 6 → hq_L x locs → LI D cI cZ cN cJ x n mb ob s (r + 1) H2 → lv_has ls 7 [(4, .int (nI i)), (3, .ref (ob)), (2, .ref (mb)), (1, .ref (x)), (0, .ref (b))] → W p l e room_1 s m #[Value.ref b] below meth c H2 locs cells2 slots2 (lw_Z below #[Value.ref b] s) (F0 m 455 ls [])) : W p l e room_1 s m #[Value.ref b] below meth c H locs cells slots (lw_Z below #[Value.ref b] s) (F0 m 164 ls []) := by
  obtain ⟨u, A, th, f, k, hk, okb, oka, h0, hsb, hg⟩ := hI
  rcases l_ix (xs (i + 1)) (n := n) (by omega) with h | ⟨j, hj, h⟩
  · have hw := w_filter_A l D cI cZ cN cJ x x n (fun q => nOf (u.1 q)) (fun q => rOf (u.1 q)) u.2.1 u.2.2 (xs (i + 1)) (xs (i + 2)) (xs (i + 3)) (t_filter_n l D cI cZ cN cJ x htr x n (fun q => nOf (u.1 q)) (fun q => rOf (u.1 q)) u.2.1 u.2.2 (xs (i + 1)) (xs (i + 2)) (xs (i + 3)) h)
    have hm := c_M_filter_n l D cI cZ cN cJ x mb n (by omega) th A (xs (i + 1)) (xs (i + 2)) (xs (i + 3)) h
    exact l_filter C hml hret hlk hx hmb hob hX hLN hb hL (by omega) (by omega) hi hl hg (rm := { frames := 8, cells := 1, slots := 6, locals := 160 }) ⟨⟨Nat.le_of_ble_eq_true rfl, Nat.le_of_ble_eq_true rfl⟩, (by show cells + 1 ≤ 601024; omega), (by show slots + 6 ≤ 7293000; omega)⟩ (Nat.le_refl 1) (Nat.le_refl 6) (fun _ _ _ _ h => ⟨hq_E.call h.1, h.2⟩) (l_PE hE hg.1 hg.2.1) hw (fun v H1 hp => g_A hmb hob hg hp) hm (fun H2 locs ls c2 s2 e1 e2 hL hg2 hl => KK _ _ _ _ _ e1 e2 hL ⟨u, _, _, _, k, by omega, okb, (ok_M_filter_n A (xs (i + 1)) (xs (i + 2)) (xs (i + 3)) oka), ((t0_M_filter_n A (xs (i + 1)) (xs (i + 2)) (xs (i + 3))).trans h0), hsb, hg2⟩ hl)
  · by_cases hq : ¬ el (xs (i + 2)) = 0 ∧ ¬ el (xs (i + 3)) = 0
    · have hw := w_filter_R l D cI cZ cN cJ x x n (nI j) (xs (i + 2)) (xs (i + 3)) (Nat.le_refl x) (fun H => BuP D cI cZ cN x n u H) (fun H => BuP D cI cZ cN x n (setB u j (f_X_filter (u.1 j) (xs (i + 2)) (xs (i + 3)))) H) (fun H h => h.1 0 (by decide)) (c_X_filter l D cI cZ cN cJ x x n k u (Nat.le_refl x) hn okb j hj (xs (i + 2)) (xs (i + 3)) hq.1 hq.2)
      rw [← h] at hw
      have hm := c_M_filter l D cI cZ cN cJ x mb n (by omega) th A j (by omega) (xs (i + 2)) (xs (i + 3)) hn hj
      rw [← h] at hm
      exact l_filter C hml hret hlk hx hmb hob hX hLN hb hL (by omega) (by omega) hi hl hg (rm := { frames := 4, cells := 0, slots := 0, locals := 120 }) ⟨⟨Nat.le_of_ble_eq_true rfl, Nat.le_of_ble_eq_true rfl⟩, (by show cells + 0 ≤ 601024; omega), (by show slots + 0 ≤ 7293000; omega)⟩ (Nat.zero_le 1) (Nat.zero_le 6) (fun _ _ _ _ h => h) (fun U hU hW => by show BuP D cI cZ cN x n u U.heap; rw [hU]; exact hg.2.1) hw (fun v H1 hp => g_N hmb hob hg hp) hm (fun H2 locs ls c2 s2 e1 e2 hL hg2 hl => KK _ _ _ _ _ e1 e2 hL ⟨setB u j (f_X_filter (u.1 j) (xs (i + 2)) (xs (i + 3))), _, _, _, k, by omega, (okB_set okb (ok_X_filter (okb.1 j hj))), (ok_M_filter A j (by omega) (xs (i + 2)) (xs (i + 3)) oka), ((t0_M_filter A j (by omega) (xs (i + 2)) (xs (i + 3))).trans h0), (q_flt hsb hj hq.1 hq.2), hg2⟩ hl)
    · have hw := w_filter_A l D cI cZ cN cJ x x n (fun q => nOf (u.1 q)) (fun q => rOf (u.1 q)) u.2.1 u.2.2 (nI j) (xs (i + 2)) (xs (i + 3)) (t_filter_f l D cI cZ cN cJ x htr x n (fun q => nOf (u.1 q)) (fun q => rOf (u.1 q)) u.2.1 u.2.2 j hn hj (xs (i + 2)) (xs (i + 3)) hq)
      rw [← h] at hw
      have hm := c_M_filter l D cI cZ cN cJ x mb n (by omega) th A j (by omega) (xs (i + 2)) (xs (i + 3)) hn hj
      rw [← h] at hm
      exact l_filter C hml hret hlk hx hmb hob hX hLN hb hL (by omega) (by omega) hi hl hg (rm := { frames := 8, cells := 1, slots := 6, locals := 160 }) ⟨⟨Nat.le_of_ble_eq_true rfl, Nat.le_of_ble_eq_true rfl⟩, (by show cells + 1 ≤ 601024; omega), (by show slots + 6 ≤ 7293000; omega)⟩ (Nat.le_refl 1) (Nat.le_refl 6) (fun _ _ _ _ h => ⟨hq_E.call h.1, h.2⟩) (l_PE hE hg.1 hg.2.1) hw (fun v H1 hp => g_A hmb hob hg hp) hm (fun H2 locs ls c2 s2 e1 e2 hL hg2 hl => KK _ _ _ _ _ e1 e2 hL ⟨u, _, _, _, k, by omega, okb, (ok_M_filter A j (by omega) (xs (i + 2)) (xs (i + 3)) oka), ((t0_M_filter A j (by omega) (xs (i + 2)) (xs (i + 3))).trans h0), (by rw [q_fltf hq]; exact hsb), hg2⟩ hl)
set_option maxHeartbeats 4000000 in
set_option maxRecDepth 100000 in
theorem o_disturb (C : hq_C p c s m #[Value.ref b] R_L code TB D vwCl (TY cI cZ cN cJ)) (hml : c.maxLocals = 7) (hret : meth.sig.returnType = ret) (hlk : meth.locks = false) (hx : s.heap.size = x) (hmb : mb = x + 4 + 10 * n) (hob : ob = mb + 31) (hX : va_X b L xs s s.heap) (hLN : L ≤ 2561) (hb : b < x) (hL : hq_L x locs) (hc : cells ≤ 4000) (hs : slots ≤ 40000) (hi : i + 4 < L) (hl : lv_has ls 7 [(4, .int (nI i)), (3, .ref (ob)), (2, .ref (mb)), (1, .ref (x)), (0, .ref (b))]) (htr : l.stackTraces = false) (hn : n ≤ 4) (hE : hq_E x s) (hNc : va_Nc "java/lang/IllegalStateException" "java/lang/IllegalArgumentException" s) (hr : r ≤ 1000) (hI : LI D cI cZ cN cJ x n mb ob s r H) (KK : ∀ (H2 : Heap) (locs : List Loc) (ls : Array Slot) (cells2 slots2 : Nat), cells2 ≤ cells + 1 → slots2 ≤ slots + 6 → hq_L x locs → LI D cI cZ cN cJ x n mb ob s (r + 1) H2 → lv_has ls 7 [(4, .int (nI i)), (3, .ref (ob)), (2, .ref (mb)), (1, .ref (x)), (0, .ref (b))] → W p l e room_1 s m #[Value.ref b] below meth c H2 locs cells2 slots2 (lw_Z below #[Value.ref b] s) (F0 m 455 ls [])) : W p l e room_1 s m #[Value.ref b] below meth c H locs cells slots (lw_Z below #[Value.ref b] s) (F0 m 213 ls []) := by
  obtain ⟨u, A, th, f, k, hk, okb, oka, h0, hsb, hg⟩ := hI
  rcases l_ix (xs (i + 1)) (n := n) (by omega) with h | ⟨j, hj, h⟩
  · have hw := w_disturb_A l D cI cZ cN cJ x x n (fun q => nOf (u.1 q)) (fun q => rOf (u.1 q)) u.2.1 u.2.2 (xs (i + 1)) (xs (i + 2)) (t_disturb_n l D cI cZ cN cJ x htr x n (fun q => nOf (u.1 q)) (fun q => rOf (u.1 q)) u.2.1 u.2.2 (xs (i + 1)) (xs (i + 2)) h)
    have hm := c_M_disturb_n l D cI cZ cN cJ x mb n (by omega) th A (xs (i + 1)) (xs (i + 2)) h
    exact l_disturb C hml hret hlk hx hmb hob hX hLN hb hL (by omega) (by omega) hi hl hg (rm := { frames := 8, cells := 1, slots := 6, locals := 160 }) ⟨⟨Nat.le_of_ble_eq_true rfl, Nat.le_of_ble_eq_true rfl⟩, (by show cells + 1 ≤ 601024; omega), (by show slots + 6 ≤ 7293000; omega)⟩ (Nat.le_refl 1) (Nat.le_refl 6) (fun _ _ _ _ h => ⟨hq_E.call h.1, h.2⟩) (l_PE hE hg.1 hg.2.1) hw (fun v H1 hp => g_A hmb hob hg hp) hm (fun H2 locs ls c2 s2 e1 e2 hL hg2 hl => KK _ _ _ _ _ e1 e2 hL ⟨u, _, _, _, k, by omega, okb, (ok_M_disturb_n A (xs (i + 1)) (xs (i + 2)) oka), ((t0_M_disturb_n A (xs (i + 1)) (xs (i + 2))).trans h0), hsb, hg2⟩ hl)
  · rcases l_200 (xs (i + 2)) with g | ⟨q, h1, h2, g⟩
    · have hw := w_disturb_A l D cI cZ cN cJ x x n (fun q => nOf (u.1 q)) (fun q => rOf (u.1 q)) u.2.1 u.2.2 (nI j) (xs (i + 2)) (t_disturb_f l D cI cZ cN cJ x htr x n (fun q => nOf (u.1 q)) (fun q => rOf (u.1 q)) u.2.1 u.2.2 j hn hj (xs (i + 2)) g)
      rw [← h] at hw
      have hm := c_M_disturb l D cI cZ cN cJ x mb n (by omega) th A j (by omega) (xs (i + 2)) hn hj k h0 (by omega)
      rw [← h] at hm
      exact l_disturb C hml hret hlk hx hmb hob hX hLN hb hL (by omega) (by omega) hi hl hg (rm := { frames := 8, cells := 1, slots := 6, locals := 160 }) ⟨⟨Nat.le_of_ble_eq_true rfl, Nat.le_of_ble_eq_true rfl⟩, (by show cells + 1 ≤ 601024; omega), (by show slots + 6 ≤ 7293000; omega)⟩ (Nat.le_refl 1) (Nat.le_refl 6) (fun _ _ _ _ h => ⟨hq_E.call h.1, h.2⟩) (l_PE hE hg.1 hg.2.1) hw (fun v H1 hp => g_A hmb hob hg hp) hm (fun H2 locs ls c2 s2 e1 e2 hL hg2 hl => KK _ _ _ _ _ e1 e2 hL ⟨u, _, _, _, k, by omega, okb, (ok_M_disturb A j (by omega) (xs (i + 2)) k h0 (by omega) oka), ((t0_M_disturb A j (by omega) (xs (i + 2))).trans h0), (by rw [q_dstf g]; exact hsb), hg2⟩ hl)
    · have hw := w_disturb_R l D cI cZ cN cJ x x n (nI j) (nI q) (Nat.le_refl x) (fun H => BuP D cI cZ cN x n u H) (fun H => BuP D cI cZ cN x n (setB u j (f_X_disturb (u.1 j) q)) H) (fun H h => h.1 0 (by decide)) (c_X_disturb l D cI cZ cN cJ x x n k u (Nat.le_refl x) hn okb j hj q h1 h2)
      rw [← h, ← g] at hw
      have hm := c_M_disturb l D cI cZ cN cJ x mb n (by omega) th A j (by omega) (xs (i + 2)) hn hj k h0 (by omega)
      rw [← h] at hm
      exact l_disturb C hml hret hlk hx hmb hob hX hLN hb hL (by omega) (by omega) hi hl hg (rm := { frames := 4, cells := 0, slots := 0, locals := 120 }) ⟨⟨Nat.le_of_ble_eq_true rfl, Nat.le_of_ble_eq_true rfl⟩, (by show cells + 0 ≤ 601024; omega), (by show slots + 0 ≤ 7293000; omega)⟩ (Nat.zero_le 1) (Nat.zero_le 6) (fun _ _ _ _ h => h) (fun U hU hW => by show BuP D cI cZ cN x n u U.heap; rw [hU]; exact hg.2.1) hw (fun v H1 hp => g_N hmb hob hg hp) hm (fun H2 locs ls c2 s2 e1 e2 hL hg2 hl => KK _ _ _ _ _ e1 e2 hL ⟨setB u j (f_X_disturb (u.1 j) q), _, _, _, k, by omega, (okB_set okb (ok_X_disturb (okb.1 j hj))), (ok_M_disturb A j (by omega) (xs (i + 2)) k h0 (by omega) oka), ((t0_M_disturb A j (by omega) (xs (i + 2))).trans h0), (by rw [g]; exact q_dst hn hsb hj h0 (by omega) h1 h2), hg2⟩ hl)
set_option maxHeartbeats 4000000 in
set_option maxRecDepth 100000 in
theorem o_pass (C : hq_C p c s m #[Value.ref b] R_L code TB D vwCl (TY cI cZ cN cJ)) (hml : c.maxLocals = 7) (hret : meth.sig.returnType = ret) (hlk : meth.locks = false) (hx : s.heap.size = x) (hmb : mb = x + 4 + 10 * n) (hob : ob = mb + 31) (hX : va_X b L xs s s.heap) (hLN : L ≤ 2561) (hb : b < x) (hL : hq_L x locs) (hc : cells ≤ 4000) (hs : slots ≤ 40000) (hi : i + 4 < L) (hl : lv_has ls 7 [(4, .int (nI i)), (3, .ref (ob)), (2, .ref (mb)), (1, .ref (x)), (0, .ref (b))]) (htr : l.stackTraces = false) (hn : n ≤ 4) (hE : hq_E x s) (hNc : va_Nc "java/lang/IllegalStateException" "java/lang/IllegalArgumentException" s) (hr : r ≤ 1000) (hI : LI D cI cZ cN cJ x n mb ob s r H) (KK : ∀ (H2 : Heap) (locs : List Loc) (ls : Array Slot) (cells2 slots2 : Nat), cells2 ≤ cells + 1 → slots2 ≤ slots + 6 → hq_L x locs → LI D cI cZ cN cJ x n mb ob s (r + 1) H2 → lv_has ls 7 [(4, .int (nI i)), (3, .ref (ob)), (2, .ref (mb)), (1, .ref (x)), (0, .ref (b))] → W p l e room_1 s m #[Value.ref b] below meth c H2 locs cells2 slots2 (lw_Z below #[Value.ref b] s) (F0 m 455 ls [])) : W p l e room_1 s m #[Value.ref b] below meth c H locs cells slots (lw_Z below #[Value.ref b] s) (F0 m 250 ls []) := by
  obtain ⟨u, A, th, f, k, hk, okb, oka, h0, hsb, hg⟩ := hI
  rcases l_200 (xs (i + 1)) with g | ⟨q, h1, h2, g⟩
  · have hw := w_pass_A l D cI cZ cN cJ x x n (fun q => nOf (u.1 q)) (fun q => rOf (u.1 q)) u.2.1 u.2.2 ob (xs (i + 1)) (t_pass l D cI cZ cN cJ x htr x n (fun q => nOf (u.1 q)) (fun q => rOf (u.1 q)) u.2.1 u.2.2 (xs (i + 1)) g)
    have hm := c_M_pass_n l D cI cZ cN cJ x mb n (by omega) th A (xs (i + 1)) g
    exact l_pass C hml hret hlk hx hmb hob hX hLN hb hL (by omega) (by omega) hi hl hg (rm := { frames := 8, cells := 1, slots := 6, locals := 160 }) ⟨⟨Nat.le_of_ble_eq_true rfl, Nat.le_of_ble_eq_true rfl⟩, (by show cells + 1 ≤ 601024; omega), (by show slots + 6 ≤ 7293000; omega)⟩ (Nat.le_refl 1) (Nat.le_refl 6) (fun _ _ _ _ h => ⟨hq_E.call h.1, h.2⟩) (l_PE hE hg.1 hg.2.1) hw (fun v H1 hp => g_A hmb hob hg hp) hm (fun H2 locs ls c2 s2 e1 e2 hL hg2 hl => KK _ _ _ _ _ e1 e2 hL ⟨u, _, _, _, k, by omega, okb, oka, h0, hsb, hg2⟩ hl)
  · have hpm := ok_passM hn q k A oka h0
    have hps := SB_pass hn q k u A (by omega) oka hsb
    have hw := w_pass_R l D cI cZ cN cJ x x n ob (nI q) ((passN n q k u).2.2 1 - u.2.2 1) f (Nat.le_refl x) (by omega) (fun H => BuP D cI cZ cN x n u H) (fun H => BuP D cI cZ cN x n (passN n q k u) H) (fun e H H1 h hu => BuP_u h hu (by omega)) (fun H h => h.1 0 (by decide)) (c_X_pass l D cI cZ cN cJ x x n q k u (Nat.le_refl x) hn h1 h2 (by omega) okb)
    rw [← g] at hw
    have hm := c_M_pass l D cI cZ cN cJ x mb n q k (by omega) hn h1 h2 (by omega) th A h0 oka
    rw [← g] at hm
    exact l_pass C hml hret hlk hx hmb hob hX hLN hb hL (by omega) (by omega) hi hl hg (rm := { frames := 8, cells := 0, slots := 0, locals := 190 }) ⟨⟨Nat.le_of_ble_eq_true rfl, Nat.le_of_ble_eq_true rfl⟩, (by show cells + 0 ≤ 601024; omega), (by show slots + 0 ≤ 7293000; omega)⟩ (Nat.zero_le 1) (Nat.zero_le 6) (fun _ _ _ _ h => h) (fun U hU hW => by show BuP D cI cZ cN x n u U.heap ∧ va_at D vwCl (ob, outC cJ f) U.heap; rw [hU]; exact ⟨hg.2.1, hg.2.2.2.1⟩) hw (fun v H1 hp => g_R hmb hob hg ⟨hp.1, hp.2.1, hp.2.2.1, hp.2.2.2.1, hp.2.2.2.2⟩) hm (fun H2 locs ls c2 s2 e1 e2 hL hg2 hl => KK _ _ _ _ _ e1 e2 hL ⟨passN n q k u, _, _, _, (k + q), by omega, (okB_pass q k u okb), hpm.1, hpm.2, hps, hg2⟩ hl)
set_option maxHeartbeats 4000000 in
set_option maxRecDepth 100000 in
theorem o_level (C : hq_C p c s m #[Value.ref b] R_L code TB D vwCl (TY cI cZ cN cJ)) (hml : c.maxLocals = 7) (hret : meth.sig.returnType = ret) (hlk : meth.locks = false) (hx : s.heap.size = x) (hmb : mb = x + 4 + 10 * n) (hob : ob = mb + 31) (hX : va_X b L xs s s.heap) (hLN : L ≤ 2561) (hb : b < x) (hL : hq_L x locs) (hc : cells ≤ 4000) (hs : slots ≤ 40000) (hi : i + 4 < L) (hl : lv_has ls 7 [(4, .int (nI i)), (3, .ref (ob)), (2, .ref (mb)), (1, .ref (x)), (0, .ref (b))]) (htr : l.stackTraces = false) (hn : n ≤ 4) (hE : hq_E x s) (hNc : va_Nc "java/lang/IllegalStateException" "java/lang/IllegalArgumentException" s) (hr : r ≤ 1000) (hI : LI D cI cZ cN cJ x n mb ob s r H) (KK : ∀ (H2 : Heap) (locs : List Loc) (ls : Array Slot) (cells2 slots2 : Nat), cells2 ≤ cells + 1 → slots2 ≤ slots + 6 → hq_L x locs → LI D cI cZ cN cJ x n mb ob s (r + 1) H2 → lv_has ls 7 [(4, .int (nI i)), (3, .ref (ob)), (2, .ref (mb)), (1, .ref (x)), (0, .ref (b))] → W p l e room_1 s m #[Value.ref b] below meth c H2 locs cells2 slots2 (lw_Z below #[Value.ref b] s) (F0 m 455 ls [])) : W p l e room_1 s m #[Value.ref b] below meth c H locs cells slots (lw_Z below #[Value.ref b] s) (F0 m 278 ls []) := by
  obtain ⟨u, A, th, f, k, hk, okb, oka, h0, hsb, hg⟩ := hI
  exact l_level C hml hret hlk hx hmb hob hX hLN hb hL (by omega) (by omega) hi hl hg _ (c_X_level l D cI cZ cN cJ x x n k u (by omega) okb (xs (i + 1))) (c_M_level l D cI cZ cN cJ x mb n (by omega) th A (xs (i + 1)) k h0 (by omega)) (fun H2 locs ls c2 s2 e1 e2 hL hg2 hl => KK _ _ _ _ _ e1 e2 hL ⟨u, _, _, _, k, by omega, okb, (ok_M_level A (xs (i + 1)) k h0 (by omega) oka), ((t0_M_level A (xs (i + 1))).trans h0), (by rw [lv_A]; exact hsb), hg2⟩ hl)
set_option maxHeartbeats 4000000 in
set_option maxRecDepth 100000 in
theorem o_state (C : hq_C p c s m #[Value.ref b] R_L code TB D vwCl (TY cI cZ cN cJ)) (hml : c.maxLocals = 7) (hret : meth.sig.returnType = ret) (hlk : meth.locks = false) (hx : s.heap.size = x) (hmb : mb = x + 4 + 10 * n) (hob : ob = mb + 31) (hX : va_X b L xs s s.heap) (hLN : L ≤ 2561) (hb : b < x) (hL : hq_L x locs) (hc : cells ≤ 4000) (hs : slots ≤ 40000) (hi : i + 4 < L) (hl : lv_has ls 7 [(4, .int (nI i)), (3, .ref (ob)), (2, .ref (mb)), (1, .ref (x)), (0, .ref (b))]) (htr : l.stackTraces = false) (hn : n ≤ 4) (hE : hq_E x s) (hNc : va_Nc "java/lang/IllegalStateException" "java/lang/IllegalArgumentException" s) (hr : r ≤ 1000) (hI : LI D cI cZ cN cJ x n mb ob s r H) (KK : ∀ (H2 : Heap) (locs : List Loc) (ls : Array Slot) (cells2 slots2 : Nat), cells2 ≤ cells + 1 → slots2 ≤ slots + 6 → hq_L x locs → LI D cI cZ cN cJ x n mb ob s (r + 1) H2 → lv_has ls 7 [(4, .int (nI i)), (3, .ref (ob)), (2, .ref (mb)), (1, .ref (x)), (0, .ref (b))] → W p l e room_1 s m #[Value.ref b] below meth c H2 locs cells2 slots2 (lw_Z below #[Value.ref b] s) (F0 m 455 ls [])) : W p l e room_1 s m #[Value.ref b] below meth c H locs cells slots (lw_Z below #[Value.ref b] s) (F0 m 303 ls []) := by
  obtain ⟨u, A, th, f, k, hk, okb, oka, h0, hsb, hg⟩ := hI
  rcases l_ix (xs (i + 1)) (n := n) (by omega) with h | ⟨j, hj, h⟩
  · have hw := w_state_A l D cI cZ cN cJ x x n (fun q => nOf (u.1 q)) (fun q => rOf (u.1 q)) u.2.1 u.2.2 ob (xs (i + 1)) (t_state_n l D cI cZ cN cJ x htr x n (fun q => nOf (u.1 q)) (fun q => rOf (u.1 q)) u.2.1 u.2.2 (xs (i + 1)) h)
    have hm := c_M_state_n l D cI cZ cN cJ x mb n (by omega) th A (xs (i + 1)) h
    exact l_state C hml hret hlk hx hmb hob hX hLN hb hL (by omega) (by omega) hi hl hg (rm := { frames := 8, cells := 1, slots := 6, locals := 160 }) ⟨⟨Nat.le_of_ble_eq_true rfl, Nat.le_of_ble_eq_true rfl⟩, (by show cells + 1 ≤ 601024; omega), (by show slots + 6 ≤ 7293000; omega)⟩ (Nat.le_refl 1) (Nat.le_refl 6) (fun _ _ _ _ h => ⟨hq_E.call h.1, h.2⟩) (l_PE hE hg.1 hg.2.1) hw (fun v H1 hp => g_A hmb hob hg hp) hm (fun H2 locs ls c2 s2 e1 e2 hL hg2 hl => KK _ _ _ _ _ e1 e2 hL ⟨u, _, _, _, k, by omega, okb, (ok_M_state_n A (xs (i + 1)) oka), ((t0_M_state_n A (xs (i + 1))).trans h0), hsb, hg2⟩ hl)
  · have hw := w_state_R l D cI cZ cN cJ x x n ob (nI j) (nOf (u.1 j) 0) f (Nat.le_refl x) (by omega) (fun H => busP D cI cZ cN x n (fun q => nOf (u.1 q)) (fun q => rOf (u.1 q)) u.2.1 u.2.2 H) (fun e H H1 h hu => bus_to (BuP_u (bus_of h) hu (by omega))) (fun H h => h.1 0 (by decide)) (c_state l D cI cZ cN cJ x x n (fun q => nOf (u.1 q)) (fun q => rOf (u.1 q)) u.2.1 u.2.2 j hn hj)
    rw [← h] at hw
    have hm := c_M_state l D cI cZ cN cJ x mb n (by omega) th A j (by omega)  hn hj
    rw [← h] at hm
    exact l_state C hml hret hlk hx hmb hob hX hLN hb hL (by omega) (by omega) hi hl hg (rm := { frames := 4, cells := 0, slots := 0, locals := 120 }) ⟨⟨Nat.le_of_ble_eq_true rfl, Nat.le_of_ble_eq_true rfl⟩, (by show cells + 0 ≤ 601024; omega), (by show slots + 0 ≤ 7293000; omega)⟩ (Nat.zero_le 1) (Nat.zero_le 6) (fun _ _ _ _ h => h) (fun U hU hW => by show busP D cI cZ cN x n (fun q => nOf (u.1 q)) (fun q => rOf (u.1 q)) u.2.1 u.2.2 U.heap ∧ va_at D vwCl (ob, outC cJ f) U.heap; rw [hU]; exact ⟨bus_to hg.2.1, hg.2.2.2.1⟩) hw (fun v H1 hp => g_R hmb hob hg ⟨hp.1, hp.2.1, bus_of hp.2.2.1, hp.2.2.2.1, hp.2.2.2.2⟩) hm (fun H2 locs ls c2 s2 e1 e2 hL hg2 hl => KK _ _ _ _ _ e1 e2 hL ⟨u, _, _, _, k, by omega, okb, (ok_M_state A j (by omega)  oka), ((t0_M_state A j (by omega) ).trans h0), hsb, hg2⟩ hl)
set_option maxHeartbeats 4000000 in
set_option maxRecDepth 100000 in
theorem o_count (C : hq_C p c s m #[Value.ref b] R_L code TB D vwCl (TY cI cZ cN cJ)) (hml : c.maxLocals = 7) (hret : meth.sig.returnType = ret) (hlk : meth.locks = false) (hx : s.heap.size = x) (hmb : mb = x + 4 + 10 * n) (hob : ob = mb + 31) (hX : va_X b L xs s s.heap) (hLN : L ≤ 2561) (hb : b < x) (hL : hq_L x locs) (hc : cells ≤ 4000) (hs : slots ≤ 40000) (hi : i + 4 < L) (hl : lv_has ls 7 [(4, .int (nI i)), (3, .ref (ob)), (2, .ref (mb)), (1, .ref (x)), (0, .ref (b))]) (htr : l.stackTraces = false) (hn : n ≤ 4) (hE : hq_E x s) (hNc : va_Nc "java/lang/IllegalStateException" "java/lang/IllegalArgumentException" s) (hr : r ≤ 1000) (hI : LI D cI cZ cN cJ x n mb ob s r H) (KK : ∀ (H2 : Heap) (locs : List Loc) (ls : Array Slot) (cells2 slots2 : Nat), cells2 ≤ cells + 1 → slots2 ≤ slots + 6 → hq_L x locs → LI D cI cZ cN cJ x n mb ob s (r + 1) H2 → lv_has ls 7 [(4, .int (nI i)), (3, .ref (ob)), (2, .ref (mb)), (1, .ref (x)), (0, .ref (b))] → W p l e room_1 s m #[Value.ref b] below meth c H2 locs cells2 slots2 (lw_Z below #[Value.ref b] s) (F0 m 455 ls [])) : W p l e room_1 s m #[Value.ref b] below meth c H locs cells slots (lw_Z below #[Value.ref b] s) (F0 m 331 ls []) := by
  obtain ⟨u, A, th, f, k, hk, okb, oka, h0, hsb, hg⟩ := hI
  rcases l_ix (xs (i + 1)) (n := n) (by omega) with h | ⟨j, hj, h⟩
  · have hw := w_count_A l D cI cZ cN cJ x x n (fun q => nOf (u.1 q)) (fun q => rOf (u.1 q)) u.2.1 u.2.2 ob (xs (i + 1)) (xs (i + 2)) (t_count_n l D cI cZ cN cJ x htr x n (fun q => nOf (u.1 q)) (fun q => rOf (u.1 q)) u.2.1 u.2.2 (xs (i + 1)) (xs (i + 2)) h)
    have hm := c_M_count_n l D cI cZ cN cJ x mb n (by omega) th A (xs (i + 1)) (xs (i + 2)) h
    exact l_count C hml hret hlk hx hmb hob hX hLN hb hL (by omega) (by omega) hi hl hg (rm := { frames := 8, cells := 1, slots := 6, locals := 160 }) ⟨⟨Nat.le_of_ble_eq_true rfl, Nat.le_of_ble_eq_true rfl⟩, (by show cells + 1 ≤ 601024; omega), (by show slots + 6 ≤ 7293000; omega)⟩ (Nat.le_refl 1) (Nat.le_refl 6) (fun _ _ _ _ h => ⟨hq_E.call h.1, h.2⟩) (l_PE hE hg.1 hg.2.1) hw (fun v H1 hp => g_A hmb hob hg hp) hm (fun H2 locs ls c2 s2 e1 e2 hL hg2 hl => KK _ _ _ _ _ e1 e2 hL ⟨u, _, _, _, k, by omega, okb, (ok_M_count_n A (xs (i + 1)) (xs (i + 2)) oka), ((t0_M_count_n A (xs (i + 1)) (xs (i + 2))).trans h0), hsb, hg2⟩ hl)
  · rcases l_5 (xs (i + 2)) with g | ⟨q, hq, g⟩
    · have hw := w_count_A l D cI cZ cN cJ x x n (fun q => nOf (u.1 q)) (fun q => rOf (u.1 q)) u.2.1 u.2.2 ob (nI j) (xs (i + 2)) (t_count_f l D cI cZ cN cJ x htr x n (fun q => nOf (u.1 q)) (fun q => rOf (u.1 q)) u.2.1 u.2.2 j hn hj (xs (i + 2)) g)
      rw [← h] at hw
      have hm := c_M_count l D cI cZ cN cJ x mb n (by omega) th A j (by omega) (xs (i + 2)) hn hj
      rw [← h] at hm
      exact l_count C hml hret hlk hx hmb hob hX hLN hb hL (by omega) (by omega) hi hl hg (rm := { frames := 8, cells := 1, slots := 6, locals := 160 }) ⟨⟨Nat.le_of_ble_eq_true rfl, Nat.le_of_ble_eq_true rfl⟩, (by show cells + 1 ≤ 601024; omega), (by show slots + 6 ≤ 7293000; omega)⟩ (Nat.le_refl 1) (Nat.le_refl 6) (fun _ _ _ _ h => ⟨hq_E.call h.1, h.2⟩) (l_PE hE hg.1 hg.2.1) hw (fun v H1 hp => g_A hmb hob hg hp) hm (fun H2 locs ls c2 s2 e1 e2 hL hg2 hl => KK _ _ _ _ _ e1 e2 hL ⟨u, _, _, _, k, by omega, okb, (ok_M_count A j (by omega) (xs (i + 2)) oka), ((t0_M_count A j (by omega) (xs (i + 2))).trans h0), (by rw [q_countf g]; exact hsb), hg2⟩ hl)
    · have hk9 : q = 0 ∨ q = 1 ∨ q = 2 ∨ q = 3 ∨ q = 4 := by omega
      rcases hk9 with rfl | rfl | rfl | rfl | rfl
      · have hw := w_count_R l D cI cZ cN cJ x x n ob (nI j) (nI 0) (nOf (u.1 j) 2) f (Nat.le_refl x) (by omega) (fun H => busP D cI cZ cN x n (fun q => nOf (u.1 q)) (fun q => rOf (u.1 q)) u.2.1 u.2.2 H) (fun e H H1 h hu => bus_to (BuP_u (bus_of h) hu (by omega))) (fun H h => h.1 0 (by decide)) (c_count_0 l D cI cZ cN cJ x x n (fun q => nOf (u.1 q)) (fun q => rOf (u.1 q)) u.2.1 u.2.2 j hn hj)
        rw [← h, ← g] at hw
        have hm := c_M_count l D cI cZ cN cJ x mb n (by omega) th A j (by omega) (xs (i + 2)) hn hj
        rw [← h] at hm
        exact l_count C hml hret hlk hx hmb hob hX hLN hb hL (by omega) (by omega) hi hl hg (rm := { frames := 4, cells := 0, slots := 0, locals := 120 }) ⟨⟨Nat.le_of_ble_eq_true rfl, Nat.le_of_ble_eq_true rfl⟩, (by show cells + 0 ≤ 601024; omega), (by show slots + 0 ≤ 7293000; omega)⟩ (Nat.zero_le 1) (Nat.zero_le 6) (fun _ _ _ _ h => h) (fun U hU hW => by show busP D cI cZ cN x n (fun q => nOf (u.1 q)) (fun q => rOf (u.1 q)) u.2.1 u.2.2 U.heap ∧ va_at D vwCl (ob, outC cJ f) U.heap; rw [hU]; exact ⟨bus_to hg.2.1, hg.2.2.2.1⟩) hw (fun v H1 hp => g_R hmb hob hg ⟨hp.1, hp.2.1, bus_of hp.2.2.1, hp.2.2.2.1, hp.2.2.2.2⟩) hm (fun H2 locs ls c2 s2 e1 e2 hL hg2 hl => KK _ _ _ _ _ e1 e2 hL ⟨u, _, _, _, k, by omega, okb, (ok_M_count A j (by omega) (xs (i + 2)) oka), ((t0_M_count A j (by omega) (xs (i + 2))).trans h0), (by rw [g, (q_count hsb hj).1]; exact hsb), hg2⟩ hl)
      · have hw := w_count_R l D cI cZ cN cJ x x n ob (nI j) (nI 1) (nOf (u.1 j) 3) f (Nat.le_refl x) (by omega) (fun H => busP D cI cZ cN x n (fun q => nOf (u.1 q)) (fun q => rOf (u.1 q)) u.2.1 u.2.2 H) (fun e H H1 h hu => bus_to (BuP_u (bus_of h) hu (by omega))) (fun H h => h.1 0 (by decide)) (c_count_1 l D cI cZ cN cJ x x n (fun q => nOf (u.1 q)) (fun q => rOf (u.1 q)) u.2.1 u.2.2 j hn hj)
        rw [← h, ← g] at hw
        have hm := c_M_count l D cI cZ cN cJ x mb n (by omega) th A j (by omega) (xs (i + 2)) hn hj
        rw [← h] at hm
        exact l_count C hml hret hlk hx hmb hob hX hLN hb hL (by omega) (by omega) hi hl hg (rm := { frames := 4, cells := 0, slots := 0, locals := 120 }) ⟨⟨Nat.le_of_ble_eq_true rfl, Nat.le_of_ble_eq_true rfl⟩, (by show cells + 0 ≤ 601024; omega), (by show slots + 0 ≤ 7293000; omega)⟩ (Nat.zero_le 1) (Nat.zero_le 6) (fun _ _ _ _ h => h) (fun U hU hW => by show busP D cI cZ cN x n (fun q => nOf (u.1 q)) (fun q => rOf (u.1 q)) u.2.1 u.2.2 U.heap ∧ va_at D vwCl (ob, outC cJ f) U.heap; rw [hU]; exact ⟨bus_to hg.2.1, hg.2.2.2.1⟩) hw (fun v H1 hp => g_R hmb hob hg ⟨hp.1, hp.2.1, bus_of hp.2.2.1, hp.2.2.2.1, hp.2.2.2.2⟩) hm (fun H2 locs ls c2 s2 e1 e2 hL hg2 hl => KK _ _ _ _ _ e1 e2 hL ⟨u, _, _, _, k, by omega, okb, (ok_M_count A j (by omega) (xs (i + 2)) oka), ((t0_M_count A j (by omega) (xs (i + 2))).trans h0), (by rw [g, (q_count hsb hj).2.1]; exact hsb), hg2⟩ hl)
      · have hw := w_count_R l D cI cZ cN cJ x x n ob (nI j) (nI 2) (nOf (u.1 j) 13) f (Nat.le_refl x) (by omega) (fun H => busP D cI cZ cN x n (fun q => nOf (u.1 q)) (fun q => rOf (u.1 q)) u.2.1 u.2.2 H) (fun e H H1 h hu => bus_to (BuP_u (bus_of h) hu (by omega))) (fun H h => h.1 0 (by decide)) (c_count_2 l D cI cZ cN cJ x x n (fun q => nOf (u.1 q)) (fun q => rOf (u.1 q)) u.2.1 u.2.2 j hn hj)
        rw [← h, ← g] at hw
        have hm := c_M_count l D cI cZ cN cJ x mb n (by omega) th A j (by omega) (xs (i + 2)) hn hj
        rw [← h] at hm
        exact l_count C hml hret hlk hx hmb hob hX hLN hb hL (by omega) (by omega) hi hl hg (rm := { frames := 4, cells := 0, slots := 0, locals := 120 }) ⟨⟨Nat.le_of_ble_eq_true rfl, Nat.le_of_ble_eq_true rfl⟩, (by show cells + 0 ≤ 601024; omega), (by show slots + 0 ≤ 7293000; omega)⟩ (Nat.zero_le 1) (Nat.zero_le 6) (fun _ _ _ _ h => h) (fun U hU hW => by show busP D cI cZ cN x n (fun q => nOf (u.1 q)) (fun q => rOf (u.1 q)) u.2.1 u.2.2 U.heap ∧ va_at D vwCl (ob, outC cJ f) U.heap; rw [hU]; exact ⟨bus_to hg.2.1, hg.2.2.2.1⟩) hw (fun v H1 hp => g_R hmb hob hg ⟨hp.1, hp.2.1, bus_of hp.2.2.1, hp.2.2.2.1, hp.2.2.2.2⟩) hm (fun H2 locs ls c2 s2 e1 e2 hL hg2 hl => KK _ _ _ _ _ e1 e2 hL ⟨u, _, _, _, k, by omega, okb, (ok_M_count A j (by omega) (xs (i + 2)) oka), ((t0_M_count A j (by omega) (xs (i + 2))).trans h0), (by rw [g, (q_count hsb hj).2.2.1]; exact hsb), hg2⟩ hl)
      · have hw := w_count_R l D cI cZ cN cJ x x n ob (nI j) (nI 3) (nOf (u.1 j) 14) f (Nat.le_refl x) (by omega) (fun H => busP D cI cZ cN x n (fun q => nOf (u.1 q)) (fun q => rOf (u.1 q)) u.2.1 u.2.2 H) (fun e H H1 h hu => bus_to (BuP_u (bus_of h) hu (by omega))) (fun H h => h.1 0 (by decide)) (c_count_3 l D cI cZ cN cJ x x n (fun q => nOf (u.1 q)) (fun q => rOf (u.1 q)) u.2.1 u.2.2 j hn hj)
        rw [← h, ← g] at hw
        have hm := c_M_count l D cI cZ cN cJ x mb n (by omega) th A j (by omega) (xs (i + 2)) hn hj
        rw [← h] at hm
        exact l_count C hml hret hlk hx hmb hob hX hLN hb hL (by omega) (by omega) hi hl hg (rm := { frames := 4, cells := 0, slots := 0, locals := 120 }) ⟨⟨Nat.le_of_ble_eq_true rfl, Nat.le_of_ble_eq_true rfl⟩, (by show cells + 0 ≤ 601024; omega), (by show slots + 0 ≤ 7293000; omega)⟩ (Nat.zero_le 1) (Nat.zero_le 6) (fun _ _ _ _ h => h) (fun U hU hW => by show busP D cI cZ cN x n (fun q => nOf (u.1 q)) (fun q => rOf (u.1 q)) u.2.1 u.2.2 U.heap ∧ va_at D vwCl (ob, outC cJ f) U.heap; rw [hU]; exact ⟨bus_to hg.2.1, hg.2.2.2.1⟩) hw (fun v H1 hp => g_R hmb hob hg ⟨hp.1, hp.2.1, bus_of hp.2.2.1, hp.2.2.2.1, hp.2.2.2.2⟩) hm (fun H2 locs ls c2 s2 e1 e2 hL hg2 hl => KK _ _ _ _ _ e1 e2 hL ⟨u, _, _, _, k, by omega, okb, (ok_M_count A j (by omega) (xs (i + 2)) oka), ((t0_M_count A j (by omega) (xs (i + 2))).trans h0), (by rw [g, (q_count hsb hj).2.2.2.1]; exact hsb), hg2⟩ hl)
      · have hw := w_count_R l D cI cZ cN cJ x x n ob (nI j) (nI 4) (nOf (u.1 j) 4) f (Nat.le_refl x) (by omega) (fun H => busP D cI cZ cN x n (fun q => nOf (u.1 q)) (fun q => rOf (u.1 q)) u.2.1 u.2.2 H) (fun e H H1 h hu => bus_to (BuP_u (bus_of h) hu (by omega))) (fun H h => h.1 0 (by decide)) (c_count_4 l D cI cZ cN cJ x x n (fun q => nOf (u.1 q)) (fun q => rOf (u.1 q)) u.2.1 u.2.2 j hn hj)
        rw [← h, ← g] at hw
        have hm := c_M_count l D cI cZ cN cJ x mb n (by omega) th A j (by omega) (xs (i + 2)) hn hj
        rw [← h] at hm
        exact l_count C hml hret hlk hx hmb hob hX hLN hb hL (by omega) (by omega) hi hl hg (rm := { frames := 4, cells := 0, slots := 0, locals := 120 }) ⟨⟨Nat.le_of_ble_eq_true rfl, Nat.le_of_ble_eq_true rfl⟩, (by show cells + 0 ≤ 601024; omega), (by show slots + 0 ≤ 7293000; omega)⟩ (Nat.zero_le 1) (Nat.zero_le 6) (fun _ _ _ _ h => h) (fun U hU hW => by show busP D cI cZ cN x n (fun q => nOf (u.1 q)) (fun q => rOf (u.1 q)) u.2.1 u.2.2 U.heap ∧ va_at D vwCl (ob, outC cJ f) U.heap; rw [hU]; exact ⟨bus_to hg.2.1, hg.2.2.2.1⟩) hw (fun v H1 hp => g_R hmb hob hg ⟨hp.1, hp.2.1, bus_of hp.2.2.1, hp.2.2.2.1, hp.2.2.2.2⟩) hm (fun H2 locs ls c2 s2 e1 e2 hL hg2 hl => KK _ _ _ _ _ e1 e2 hL ⟨u, _, _, _, k, by omega, okb, (ok_M_count A j (by omega) (xs (i + 2)) oka), ((t0_M_count A j (by omega) (xs (i + 2))).trans h0), (by rw [g, (q_count hsb hj).2.2.2.2]; exact hsb), hg2⟩ hl)
set_option maxHeartbeats 4000000 in
set_option maxRecDepth 100000 in
theorem o_take (C : hq_C p c s m #[Value.ref b] R_L code TB D vwCl (TY cI cZ cN cJ)) (hml : c.maxLocals = 7) (hret : meth.sig.returnType = ret) (hlk : meth.locks = false) (hx : s.heap.size = x) (hmb : mb = x + 4 + 10 * n) (hob : ob = mb + 31) (hX : va_X b L xs s s.heap) (hLN : L ≤ 2561) (hb : b < x) (hL : hq_L x locs) (hc : cells ≤ 4000) (hs : slots ≤ 40000) (hi : i + 4 < L) (hl : lv_has ls 7 [(4, .int (nI i)), (3, .ref (ob)), (2, .ref (mb)), (1, .ref (x)), (0, .ref (b))]) (htr : l.stackTraces = false) (hn : n ≤ 4) (hE : hq_E x s) (hNc : va_Nc "java/lang/IllegalStateException" "java/lang/IllegalArgumentException" s) (hr : r ≤ 1000) (hI : LI D cI cZ cN cJ x n mb ob s r H) (KK : ∀ (H2 : Heap) (locs : List Loc) (ls : Array Slot) (cells2 slots2 : Nat), cells2 ≤ cells + 1 → slots2 ≤ slots + 6 → hq_L x locs → LI D cI cZ cN cJ x n mb ob s (r + 1) H2 → lv_has ls 7 [(4, .int (nI i)), (3, .ref (ob)), (2, .ref (mb)), (1, .ref (x)), (0, .ref (b))] → W p l e room_1 s m #[Value.ref b] below meth c H2 locs cells2 slots2 (lw_Z below #[Value.ref b] s) (F0 m 455 ls [])) : W p l e room_1 s m #[Value.ref b] below meth c H locs cells slots (lw_Z below #[Value.ref b] s) (F0 m 371 ls []) := by
  obtain ⟨u, A, th, f, k, hk, okb, oka, h0, hsb, hg⟩ := hI
  rcases l_ix (xs (i + 1)) (n := n) (by omega) with h | ⟨j, hj, h⟩
  · have hw := w_take_A l D cI cZ cN cJ x x n (fun q => nOf (u.1 q)) (fun q => rOf (u.1 q)) u.2.1 u.2.2 ob (xs (i + 1)) (t_take_n l D cI cZ cN cJ x htr x n (fun q => nOf (u.1 q)) (fun q => rOf (u.1 q)) u.2.1 u.2.2 (xs (i + 1)) h)
    have hm := c_M_take_n l D cI cZ cN cJ x mb n (by omega) th A (xs (i + 1)) h
    exact l_take C hml hret hlk hx hmb hob hX hLN hb hL (by omega) (by omega) hi hl hg (rm := { frames := 8, cells := 1, slots := 6, locals := 160 }) ⟨⟨Nat.le_of_ble_eq_true rfl, Nat.le_of_ble_eq_true rfl⟩, (by show cells + 1 ≤ 601024; omega), (by show slots + 6 ≤ 7293000; omega)⟩ (Nat.le_refl 1) (Nat.le_refl 6) (fun _ _ _ _ h => ⟨hq_E.call h.1, h.2⟩) (l_PE hE hg.1 hg.2.1) hw (fun v H1 hp => g_A hmb hob hg hp) hm (rfl) (fun h9 => absurd h9 (by decide)) (fun H2 locs ls c2 s2 e1 e2 hL hg2 hl => KK _ _ _ _ _ e1 e2 hL ⟨u, _, _, _, k, by omega, okb, (ok_M_take_n A (xs (i + 1)) oka), ((t0_M_take_n A (xs (i + 1))).trans h0), hsb, hg2⟩ hl)
  · by_cases hz : (u.1 j).i.k = 0
    · have hw := w_take_S l D cI cZ cN cJ x x n (fun q => nOf (u.1 q)) (fun q => rOf (u.1 q)) u.2.1 u.2.2 ob (nI j) (t_take_e l D cI cZ cN cJ x htr x n (fun q => nOf (u.1 q)) (fun q => rOf (u.1 q)) u.2.1 u.2.2 j hn hj (congrArg nI hz))
      rw [← h] at hw
      have hm := c_M_take l D cI cZ cN cJ x mb n (by omega) th A j (by omega)  hn hj oka
      rw [← h] at hm
      exact l_take C hml hret hlk hx hmb hob hX hLN hb hL (by omega) (by omega) hi hl hg (rm := { frames := 8, cells := 1, slots := 6, locals := 160 }) ⟨⟨Nat.le_of_ble_eq_true rfl, Nat.le_of_ble_eq_true rfl⟩, (by show cells + 1 ≤ 601024; omega), (by show slots + 6 ≤ 7293000; omega)⟩ (Nat.le_refl 1) (Nat.le_refl 6) (fun _ _ _ _ h => ⟨hq_E.call h.1, h.2⟩) (l_PS hNc hE hg.1 hg.2.1) hw (fun v H1 hp => g_A hmb hob hg hp) hm (by rw [q_takee hsb hj hz]) (fun h9 => absurd h9 (by decide)) (fun H2 locs ls c2 s2 e1 e2 hL hg2 hl => KK _ _ _ _ _ e1 e2 hL ⟨u, _, _, _, k, by omega, okb, (ok_M_take A j (by omega)  oka), ((t0_M_take A j (by omega) ).trans h0), (by rw [q_takee hsb hj hz]; exact hsb), hg2⟩ hl)
    · have hw := w_take_R l D cI cZ cN cJ x x n ob (nI j) ((f_Fr_remove (u.1 j).i 0).2) f (Nat.le_refl x) (by omega) (fun H => BuP D cI cZ cN x n u H) (fun H => BuP D cI cZ cN x n (setB u j (f_X_take (u.1 j))) H) (fun e H H1 h hu => BuP_u h hu (by omega)) (fun H h => h.1 0 (by decide)) (c_X_take l D cI cZ cN cJ x x n k u (Nat.le_refl x) hn okb j hj (by omega))
      rw [← h] at hw
      have hm := c_M_take l D cI cZ cN cJ x mb n (by omega) th A j (by omega)  hn hj oka
      rw [← h] at hm
      exact l_take C hml hret hlk hx hmb hob hX hLN hb hL (by omega) (by omega) hi hl hg (rm := { frames := 4, cells := 0, slots := 0, locals := 120 }) ⟨⟨Nat.le_of_ble_eq_true rfl, Nat.le_of_ble_eq_true rfl⟩, (by show cells + 0 ≤ 601024; omega), (by show slots + 0 ≤ 7293000; omega)⟩ (Nat.zero_le 1) (Nat.zero_le 6) (fun _ _ _ _ h => h) (fun U hU hW => by show BuP D cI cZ cN x n u U.heap ∧ va_at D vwCl (ob, outC cJ f) U.heap; rw [hU]; exact ⟨hg.2.1, hg.2.2.2.1⟩) hw (fun v H1 hp => g_R hmb hob hg ⟨hp.1, hp.2.1, hp.2.2.1, hp.2.2.2.1, hp.2.2.2.2⟩) hm ((q_take hn hsb hj (by omega)).2.1) (fun _ => by rw [(q_take hn hsb hj (by omega)).2.2]; exact pk_uLs) (fun H2 locs ls c2 s2 e1 e2 hL hg2 hl => KK _ _ _ _ _ e1 e2 hL ⟨setB u j (f_X_take (u.1 j)), _, _, _, k, by omega, (okB_set okb (ok_X_take (okb.1 j hj))), (ok_M_take A j (by omega)  oka), ((t0_M_take A j (by omega) ).trans h0), (q_take hn hsb hj (by omega)).1, hg2⟩ hl)
set_option maxHeartbeats 4000000 in
set_option maxRecDepth 100000 in
theorem o_total (C : hq_C p c s m #[Value.ref b] R_L code TB D vwCl (TY cI cZ cN cJ)) (hml : c.maxLocals = 7) (hret : meth.sig.returnType = ret) (hlk : meth.locks = false) (hx : s.heap.size = x) (hmb : mb = x + 4 + 10 * n) (hob : ob = mb + 31) (hX : va_X b L xs s s.heap) (hLN : L ≤ 2561) (hb : b < x) (hL : hq_L x locs) (hc : cells ≤ 4000) (hs : slots ≤ 40000) (hi : i + 4 < L) (hl : lv_has ls 7 [(4, .int (nI i)), (3, .ref (ob)), (2, .ref (mb)), (1, .ref (x)), (0, .ref (b))]) (htr : l.stackTraces = false) (hn : n ≤ 4) (hE : hq_E x s) (hNc : va_Nc "java/lang/IllegalStateException" "java/lang/IllegalArgumentException" s) (hr : r ≤ 1000) (hI : LI D cI cZ cN cJ x n mb ob s r H) (KK : ∀ (H2 : Heap) (locs : List Loc) (ls : Array Slot) (cells2 slots2 : Nat), cells2 ≤ cells + 1 → slots2 ≤ slots + 6 → hq_L x locs → LI D cI cZ cN cJ x n mb ob s (r + 1) H2 → lv_has ls 7 [(4, .int (nI i)), (3, .ref (ob)), (2, .ref (mb)), (1, .ref (x)), (0, .ref (b))] → W p l e room_1 s m #[Value.ref b] below meth c H2 locs cells2 slots2 (lw_Z below #[Value.ref b] s) (F0 m 455 ls [])) : W p l e room_1 s m #[Value.ref b] below meth c H locs cells slots (lw_Z below #[Value.ref b] s) (F0 m 427 ls []) := by
  obtain ⟨u, A, th, f, k, hk, okb, oka, h0, hsb, hg⟩ := hI
  rcases l_8 (xs (i + 1)) with g | ⟨q, hq, g⟩
  · have hw := w_total_A l D cI cZ cN cJ x x n (fun q => nOf (u.1 q)) (fun q => rOf (u.1 q)) u.2.1 u.2.2 ob (xs (i + 1)) (t_total l D cI cZ cN cJ x htr x n (fun q => nOf (u.1 q)) (fun q => rOf (u.1 q)) u.2.1 u.2.2 (xs (i + 1)) g)
    have hm := c_M_total l D cI cZ cN cJ x mb n (by omega) th A (xs (i + 1))
    exact l_total C hml hret hlk hx hmb hob hX hLN hb hL (by omega) (by omega) hi hl hg (rm := { frames := 8, cells := 1, slots := 6, locals := 160 }) ⟨⟨Nat.le_of_ble_eq_true rfl, Nat.le_of_ble_eq_true rfl⟩, (by show cells + 1 ≤ 601024; omega), (by show slots + 6 ≤ 7293000; omega)⟩ (Nat.le_refl 1) (Nat.le_refl 6) (fun _ _ _ _ h => ⟨hq_E.call h.1, h.2⟩) (l_PE hE hg.1 hg.2.1) hw (fun v H1 hp => g_A hmb hob hg hp) hm (fun H2 locs ls c2 s2 e1 e2 hL hg2 hl => KK _ _ _ _ _ e1 e2 hL ⟨u, _, _, _, k, by omega, okb, (ok_M_total A (xs (i + 1)) oka), ((t0_M_total A (xs (i + 1))).trans h0), (by rw [tt_A]; exact hsb), hg2⟩ hl)
  · have hw := w_total_R l D cI cZ cN cJ x x n ob (nI q) (u.2.2 q) f (Nat.le_refl x) (by omega) (fun H => busP D cI cZ cN x n (fun q => nOf (u.1 q)) (fun q => rOf (u.1 q)) u.2.1 u.2.2 H) (fun e H H1 h hu => bus_to (BuP_u (bus_of h) hu (by omega))) (fun H h => h.1 0 (by decide)) (c_total l D cI cZ cN cJ x x n (fun q => nOf (u.1 q)) (fun q => rOf (u.1 q)) u.2.1 u.2.2 q hq)
    rw [← g] at hw
    have hm := c_M_total l D cI cZ cN cJ x mb n (by omega) th A (xs (i + 1))
    exact l_total C hml hret hlk hx hmb hob hX hLN hb hL (by omega) (by omega) hi hl hg (rm := { frames := 4, cells := 0, slots := 0, locals := 120 }) ⟨⟨Nat.le_of_ble_eq_true rfl, Nat.le_of_ble_eq_true rfl⟩, (by show cells + 0 ≤ 601024; omega), (by show slots + 0 ≤ 7293000; omega)⟩ (Nat.zero_le 1) (Nat.zero_le 6) (fun _ _ _ _ h => h) (fun U hU hW => by show busP D cI cZ cN x n (fun q => nOf (u.1 q)) (fun q => rOf (u.1 q)) u.2.1 u.2.2 U.heap ∧ va_at D vwCl (ob, outC cJ f) U.heap; rw [hU]; exact ⟨bus_to hg.2.1, hg.2.2.2.1⟩) hw (fun v H1 hp => g_R hmb hob hg ⟨hp.1, hp.2.1, bus_of hp.2.2.1, hp.2.2.2.1, hp.2.2.2.2⟩) hm (fun H2 locs ls c2 s2 e1 e2 hL hg2 hl => KK _ _ _ _ _ e1 e2 hL ⟨u, _, _, _, k, by omega, okb, (ok_M_total A (xs (i + 1)) oka), ((t0_M_total A (xs (i + 1))).trans h0), (by rw [tt_A]; exact hsb), hg2⟩ hl)
set_option maxHeartbeats 4000000 in
set_option maxRecDepth 100000 in
theorem l_switch (C : hq_C p c s m #[Value.ref b] R_L code TB D vwCl (TY cI cZ cN cJ)) (hml : c.maxLocals = 7) (hret : meth.sig.returnType = ret) (hlk : meth.locks = false) (hx : s.heap.size = x) (hmb : mb = x + 4 + 10 * n) (hob : ob = mb + 31) (hX : va_X b L xs s s.heap) (hLN : L ≤ 2561) (hb : b < x) (hL : hq_L x locs) (hc : cells ≤ 4000) (hs : slots ≤ 40000) (hi : i + 4 < L) (hl : lv_has ls 7 [(4, .int (nI i)), (3, .ref (ob)), (2, .ref (mb)), (1, .ref (x)), (0, .ref (b))]) (htr : l.stackTraces = false) (hn : n ≤ 4) (hE : hq_E x s) (hNc : va_Nc "java/lang/IllegalStateException" "java/lang/IllegalArgumentException" s) (hr : r ≤ 1000) (hI : LI D cI cZ cN cJ x n mb ob s r H) (KK : ∀ (H2 : Heap) (locs : List Loc) (ls : Array Slot) (cells2 slots2 : Nat), cells2 ≤ cells + 1 → slots2 ≤ slots + 6 → hq_L x locs → LI D cI cZ cN cJ x n mb ob s (r + 1) H2 → lv_has ls 7 [(4, .int (nI i)), (3, .ref (ob)), (2, .ref (mb)), (1, .ref (x)), (0, .ref (b))] → W p l e room_1 s m #[Value.ref b] below meth c H2 locs cells2 slots2 (lw_Z below #[Value.ref b] s) (F0 m 455 ls [])) : W p l e room_1 s m #[Value.ref b] below meth c H locs cells slots (lw_Z below #[Value.ref b] s) (F0 m 49 ls [.int (xs i &&& 15)]) := by
  obtain ⟨q, hq, hq2⟩ := pk_andE (xs i) (m := 15) 4 (by decide)
  rw [hq2]
  by_cases h9 : 9 ≤ q
  · refine lv_tableOut (tgt := 455) C.1 C.2.1 d_law_49 (Or.inr (by rw [nI_toInt (by omega)]; omega)) (by decide) ?_
    obtain ⟨u, A, th, f, k, hk, okb, oka, h0, hsb, hg⟩ := hI
    exact KK _ _ _ _ _ (by omega) (by omega) hL ⟨u, A, th, f, k, by omega, okb, oka, h0, hsb, hg⟩ hl
  · have hk9 : q = 0 ∨ q = 1 ∨ q = 2 ∨ q = 3 ∨ q = 4 ∨ q = 5 ∨ q = 6 ∨ q = 7 ∨ q = 8 := by omega
    rcases hk9 with rfl | rfl | rfl | rfl | rfl | rfl | rfl | rfl | rfl
    · refine lv_tableIn (tgt := 100) C.1 C.2.1 d_law_49 (by decide) (by decide) (off := 51) (by decide) (by decide) ?_
      exact o_request C hml hret hlk hx hmb hob hX hLN hb hL hc hs hi hl htr hn hE hNc hr hI KK
    · refine lv_tableIn (tgt := 164) C.1 C.2.1 d_law_49 (by decide) (by decide) (off := 115) (by decide) (by decide) ?_
      exact o_filter C hml hret hlk hx hmb hob hX hLN hb hL hc hs hi hl htr hn hE hNc hr hI KK
    · refine lv_tableIn (tgt := 213) C.1 C.2.1 d_law_49 (by decide) (by decide) (off := 164) (by decide) (by decide) ?_
      exact o_disturb C hml hret hlk hx hmb hob hX hLN hb hL hc hs hi hl htr hn hE hNc hr hI KK
    · refine lv_tableIn (tgt := 250) C.1 C.2.1 d_law_49 (by decide) (by decide) (off := 201) (by decide) (by decide) ?_
      exact o_pass C hml hret hlk hx hmb hob hX hLN hb hL hc hs hi hl htr hn hE hNc hr hI KK
    · refine lv_tableIn (tgt := 278) C.1 C.2.1 d_law_49 (by decide) (by decide) (off := 229) (by decide) (by decide) ?_
      exact o_level C hml hret hlk hx hmb hob hX hLN hb hL hc hs hi hl htr hn hE hNc hr hI KK
    · refine lv_tableIn (tgt := 303) C.1 C.2.1 d_law_49 (by decide) (by decide) (off := 254) (by decide) (by decide) ?_
      exact o_state C hml hret hlk hx hmb hob hX hLN hb hL hc hs hi hl htr hn hE hNc hr hI KK
    · refine lv_tableIn (tgt := 331) C.1 C.2.1 d_law_49 (by decide) (by decide) (off := 282) (by decide) (by decide) ?_
      exact o_count C hml hret hlk hx hmb hob hX hLN hb hL hc hs hi hl htr hn hE hNc hr hI KK
    · refine lv_tableIn (tgt := 371) C.1 C.2.1 d_law_49 (by decide) (by decide) (off := 322) (by decide) (by decide) ?_
      exact o_take C hml hret hlk hx hmb hob hX hLN hb hL hc hs hi hl htr hn hE hNc hr hI KK
    · refine lv_tableIn (tgt := 427) C.1 C.2.1 d_law_49 (by decide) (by decide) (off := 378) (by decide) (by decide) ?_
      exact o_total C hml hret hlk hx hmb hob hX hLN hb hL hc hs hi hl htr hn hE hNc hr hI KK
theorem lw_sub5 {L : Nat} (hL : L ≤ 2 ^ 29) : (nI L - 5).toInt = (L : Int) - 5 := by
  rw [show (5 : Int32) = nI 5 from rfl, pk_sub_toInt (by omega) (by decide)]; rfl
theorem lw_lt {L i : Nat} (h : ¬ i + 4 < L) (hL : L ≤ 2 ^ 29) (hi : i ≤ 2 ^ 29) : nI L - 5 < nI i := by
  rw [Int32.lt_iff_toInt_lt, lw_sub5 hL, nI_toInt (by omega)]; omega
theorem lw_nlt {L i : Nat} (h : i + 4 < L) (hL : L ≤ 2 ^ 29) : ¬ nI L - 5 < nI i := by
  rw [Int32.lt_iff_toInt_lt, lw_sub5 hL, nI_toInt (by omega)]; omega
set_option maxHeartbeats 4000000 in
set_option maxRecDepth 100000 in
theorem l_loop (C : hq_C p c s m #[Value.ref b] R_L code TB D vwCl (TY cI cZ cN cJ)) (hml : c.maxLocals = 7) (hret : meth.sig.returnType = ret) (hlk : meth.locks = false) (hx : s.heap.size = x) (hmb : mb = x + 4 + 10 * n) (hob : ob = mb + 31) (hX : va_X b L xs s s.heap) (hLN : L ≤ 2561) (hb : b < x) (htr : l.stackTraces = false) (hn : n ≤ 4) (hE : hq_E x s) (hNc : va_Nc "java/lang/IllegalStateException" "java/lang/IllegalArgumentException" s) :
    ∀ (d i r : Nat) (H : Heap) (locs : List Loc) (ls : Array Slot) (cells slots : Nat), L ≤ i + 4 + 5 * d → i = 1 + 5 * r ∧ r ≤ 512 → cells ≤ 200 + r → slots ≤ 20000 + 6 * r → hq_L x locs → LI D cI cZ cN cJ x n mb ob s r H → lv_has ls 7 [(4, .int (nI i)), (3, .ref (ob)), (2, .ref (mb)), (1, .ref (x)), (0, .ref (b))] →
      W p l e room_1 s m #[Value.ref b] below meth c H locs cells slots (lw_Z below #[Value.ref b] s) (F0 m 33 ls []) := by
  intro d
  induction d with
  | zero =>
    intro i r H locs ls cells slots hd hir hc hs hL hI hl
    have hO : hq_O x s.heap H := by obtain ⟨_, _, _, _, _, _, _, _, _, _, hg⟩ := hI; exact hg.1
    refine lv_iload C.1 C.2.1 d_law_33 (lv_at hl 0 rfl) ?_
    refine lv_aload_n C.1 C.2.1 d_law_35 rfl (lv_at hl 4 rfl) ?_
    refine hq_slen C hX (by omega) (hx ▸ hO) d_law_36 ?_
    refine lv_iconst (v := 5) C.1 C.2.1 d_law_37 (by decide) ?_
    refine lv_isub C.1 C.2.1 d_law_38 ?_
    have h9 : nI L - 5 < nI i := lw_lt (by omega) (by omega) (by omega)
    refine lv_icmp_gt (tgt := 461) C.1 C.2.1 d_law_39 (by decide) (fun _ => ?_) (fun hn => absurd (h9) hn)
    exact l_ret C hml hret hlk (hx ▸ hL) (by omega) (by omega)
  | succ d ih =>
    intro i r H locs ls cells slots hd hir hc hs hL hI hl
    have hO : hq_O x s.heap H := by obtain ⟨_, _, _, _, _, _, _, _, _, _, hg⟩ := hI; exact hg.1
    refine lv_iload C.1 C.2.1 d_law_33 (lv_at hl 0 rfl) ?_
    refine lv_aload_n C.1 C.2.1 d_law_35 rfl (lv_at hl 4 rfl) ?_
    refine hq_slen C hX (by omega) (hx ▸ hO) d_law_36 ?_
    refine lv_iconst (v := 5) C.1 C.2.1 d_law_37 (by decide) ?_
    refine lv_isub C.1 C.2.1 d_law_38 ?_
    by_cases hlt : i + 4 < L
    · skip
      have h9 : ¬ nI L - 5 < nI i := lw_nlt (by omega) (by omega)
      refine lv_icmp_gt (tgt := 461) C.1 C.2.1 d_law_39 (by decide) (fun hn => absurd hn (h9)) (fun _ => ?_)
      refine lv_aload_n C.1 C.2.1 d_law_42 rfl (lv_at hl 4 rfl) ?_
      refine lv_iload C.1 C.2.1 d_law_43 (lv_at hl 0 rfl) ?_
      refine l_ld0 C hX hLN hx hb hO (by omega) d_law_45 ?_
      refine lv_bipush (v := 15) C.1 C.2.1 d_law_46 (by decide) ?_
      refine lv_iand C.1 C.2.1 d_law_48 ?_
      refine l_switch C hml hret hlk hx hmb hob hX hLN hb hL (by omega) (by omega) hlt hl htr hn hE hNc (by omega) hI (fun H2 locs ls cells2 slots2 e1 e2 hL hI hl => ?_)
      refine lv_iinc (k := 0) (v := nI (i + 5)) C.1 C.2.1 d_law_455 hl rfl (nI_add i 5) (by decide) (lv' := [(4, .int (nI (i + 5))), (3, .ref (ob)), (2, .ref (mb)), (1, .ref (x)), (0, .ref (b))]) rfl (fun ls hl => ?_)
      refine lv_goto (tgt := 33) C.1 C.2.1 d_law_458 (by decide) ?_
      exact ih (i + 5) (r + 1) H2 locs ls cells2 slots2 (by omega) (by omega) (by omega) (by omega) hL hI hl
    · skip
      have h9 : nI L - 5 < nI i := lw_lt (by omega) (by omega) (by omega)
      refine lv_icmp_gt (tgt := 461) C.1 C.2.1 d_law_39 (by decide) (fun _ => ?_) (fun hn => absurd (h9) hn)
      exact l_ret C hml hret hlk (hx ▸ hL) (by omega) (by omega)
end LAWOPS
