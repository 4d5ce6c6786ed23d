/-! The law's loop. -/
theorem lw_drop {ls : Array Slot} {nL : Nat} {q : Nat × Value} {L : List (Nat × Value)} (h : lv_has ls nL (q :: L)) : lv_has ls nL L := ⟨h.1, h.2.1, fun z hz => h.2.2 z (List.mem_cons_of_mem _ hz)⟩
theorem lw_cmp (x : Int64) : lg_cmp x x = 0 := by
  unfold lg_cmp
  rw [if_neg (Int64.lt_irrefl), if_pos rfl]
abbrev outC (cJ : ClassId) (f : Nat → Int64) : va_E := .inl (cJ, 1, .inr (.inl f))
/-- class, reference and out stand in the heap -/
def Lm (D : va_G) (cI cZ cN cJ : ClassId) (x n mb ob : Nat) (s : State) (u : sBu) (A : Nat → Nat → Int32) (th : Int32) (f : Nat → Int64) (H : Heap) : Prop := hq_O x s.heap H ∧ BuP D cI cZ cN x n u H ∧ hq_B D vwCl mb 31 (mdC cI cZ mb th (nI n) A) H ∧ va_at D vwCl (ob, outC cJ f) H ∧ ob < H.size
def LI (D : va_G) (cI cZ cN cJ : ClassId) (x n mb ob : Nat) (s : State) (r : Nat) (H : Heap) : Prop := ∃ (u : sBu) (A : Nat → Nat → Int32) (th : Int32) (f : Nat → Int64) (k : Nat), k ≤ 200 * r ∧ okB n k u ∧ okA A ∧ A 0 0 = nI k ∧ SB n k u A ∧ Lm D cI cZ cN cJ x n mb ob s u A th f H
section LAW
variable {p : Program} {l : Launch} {e : Env} {s : State} {m : MethodId} {below : List Frame} {meth : Method} {c : Code} {H H1 : Heap} {locs : List Loc} {cells slots : Nat} {D : va_G} {cI cZ cN cJ : ClassId} {b x n mb ob L i r : Nat} {xs : Nat → Int32} {ls : Array Slot} {rest : List Value} {Q : State → Prop} {pc : Nat} {u u1 : sBu} {A A1 : Nat → Nat → Int32} {th th1 kk : Int32} {f f1 : Nat → Int64}
theorem g_A (hmb : mb = x + 4 + 10 * n) (hob : ob = mb + 31) (h : Lm D cI cZ cN cJ x n mb ob s u A th f H) {v : Option Value} (hp : v = some (.int kk) ∧ hq_O H.size H H1 ∧ H.size ≤ H1.size) : v = some (.int kk) ∧ Lm D cI cZ cN cJ x n mb ob s u A th f H1 := by
  obtain ⟨h1, h2, h3, h4, h5⟩ := h
  obtain ⟨hv, ho, hz⟩ := hp
  exact ⟨hv, hq_Oo h1 ho (by omega), BuP_o h2 ho (by omega), hq_Bo h3 ho (by omega), hq_ao h4 ho (by omega), by omega⟩
theorem g_R (hmb : mb = x + 4 + 10 * n) (hob : ob = mb + 31) (h : Lm D cI cZ cN cJ x n mb ob s u A th f H) {v : Option Value} (hp : v = some (.int 0) ∧ va_at D vwCl (ob, outC cJ f1) H1 ∧ BuP D cI cZ cN x n u1 H1 ∧ H1.size = H.size ∧ ∀ q : Nat, (q < x ∨ x + (4 + 10 * n) ≤ q) → q ≠ ob → H1[q]? = H[q]?) : v = some (.int 0) ∧ Lm D cI cZ cN cJ x n mb ob s u1 A th f1 H1 := by
  obtain ⟨h1, h2, h3, h4, h5⟩ := h
  obtain ⟨hv, ko, hB, hz, hfr⟩ := hp
  exact ⟨hv, fun q hq => (hfr q (Or.inl hq) (by omega)).trans (h1 q hq), hB, fun j hj => (h3 j hj).kept (hfr (mb + j) (by omega) (by omega)), ko, by omega⟩
theorem g_N (hmb : mb = x + 4 + 10 * n) (hob : ob = mb + 31) (h : Lm D cI cZ cN cJ x n mb ob s u A th f H) {v : Option Value} (hp : v = some (.int 0) ∧ BuP D cI cZ cN x n u1 H1 ∧ hq_S x (4 + 10 * n) H H1) : v = some (.int 0) ∧ Lm D cI cZ cN cJ x n mb ob s u1 A th f H1 := by
  obtain ⟨h1, h2, h3, h4, h5⟩ := h
  obtain ⟨hv, hB, hS⟩ := hp
  have hz := hS.1
  exact ⟨hv, hq_Os h1 hS (by omega), hB, hq_Bs h3 hS (by omega), hq_as h4 hS (by omega), by omega⟩
theorem g_M (hmb : mb = x + 4 + 10 * n) (hob : ob = mb + 31) (h : Lm D cI cZ cN cJ x n mb ob s u A th f H) (hM : hq_B D vwCl mb 31 (mdC cI cZ mb th1 (nI n) A1) H1) (hS : hq_S mb 31 H H1) : Lm D cI cZ cN cJ x n mb ob s u A1 th1 f H1 := by
  obtain ⟨h1, h2, h3, h4, h5⟩ := h
  have hz := hS.1
  exact ⟨hq_Os h1 hS (by omega), BuP_s h2 hS (by omega), hM, hq_as h4 hS (by omega), by omega⟩
theorem l_ld0 (C : hq_C p c s m #[Value.ref b] R_L code TB D vwCl (TY cI cZ cN cJ)) (hX : va_X b L xs s s.heap) (hLN : L ≤ 2561) (hx : s.heap.size = x) (hb : b < x) (hO : hq_O x s.heap H) (hi : i + 0 < L) (hdg : decode code pc = .ok (.iaload, 1)) (kk : W p l e room_1 s m #[Value.ref b] below meth c H locs cells slots (Q) (F0 m (pc + 1) ls (.int (xs i) :: rest))) : W p l e room_1 s m #[Value.ref b] below meth c H locs cells slots (Q) (F0 m pc ls (.int (nI i) :: .ref b :: rest)) := by
  subst hx
  refine hq_sld C hX hb hO (i := nI i) (vp_in_nI (by omega) (by omega)) hdg ?_
  rw [nI_clamp (show i < 2 ^ 31 by omega)]
  exact kk
theorem l_ld1 (C : hq_C p c s m #[Value.ref b] R_L code TB D vwCl (TY cI cZ cN cJ)) (hX : va_X b L xs s s.heap) (hLN : L ≤ 2561) (hx : s.heap.size = x) (hb : b < x) (hO : hq_O x s.heap H) (hi : i + 1 < L) (hdg : decode code pc = .ok (.iaload, 1)) (kk : W p l e room_1 s m #[Value.ref b] below meth c H locs cells slots (Q) (F0 m (pc + 1) ls (.int (xs (i + 1)) :: rest))) : W p l e room_1 s m #[Value.ref b] below meth c H locs cells slots (Q) (F0 m pc ls (.int ((nI i) + 1) :: .ref b :: rest)) := by
  subst hx
  rw [show nI i + 1 = nI (i + 1) from nI_add i 1]
  refine hq_sld C hX hb hO (i := nI (i + 1)) (vp_in_nI (by omega) (by omega)) hdg ?_
  rw [nI_clamp (show (i + 1) < 2 ^ 31 by omega)]
  exact kk
theorem l_ld2 (C : hq_C p c s m #[Value.ref b] R_L code TB D vwCl (TY cI cZ cN cJ)) (hX : va_X b L xs s s.heap) (hLN : L ≤ 2561) (hx : s.heap.size = x) (hb : b < x) (hO : hq_O x s.heap H) (hi : i + 2 < L) (hdg : decode code pc = .ok (.iaload, 1)) (kk : W p l e room_1 s m #[Value.ref b] below meth c H locs cells slots (Q) (F0 m (pc + 1) ls (.int (xs (i + 2)) :: rest))) : W p l e room_1 s m #[Value.ref b] below meth c H locs cells slots (Q) (F0 m pc ls (.int ((nI i) + 2) :: .ref b :: rest)) := by
  subst hx
  rw [show nI i + 2 = nI (i + 2) from nI_add i 2]
  refine hq_sld C hX hb hO (i := nI (i + 2)) (vp_in_nI (by omega) (by omega)) hdg ?_
  rw [nI_clamp (show (i + 2) < 2 ^ 31 by omega)]
  exact kk
theorem l_ld3 (C : hq_C p c s m #[Value.ref b] R_L code TB D vwCl (TY cI cZ cN cJ)) (hX : va_X b L xs s s.heap) (hLN : L ≤ 2561) (hx : s.heap.size = x) (hb : b < x) (hO : hq_O x s.heap H) (hi : i + 3 < L) (hdg : decode code pc = .ok (.iaload, 1)) (kk : W p l e room_1 s m #[Value.ref b] below meth c H locs cells slots (Q) (F0 m (pc + 1) ls (.int (xs (i + 3)) :: rest))) : W p l e room_1 s m #[Value.ref b] below meth c H locs cells slots (Q) (F0 m pc ls (.int ((nI i) + 3) :: .ref b :: rest)) := by
  subst hx
  rw [show nI i + 3 = nI (i + 3) from nI_add i 3]
  refine hq_sld C hX hb hO (i := nI (i + 3)) (vp_in_nI (by omega) (by omega)) hdg ?_
  rw [nI_clamp (show (i + 3) < 2 ^ 31 by omega)]
  exact kk
theorem l_ld4 (C : hq_C p c s m #[Value.ref b] R_L code TB D vwCl (TY cI cZ cN cJ)) (hX : va_X b L xs s s.heap) (hLN : L ≤ 2561) (hx : s.heap.size = x) (hb : b < x) (hO : hq_O x s.heap H) (hi : i + 4 < L) (hdg : decode code pc = .ok (.iaload, 1)) (kk : W p l e room_1 s m #[Value.ref b] below meth c H locs cells slots (Q) (F0 m (pc + 1) ls (.int (xs (i + 4)) :: rest))) : W p l e room_1 s m #[Value.ref b] below meth c H locs cells slots (Q) (F0 m pc ls (.int ((nI i) + 4) :: .ref b :: rest)) := by
  subst hx
  rw [show nI i + 4 = nI (i + 4) from nI_add i 4]
  refine hq_sld C hX hb hO (i := nI (i + 4)) (vp_in_nI (by omega) (by omega)) hdg ?_
  rw [nI_clamp (show (i + 4) < 2 ^ 31 by omega)]
  exact kk
set_option maxHeartbeats 4000000 in
set_option maxRecDepth 100000 in
theorem l_ret (C : hq_C p c s m #[Value.ref b] R_L code TB D vwCl (TY cI cZ cN cJ)) (hml : c.maxLocals = 7) (hret : meth.sig.returnType = ret) (hlk : meth.locks = false) (hL : hq_L s.heap.size locs) (hc : cells ≤ 601024) (hs : slots ≤ 7293000) : W p l e room_1 s m #[Value.ref b] below meth c H locs cells slots (lw_Z below #[Value.ref b] s) (F0 m 461 ls []) := by
  refine va_forget hL ?_
  refine W.widen hc hs ?_
  refine lv_iconst (v := 1) C.1 C.2.1 d_law_461 (by decide) ?_
  exact lw_ret C.1 C.2.1 hret hlk d_law_462
set_option maxHeartbeats 4000000 in
set_option maxRecDepth 100000 in
theorem l_request (C : hq_C p c s m #[Value.ref b] R_L code TB D vwCl (TY cI cZ cN cJ)) (hml : c.maxLocals = 7) (hret : meth.sig.returnType = ret) (hlk : meth.locks = false) (hx : s.heap.size = x) (hmb : mb = x + 4 + 10 * n) (hob : ob = mb + 31) (hX : va_X b L xs s s.heap) (hLN : L ≤ 2561) (hb : b < x) (hL : hq_L x locs) (hc : cells ≤ 5000) (hs : slots ≤ 50000) (hi : i + 4 < L) (hl : lv_has ls 7 [(4, .int (nI i)), (3, .ref (ob)), (2, .ref (mb)), (1, .ref (x)), (0, .ref (b))]) (hg0 : Lm D cI cZ cN cJ x n mb ob s u1 A th f1 H) {rm : Room} (hrm : hq_R room_1 rm 7 cells slots) (hrc : rm.cells ≤ 1) (hrs : rm.slots ≤ 6) {P : State → Prop} {Qw : Heap → Option Value → Heap → Prop} (hPb : hq_Bl P) (hP : ∀ U : State, U.heap = H → s.WarmedH U.vm → P U) (hw : hq_MW l y_L_request b_L_request 7 (some .int) [(0, 14, 17, 13), (0, 14, 21, 15)] TB rm x D vwCl (TY cI cZ cN cJ) [.ref x, .int (xs (i + 1)), .int (xs (i + 2)), .int (xs (i + 3)), .int (xs (i + 4)), .ref ob] P Qw) (hg : ∀ (v : Option Value) (H1 : Heap), Qw H v H1 → v = some (.int kk) ∧ Lm D cI cZ cN cJ x n mb ob s u A th f H1) {r6 : Int32} (hm : hq_M l y_M_request b_M_request 7 (some .int) TB { frames := 1, cells := 0, slots := 0, locals := 25 } x D vwCl (TY cI cZ cN cJ) [.ref mb, .int (xs (i + 1)), .int (xs (i + 2)), .int (xs (i + 3)), .int (xs (i + 4))] (fun U => hq_B D vwCl mb 31 (mdC cI cZ mb th (nI n) A) U.heap) (fun H v9 H' => v9 = some (.int r6) ∧ hq_B D vwCl mb 31 (mdC cI cZ mb th1 (nI n) A1) H' ∧ hq_S mb 31 H H')) (KK : ∀ (H2 : Heap) (locs : List Loc) (ls : Array Slot) (cells2 slots2 : Nat), cells2 ≤ cells + 1 → slots2 ≤ slots + 6 → hq_L x locs → Lm D cI cZ cN cJ x n mb ob s u A1 th1 f H2 → lv_has ls 7 [(4, .int (nI i)), (3, .ref (ob)), (2, .ref (mb)), (1, .ref (x)), (0, .ref (b))] → W p l e room_1 s m #[Value.ref b] below meth c H2 locs cells2 slots2 (lw_Z below #[Value.ref b] s) (F0 m 455 ls [])) : W p l e room_1 s m #[Value.ref b] below meth c H locs cells slots (lw_Z below #[Value.ref b] s) (F0 m 100 ls []) := by
  have hO := hg0.1
  refine lv_aload_n C.1 C.2.1 d_law_100 rfl (lv_at hl 3 rfl) ?_
  refine lv_aload_n C.1 C.2.1 d_law_101 rfl (lv_at hl 4 rfl) ?_
  refine lv_iload C.1 C.2.1 d_law_102 (lv_at hl 0 rfl) ?_
  refine lv_iconst (v := 1) C.1 C.2.1 d_law_104 (by decide) ?_
  refine lv_iadd C.1 C.2.1 d_law_105 ?_
  refine l_ld1 C hX hLN hx hb hO (by omega) d_law_106 ?_
  refine lv_aload_n C.1 C.2.1 d_law_107 rfl (lv_at hl 4 rfl) ?_
  refine lv_iload C.1 C.2.1 d_law_108 (lv_at hl 0 rfl) ?_
  refine lv_iconst (v := 2) C.1 C.2.1 d_law_110 (by decide) ?_
  refine lv_iadd C.1 C.2.1 d_law_111 ?_
  refine l_ld2 C hX hLN hx hb hO (by omega) d_law_112 ?_
  refine lv_aload_n C.1 C.2.1 d_law_113 rfl (lv_at hl 4 rfl) ?_
  refine lv_iload C.1 C.2.1 d_law_114 (lv_at hl 0 rfl) ?_
  refine lv_iconst (v := 3) C.1 C.2.1 d_law_116 (by decide) ?_
  refine lv_iadd C.1 C.2.1 d_law_117 ?_
  refine l_ld3 C hX hLN hx hb hO (by omega) d_law_118 ?_
  refine lv_aload_n C.1 C.2.1 d_law_119 rfl (lv_at hl 4 rfl) ?_
  refine lv_iload C.1 C.2.1 d_law_120 (lv_at hl 0 rfl) ?_
  refine lv_iconst (v := 4) C.1 C.2.1 d_law_122 (by decide) ?_
  refine lv_iadd C.1 C.2.1 d_law_123 ?_
  refine l_ld4 C hX hLN hx hb hO (by omega) d_law_124 ?_
  refine lv_aload_n C.1 C.2.1 d_law_125 rfl (lv_at hl 1 rfl) ?_
  refine hq_callSW (lo := x) (As := [.ref (x), .int (xs (i + 1)), .int (xs (i + 2)), .int (xs (i + 3)), .int (xs (i + 4)), .ref (ob)]) (rest := []) C tb_good hml Y_L_request hw hPb hP hL hl.1 rfl rfl hrm (Nat.le_of_ble_eq_true rfl) d_law_126 (fun v H1 locs hp hL => ?_)
  obtain ⟨rfl, hg1⟩ := hg _ _ hp
  have hO2 := hg1.1
  refine W.eq (g2 := F0 m 129 ls [.int (kk)]) rfl ?_
  refine lv_istore C.1 C.2.1 d_law_129 hl (by decide) rfl (lv' := [(5, .int (kk)), (4, .int (nI i)), (3, .ref (ob)), (2, .ref (mb)), (1, .ref (x)), (0, .ref (b))]) (fun ls hl => ?_)
  refine lv_aload_n C.1 C.2.1 d_law_131 rfl (lv_at hl 3 rfl) ?_
  refine lv_aload_n C.1 C.2.1 d_law_132 rfl (lv_at hl 5 rfl) ?_
  refine lv_iload C.1 C.2.1 d_law_133 (lv_at hl 1 rfl) ?_
  refine lv_iconst (v := 1) C.1 C.2.1 d_law_135 (by decide) ?_
  refine lv_iadd C.1 C.2.1 d_law_136 ?_
  refine l_ld1 C hX hLN hx hb hO2 (by omega) d_law_137 ?_
  refine lv_aload_n C.1 C.2.1 d_law_138 rfl (lv_at hl 5 rfl) ?_
  refine lv_iload C.1 C.2.1 d_law_139 (lv_at hl 1 rfl) ?_
  refine lv_iconst (v := 2) C.1 C.2.1 d_law_141 (by decide) ?_
  refine lv_iadd C.1 C.2.1 d_law_142 ?_
  refine l_ld2 C hX hLN hx hb hO2 (by omega) d_law_143 ?_
  refine lv_aload_n C.1 C.2.1 d_law_144 rfl (lv_at hl 5 rfl) ?_
  refine lv_iload C.1 C.2.1 d_law_145 (lv_at hl 1 rfl) ?_
  refine lv_iconst (v := 3) C.1 C.2.1 d_law_147 (by decide) ?_
  refine lv_iadd C.1 C.2.1 d_law_148 ?_
  refine l_ld3 C hX hLN hx hb hO2 (by omega) d_law_149 ?_
  refine lv_aload_n C.1 C.2.1 d_law_150 rfl (lv_at hl 5 rfl) ?_
  refine lv_iload C.1 C.2.1 d_law_151 (lv_at hl 1 rfl) ?_
  refine lv_iconst (v := 4) C.1 C.2.1 d_law_153 (by decide) ?_
  refine lv_iadd C.1 C.2.1 d_law_154 ?_
  refine l_ld4 C hX hLN hx hb hO2 (by omega) d_law_155 ?_
  refine hq_callV (lo := x) (As := [.int (xs (i + 1)), .int (xs (i + 2)), .int (xs (i + 3)), .int (xs (i + 4))]) (rest := []) C tb_good hml Y_L_57 hm (show va_at D vwCl (mb, .inr (6, [.int (th), .int (nI n), .ref (mb + 1), .ref (mb + 2), .ref (mb + 3), .ref (mb + 4), .ref (mb + 5), .ref (mb + 6), .ref (mb + 7), .ref (mb + 8), .ref (mb + 9), .ref (mb + 10), .ref (mb + 11), .ref (mb + 12), .ref (mb + 13), .ref (mb + 14), .ref (mb + 15), .ref (mb + 16), .ref (mb + 17), .ref (mb + 18), .ref (mb + 19), .ref (mb + 20), .ref (mb + 21), .ref (mb + 22), .ref (mb + 23), .ref (mb + 24), .ref (mb + 25), .ref (mb + 26), .ref (mb + 27), .ref (mb + 28), .ref (mb + 29), .ref (mb + 30)])) H1 from hg1.2.2.1 0 (by decide)) rfl (fun _ _ _ _ h => h) (fun U hU hW => by show hq_B D vwCl mb 31 (mdC cI cZ mb th (nI n) A) U.heap; rw [hU]; exact hg1.2.2.1) hL hl.1 rfl rfl ⟨⟨Nat.le_of_ble_eq_true rfl, Nat.le_of_ble_eq_true rfl⟩, (by show cells + rm.cells + 0 ≤ 601024; omega), (by show slots + rm.slots + 0 ≤ 7293000; omega)⟩ (Nat.le_of_ble_eq_true rfl) d_law_156 (fun v H2 locs hp hL => ?_)
  obtain ⟨rfl, hM2, hS2⟩ := hp
  have hg2 := g_M hmb hob hg1 hM2 hS2
  refine W.eq (g2 := F0 m 159 ls [.int (r6)]) rfl ?_
  refine lv_istore C.1 C.2.1 d_law_159 hl (by decide) rfl (lv' := [(6, .int (r6)), (5, .int (kk)), (4, .int (nI i)), (3, .ref (ob)), (2, .ref (mb)), (1, .ref (x)), (0, .ref (b))]) (fun ls hl => ?_)
  refine lv_goto (tgt := 455) C.1 C.2.1 d_law_161 (by decide) ?_
  exact KK _ locs ls (cells + rm.cells + 0) (slots + rm.slots + 0) (by omega) (by omega) hL hg2 (lw_drop (lw_drop hl))
set_option maxHeartbeats 4000000 in
set_option maxRecDepth 100000 in
theorem l_filter (C : hq_C p c s m #[Value.ref b] R_L code TB D vwCl (TY cI cZ cN cJ)) (hml : c.maxLocals = 7) (hret : meth.sig.returnType = ret) (hlk : meth.locks = false) (hx : s.heap.size = x) (hmb : mb = x + 4 + 10 * n) (hob : ob = mb + 31) (hX : va_X b L xs s s.heap) (hLN : L ≤ 2561) (hb : b < x) (hL : hq_L x locs) (hc : cells ≤ 5000) (hs : slots ≤ 50000) (hi : i + 4 < L) (hl : lv_has ls 7 [(4, .int (nI i)), (3, .ref (ob)), (2, .ref (mb)), (1, .ref (x)), (0, .ref (b))]) (hg0 : Lm D cI cZ cN cJ x n mb ob s u1 A th f1 H) {rm : Room} (hrm : hq_R room_1 rm 5 cells slots) (hrc : rm.cells ≤ 1) (hrs : rm.slots ≤ 6) {P : State → Prop} {Qw : Heap → Option Value → Heap → Prop} (hPb : hq_Bl P) (hP : ∀ U : State, U.heap = H → s.WarmedH U.vm → P U) (hw : hq_MW l y_L_filter b_L_filter 5 (some .int) [(0, 7, 10, 13)] TB rm x D vwCl (TY cI cZ cN cJ) [.ref x, .int (xs (i + 1)), .int (xs (i + 2)), .int (xs (i + 3))] P Qw) (hg : ∀ (v : Option Value) (H1 : Heap), Qw H v H1 → v = some (.int kk) ∧ Lm D cI cZ cN cJ x n mb ob s u A th f H1) (hm : hq_M l y_M_filter b_M_filter 4 none TB { frames := 1, cells := 0, slots := 0, locals := 25 } x D vwCl (TY cI cZ cN cJ) [.ref mb, .int (xs (i + 1)), .int (xs (i + 2)), .int (xs (i + 3))] (fun U => hq_B D vwCl mb 31 (mdC cI cZ mb th (nI n) A) U.heap) (fun H v9 H' => v9 = none ∧ hq_B D vwCl mb 31 (mdC cI cZ mb th1 (nI n) A1) H' ∧ hq_S mb 31 H H')) (KK : ∀ (H2 : Heap) (locs : List Loc) (ls : Array Slot) (cells2 slots2 : Nat), cells2 ≤ cells + 1 → slots2 ≤ slots + 6 → hq_L x locs → Lm D cI cZ cN cJ x n mb ob s u A1 th1 f H2 → lv_has ls 7 [(4, .int (nI i)), (3, .ref (ob)), (2, .ref (mb)), (1, .ref (x)), (0, .ref (b))] → W p l e room_1 s m #[Value.ref b] below meth c H2 locs cells2 slots2 (lw_Z below #[Value.ref b] s) (F0 m 455 ls [])) : W p l e room_1 s m #[Value.ref b] below meth c H locs cells slots (lw_Z below #[Value.ref b] s) (F0 m 164 ls []) := by
  have hO := hg0.1
  refine lv_aload_n C.1 C.2.1 d_law_164 rfl (lv_at hl 3 rfl) ?_
  refine lv_aload_n C.1 C.2.1 d_law_165 rfl (lv_at hl 4 rfl) ?_
  refine lv_iload C.1 C.2.1 d_law_166 (lv_at hl 0 rfl) ?_
  refine lv_iconst (v := 1) C.1 C.2.1 d_law_168 (by decide) ?_
  refine lv_iadd C.1 C.2.1 d_law_169 ?_
  refine l_ld1 C hX hLN hx hb hO (by omega) d_law_170 ?_
  refine lv_aload_n C.1 C.2.1 d_law_171 rfl (lv_at hl 4 rfl) ?_
  refine lv_iload C.1 C.2.1 d_law_172 (lv_at hl 0 rfl) ?_
  refine lv_iconst (v := 2) C.1 C.2.1 d_law_174 (by decide) ?_
  refine lv_iadd C.1 C.2.1 d_law_175 ?_
  refine l_ld2 C hX hLN hx hb hO (by omega) d_law_176 ?_
  refine lv_aload_n C.1 C.2.1 d_law_177 rfl (lv_at hl 4 rfl) ?_
  refine lv_iload C.1 C.2.1 d_law_178 (lv_at hl 0 rfl) ?_
  refine lv_iconst (v := 3) C.1 C.2.1 d_law_180 (by decide) ?_
  refine lv_iadd C.1 C.2.1 d_law_181 ?_
  refine l_ld3 C hX hLN hx hb hO (by omega) d_law_182 ?_
  refine hq_callSW (lo := x) (As := [.ref (x), .int (xs (i + 1)), .int (xs (i + 2)), .int (xs (i + 3))]) (rest := []) C tb_good hml Y_L_filter hw hPb hP hL hl.1 rfl rfl hrm (Nat.le_of_ble_eq_true rfl) d_law_183 (fun v H1 locs hp hL => ?_)
  obtain ⟨rfl, hg1⟩ := hg _ _ hp
  have hO2 := hg1.1
  refine W.eq (g2 := F0 m 186 ls [.int (kk)]) rfl ?_
  refine lv_istore C.1 C.2.1 d_law_186 hl (by decide) rfl (lv' := [(5, .int (kk)), (4, .int (nI i)), (3, .ref (ob)), (2, .ref (mb)), (1, .ref (x)), (0, .ref (b))]) (fun ls hl => ?_)
  refine lv_aload_n C.1 C.2.1 d_law_188 rfl (lv_at hl 3 rfl) ?_
  refine lv_aload_n C.1 C.2.1 d_law_189 rfl (lv_at hl 5 rfl) ?_
  refine lv_iload C.1 C.2.1 d_law_190 (lv_at hl 1 rfl) ?_
  refine lv_iconst (v := 1) C.1 C.2.1 d_law_192 (by decide) ?_
  refine lv_iadd C.1 C.2.1 d_law_193 ?_
  refine l_ld1 C hX hLN hx hb hO2 (by omega) d_law_194 ?_
  refine lv_aload_n C.1 C.2.1 d_law_195 rfl (lv_at hl 5 rfl) ?_
  refine lv_iload C.1 C.2.1 d_law_196 (lv_at hl 1 rfl) ?_
  refine lv_iconst (v := 2) C.1 C.2.1 d_law_198 (by decide) ?_
  refine lv_iadd C.1 C.2.1 d_law_199 ?_
  refine l_ld2 C hX hLN hx hb hO2 (by omega) d_law_200 ?_
  refine lv_aload_n C.1 C.2.1 d_law_201 rfl (lv_at hl 5 rfl) ?_
  refine lv_iload C.1 C.2.1 d_law_202 (lv_at hl 1 rfl) ?_
  refine lv_iconst (v := 3) C.1 C.2.1 d_law_204 (by decide) ?_
  refine lv_iadd C.1 C.2.1 d_law_205 ?_
  refine l_ld3 C hX hLN hx hb hO2 (by omega) d_law_206 ?_
  refine hq_callV (lo := x) (As := [.int (xs (i + 1)), .int (xs (i + 2)), .int (xs (i + 3))]) (rest := []) C tb_good hml Y_L_61 hm (show va_at D vwCl (mb, .inr (6, [.int (th), .int (nI n), .ref (mb + 1), .ref (mb + 2), .ref (mb + 3), .ref (mb + 4), .ref (mb + 5), .ref (mb + 6), .ref (mb + 7), .ref (mb + 8), .ref (mb + 9), .ref (mb + 10), .ref (mb + 11), .ref (mb + 12), .ref (mb + 13), .ref (mb + 14), .ref (mb + 15), .ref (mb + 16), .ref (mb + 17), .ref (mb + 18), .ref (mb + 19), .ref (mb + 20), .ref (mb + 21), .ref (mb + 22), .ref (mb + 23), .ref (mb + 24), .ref (mb + 25), .ref (mb + 26), .ref (mb + 27), .ref (mb + 28), .ref (mb + 29), .ref (mb + 30)])) H1 from hg1.2.2.1 0 (by decide)) rfl (fun _ _ _ _ h => h) (fun U hU hW => by show hq_B D vwCl mb 31 (mdC cI cZ mb th (nI n) A) U.heap; rw [hU]; exact hg1.2.2.1) hL hl.1 rfl rfl ⟨⟨Nat.le_of_ble_eq_true rfl, Nat.le_of_ble_eq_true rfl⟩, (by show cells + rm.cells + 0 ≤ 601024; omega), (by show slots + rm.slots + 0 ≤ 7293000; omega)⟩ (Nat.le_of_ble_eq_true rfl) d_law_207 (fun v H2 locs hp hL => ?_)
  obtain ⟨rfl, hM2, hS2⟩ := hp
  have hg2 := g_M hmb hob hg1 hM2 hS2
  refine W.eq (g2 := F0 m 210 ls []) rfl ?_
  refine lv_goto (tgt := 455) C.1 C.2.1 d_law_210 (by decide) ?_
  exact KK _ locs ls (cells + rm.cells + 0) (slots + rm.slots + 0) (by omega) (by omega) hL hg2 (lw_drop hl)
set_option maxHeartbeats 4000000 in
set_option maxRecDepth 100000 in
theorem l_disturb (C : hq_C p c s m #[Value.ref b] R_L code TB D vwCl (TY cI cZ cN cJ)) (hml : c.maxLocals = 7) (hret : meth.sig.returnType = ret) (hlk : meth.locks = false) (hx : s.heap.size = x) (hmb : mb = x + 4 + 10 * n) (hob : ob = mb + 31) (hX : va_X b L xs s s.heap) (hLN : L ≤ 2561) (hb : b < x) (hL : hq_L x locs) (hc : cells ≤ 5000) (hs : slots ≤ 50000) (hi : i + 4 < L) (hl : lv_has ls 7 [(4, .int (nI i)), (3, .ref (ob)), (2, .ref (mb)), (1, .ref (x)), (0, .ref (b))]) (hg0 : Lm D cI cZ cN cJ x n mb ob s u1 A th f1 H) {rm : Room} (hrm : hq_R room_1 rm 4 cells slots) (hrc : rm.cells ≤ 1) (hrs : rm.slots ≤ 6) {P : State → Prop} {Qw : Heap → Option Value → Heap → Prop} (hPb : hq_Bl P) (hP : ∀ U : State, U.heap = H → s.WarmedH U.vm → P U) (hw : hq_MW l y_L_disturb b_L_disturb 4 (some .int) [(0, 6, 9, 13)] TB rm x D vwCl (TY cI cZ cN cJ) [.ref x, .int (xs (i + 1)), .int (xs (i + 2))] P Qw) (hg : ∀ (v : Option Value) (H1 : Heap), Qw H v H1 → v = some (.int kk) ∧ Lm D cI cZ cN cJ x n mb ob s u A th f H1) (hm : hq_M l y_M_disturb b_M_disturb 3 none TB { frames := 1, cells := 0, slots := 0, locals := 25 } x D vwCl (TY cI cZ cN cJ) [.ref mb, .int (xs (i + 1)), .int (xs (i + 2))] (fun U => hq_B D vwCl mb 31 (mdC cI cZ mb th (nI n) A) U.heap) (fun H v9 H' => v9 = none ∧ hq_B D vwCl mb 31 (mdC cI cZ mb th1 (nI n) A1) H' ∧ hq_S mb 31 H H')) (KK : ∀ (H2 : Heap) (locs : List Loc) (ls : Array Slot) (cells2 slots2 : Nat), cells2 ≤ cells + 1 → slots2 ≤ slots + 6 → hq_L x locs → Lm D cI cZ cN cJ x n mb ob s u A1 th1 f H2 → lv_has ls 7 [(4, .int (nI i)), (3, .ref (ob)), (2, .ref (mb)), (1, .ref (x)), (0, .ref (b))] → W p l e room_1 s m #[Value.ref b] below meth c H2 locs cells2 slots2 (lw_Z below #[Value.ref b] s) (F0 m 455 ls [])) : W p l e room_1 s m #[Value.ref b] below meth c H locs cells slots (lw_Z below #[Value.ref b] s) (F0 m 213 ls []) := by
  have hO := hg0.1
  refine lv_aload_n C.1 C.2.1 d_law_213 rfl (lv_at hl 3 rfl) ?_
  refine lv_aload_n C.1 C.2.1 d_law_214 rfl (lv_at hl 4 rfl) ?_
  refine lv_iload C.1 C.2.1 d_law_215 (lv_at hl 0 rfl) ?_
  refine lv_iconst (v := 1) C.1 C.2.1 d_law_217 (by decide) ?_
  refine lv_iadd C.1 C.2.1 d_law_218 ?_
  refine l_ld1 C hX hLN hx hb hO (by omega) d_law_219 ?_
  refine lv_aload_n C.1 C.2.1 d_law_220 rfl (lv_at hl 4 rfl) ?_
  refine lv_iload C.1 C.2.1 d_law_221 (lv_at hl 0 rfl) ?_
  refine lv_iconst (v := 2) C.1 C.2.1 d_law_223 (by decide) ?_
  refine lv_iadd C.1 C.2.1 d_law_224 ?_
  refine l_ld2 C hX hLN hx hb hO (by omega) d_law_225 ?_
  refine hq_callSW (lo := x) (As := [.ref (x), .int (xs (i + 1)), .int (xs (i + 2))]) (rest := []) C tb_good hml Y_L_disturb hw hPb hP hL hl.1 rfl rfl hrm (Nat.le_of_ble_eq_true rfl) d_law_226 (fun v H1 locs hp hL => ?_)
  obtain ⟨rfl, hg1⟩ := hg _ _ hp
  have hO2 := hg1.1
  refine W.eq (g2 := F0 m 229 ls [.int (kk)]) rfl ?_
  refine lv_istore C.1 C.2.1 d_law_229 hl (by decide) rfl (lv' := [(5, .int (kk)), (4, .int (nI i)), (3, .ref (ob)), (2, .ref (mb)), (1, .ref (x)), (0, .ref (b))]) (fun ls hl => ?_)
  refine lv_aload_n C.1 C.2.1 d_law_231 rfl (lv_at hl 3 rfl) ?_
  refine lv_aload_n C.1 C.2.1 d_law_232 rfl (lv_at hl 5 rfl) ?_
  refine lv_iload C.1 C.2.1 d_law_233 (lv_at hl 1 rfl) ?_
  refine lv_iconst (v := 1) C.1 C.2.1 d_law_235 (by decide) ?_
  refine lv_iadd C.1 C.2.1 d_law_236 ?_
  refine l_ld1 C hX hLN hx hb hO2 (by omega) d_law_237 ?_
  refine lv_aload_n C.1 C.2.1 d_law_238 rfl (lv_at hl 5 rfl) ?_
  refine lv_iload C.1 C.2.1 d_law_239 (lv_at hl 1 rfl) ?_
  refine lv_iconst (v := 2) C.1 C.2.1 d_law_241 (by decide) ?_
  refine lv_iadd C.1 C.2.1 d_law_242 ?_
  refine l_ld2 C hX hLN hx hb hO2 (by omega) d_law_243 ?_
  refine hq_callV (lo := x) (As := [.int (xs (i + 1)), .int (xs (i + 2))]) (rest := []) C tb_good hml Y_L_65 hm (show va_at D vwCl (mb, .inr (6, [.int (th), .int (nI n), .ref (mb + 1), .ref (mb + 2), .ref (mb + 3), .ref (mb + 4), .ref (mb + 5), .ref (mb + 6), .ref (mb + 7), .ref (mb + 8), .ref (mb + 9), .ref (mb + 10), .ref (mb + 11), .ref (mb + 12), .ref (mb + 13), .ref (mb + 14), .ref (mb + 15), .ref (mb + 16), .ref (mb + 17), .ref (mb + 18), .ref (mb + 19), .ref (mb + 20), .ref (mb + 21), .ref (mb + 22), .ref (mb + 23), .ref (mb + 24), .ref (mb + 25), .ref (mb + 26), .ref (mb + 27), .ref (mb + 28), .ref (mb + 29), .ref (mb + 30)])) H1 from hg1.2.2.1 0 (by decide)) rfl (fun _ _ _ _ h => h) (fun U hU hW => by show hq_B D vwCl mb 31 (mdC cI cZ mb th (nI n) A) U.heap; rw [hU]; exact hg1.2.2.1) hL hl.1 rfl rfl ⟨⟨Nat.le_of_ble_eq_true rfl, Nat.le_of_ble_eq_true rfl⟩, (by show cells + rm.cells + 0 ≤ 601024; omega), (by show slots + rm.slots + 0 ≤ 7293000; omega)⟩ (Nat.le_of_ble_eq_true rfl) d_law_244 (fun v H2 locs hp hL => ?_)
  obtain ⟨rfl, hM2, hS2⟩ := hp
  have hg2 := g_M hmb hob hg1 hM2 hS2
  refine W.eq (g2 := F0 m 247 ls []) rfl ?_
  refine lv_goto (tgt := 455) C.1 C.2.1 d_law_247 (by decide) ?_
  exact KK _ locs ls (cells + rm.cells + 0) (slots + rm.slots + 0) (by omega) (by omega) hL hg2 (lw_drop hl)
set_option maxHeartbeats 4000000 in
set_option maxRecDepth 100000 in
theorem l_pass (C : hq_C p c s m #[Value.ref b] R_L code TB D vwCl (TY cI cZ cN cJ)) (hml : c.maxLocals = 7) (hret : meth.sig.returnType = ret) (hlk : meth.locks = false) (hx : s.heap.size = x) (hmb : mb = x + 4 + 10 * n) (hob : ob = mb + 31) (hX : va_X b L xs s s.heap) (hLN : L ≤ 2561) (hb : b < x) (hL : hq_L x locs) (hc : cells ≤ 5000) (hs : slots ≤ 50000) (hi : i + 4 < L) (hl : lv_has ls 7 [(4, .int (nI i)), (3, .ref (ob)), (2, .ref (mb)), (1, .ref (x)), (0, .ref (b))]) (hg0 : Lm D cI cZ cN cJ x n mb ob s u1 A th f1 H) {rm : Room} (hrm : hq_R room_1 rm 4 cells slots) (hrc : rm.cells ≤ 1) (hrs : rm.slots ≤ 6) {P : State → Prop} {Qw : Heap → Option Value → Heap → Prop} (hPb : hq_Bl P) (hP : ∀ U : State, U.heap = H → s.WarmedH U.vm → P U) (hw : hq_MW l y_L_pass b_L_pass 4 (some .int) [(0, 9, 12, 13)] TB rm x D vwCl (TY cI cZ cN cJ) [.ref x, .int (xs (i + 1)), .ref ob] P Qw) (hg : ∀ (v : Option Value) (H1 : Heap), Qw H v H1 → v = some (.int kk) ∧ Lm D cI cZ cN cJ x n mb ob s u A th f H1) {r6 : Int32} (hm : hq_M l y_M_pass b_M_pass 4 (some .int) TB mpRm9 x D vwCl (TY cI cZ cN cJ) [.ref mb, .int (xs (i + 1))] (fun U => hq_B D vwCl mb 31 (mdC cI cZ mb th (nI n) A) U.heap) (fun H v9 H' => v9 = some (.int r6) ∧ hq_B D vwCl mb 31 (mdC cI cZ mb th1 (nI n) A1) H' ∧ hq_S mb 31 H H')) (KK : ∀ (H2 : Heap) (locs : List Loc) (ls : Array Slot) (cells2 slots2 : Nat), cells2 ≤ cells + 1 → slots2 ≤ slots + 6 → hq_L x locs → Lm D cI cZ cN cJ x n mb ob s u A1 th1 f H2 → lv_has ls 7 [(4, .int (nI i)), (3, .ref (ob)), (2, .ref (mb)), (1, .ref (x)), (0, .ref (b))] → W p l e room_1 s m #[Value.ref b] below meth c H2 locs cells2 slots2 (lw_Z below #[Value.ref b] s) (F0 m 455 ls [])) : W p l e room_1 s m #[Value.ref b] below meth c H locs cells slots (lw_Z below #[Value.ref b] s) (F0 m 250 ls []) := by
  have hO := hg0.1
  refine lv_aload_n C.1 C.2.1 d_law_250 rfl (lv_at hl 3 rfl) ?_
  refine lv_aload_n C.1 C.2.1 d_law_251 rfl (lv_at hl 4 rfl) ?_
  refine lv_iload C.1 C.2.1 d_law_252 (lv_at hl 0 rfl) ?_
  refine lv_iconst (v := 1) C.1 C.2.1 d_law_254 (by decide) ?_
  refine lv_iadd C.1 C.2.1 d_law_255 ?_
  refine l_ld1 C hX hLN hx hb hO (by omega) d_law_256 ?_
  refine lv_aload_n C.1 C.2.1 d_law_257 rfl (lv_at hl 1 rfl) ?_
  refine hq_callSW (lo := x) (As := [.ref (x), .int (xs (i + 1)), .ref (ob)]) (rest := []) C tb_good hml Y_L_pass hw hPb hP hL hl.1 rfl rfl hrm (Nat.le_of_ble_eq_true rfl) d_law_258 (fun v H1 locs hp hL => ?_)
  obtain ⟨rfl, hg1⟩ := hg _ _ hp
  have hO2 := hg1.1
  refine W.eq (g2 := F0 m 261 ls [.int (kk)]) rfl ?_
  refine lv_istore C.1 C.2.1 d_law_261 hl (by decide) rfl (lv' := [(5, .int (kk)), (4, .int (nI i)), (3, .ref (ob)), (2, .ref (mb)), (1, .ref (x)), (0, .ref (b))]) (fun ls hl => ?_)
  refine lv_aload_n C.1 C.2.1 d_law_263 rfl (lv_at hl 3 rfl) ?_
  refine lv_aload_n C.1 C.2.1 d_law_264 rfl (lv_at hl 5 rfl) ?_
  refine lv_iload C.1 C.2.1 d_law_265 (lv_at hl 1 rfl) ?_
  refine lv_iconst (v := 1) C.1 C.2.1 d_law_267 (by decide) ?_
  refine lv_iadd C.1 C.2.1 d_law_268 ?_
  refine l_ld1 C hX hLN hx hb hO2 (by omega) d_law_269 ?_
  refine hq_callV (lo := x) (As := [.int (xs (i + 1))]) (rest := []) C tb_good hml Y_L_69 hm (show va_at D vwCl (mb, .inr (6, [.int (th), .int (nI n), .ref (mb + 1), .ref (mb + 2), .ref (mb + 3), .ref (mb + 4), .ref (mb + 5), .ref (mb + 6), .ref (mb + 7), .ref (mb + 8), .ref (mb + 9), .ref (mb + 10), .ref (mb + 11), .ref (mb + 12), .ref (mb + 13), .ref (mb + 14), .ref (mb + 15), .ref (mb + 16), .ref (mb + 17), .ref (mb + 18), .ref (mb + 19), .ref (mb + 20), .ref (mb + 21), .ref (mb + 22), .ref (mb + 23), .ref (mb + 24), .ref (mb + 25), .ref (mb + 26), .ref (mb + 27), .ref (mb + 28), .ref (mb + 29), .ref (mb + 30)])) H1 from hg1.2.2.1 0 (by decide)) rfl (fun _ _ _ _ h => h) (fun U hU hW => by show hq_B D vwCl mb 31 (mdC cI cZ mb th (nI n) A) U.heap; rw [hU]; exact hg1.2.2.1) hL hl.1 rfl rfl ⟨⟨Nat.le_of_ble_eq_true rfl, Nat.le_of_ble_eq_true rfl⟩, (by show cells + rm.cells + 0 ≤ 601024; omega), (by show slots + rm.slots + 0 ≤ 7293000; omega)⟩ (Nat.le_of_ble_eq_true rfl) d_law_270 (fun v H2 locs hp hL => ?_)
  obtain ⟨rfl, hM2, hS2⟩ := hp
  have hg2 := g_M hmb hob hg1 hM2 hS2
  refine W.eq (g2 := F0 m 273 ls [.int (r6)]) rfl ?_
  refine lv_istore C.1 C.2.1 d_law_273 hl (by decide) rfl (lv' := [(6, .int (r6)), (5, .int (kk)), (4, .int (nI i)), (3, .ref (ob)), (2, .ref (mb)), (1, .ref (x)), (0, .ref (b))]) (fun ls hl => ?_)
  refine lv_goto (tgt := 455) C.1 C.2.1 d_law_275 (by decide) ?_
  exact KK _ locs ls (cells + rm.cells + 0) (slots + rm.slots + 0) (by omega) (by omega) hL hg2 (lw_drop (lw_drop hl))
set_option maxHeartbeats 4000000 in
set_option maxRecDepth 100000 in
theorem l_level (C : hq_C p c s m #[Value.ref b] R_L code TB D vwCl (TY cI cZ cN cJ)) (hml : c.maxLocals = 7) (hret : meth.sig.returnType = ret) (hlk : meth.locks = false) (hx : s.heap.size = x) (hmb : mb = x + 4 + 10 * n) (hob : ob = mb + 31) (hX : va_X b L xs s s.heap) (hLN : L ≤ 2561) (hb : b < x) (hL : hq_L x locs) (hc : cells ≤ 5000) (hs : slots ≤ 50000) (hi : i + 4 < L) (hl : lv_has ls 7 [(4, .int (nI i)), (3, .ref (ob)), (2, .ref (mb)), (1, .ref (x)), (0, .ref (b))]) (hg0 : Lm D cI cZ cN cJ x n mb ob s u A th f H) (r5 : Int32) (hw : hq_M l y_X_level b_X_level 2 (some .int) TB { frames := 2, cells := 0, slots := 0, locals := 60 } x D vwCl (TY cI cZ cN cJ) [.ref x, .int (xs (i + 1))] (fun U => BuP D cI cZ cN x n u U.heap) (fun H v H' => v = some (.int r5) ∧ H' = H)) {r6 : Int32} (hm : hq_M l y_M_level b_M_level 2 (some .int) TB { frames := 0, cells := 0, slots := 0, locals := 0 } x D vwCl (TY cI cZ cN cJ) [.ref mb, .int (xs (i + 1))] (fun U => hq_B D vwCl mb 31 (mdC cI cZ mb th (nI n) A) U.heap) (fun H v9 H' => v9 = some (.int r6) ∧ hq_B D vwCl mb 31 (mdC cI cZ mb th1 (nI n) A1) H' ∧ hq_S mb 31 H H')) (KK : ∀ (H2 : Heap) (locs : List Loc) (ls : Array Slot) (cells2 slots2 : Nat), cells2 ≤ cells + 1 → slots2 ≤ slots + 6 → hq_L x locs → Lm D cI cZ cN cJ x n mb ob s u A1 th1 f H2 → lv_has ls 7 [(4, .int (nI i)), (3, .ref (ob)), (2, .ref (mb)), (1, .ref (x)), (0, .ref (b))] → W p l e room_1 s m #[Value.ref b] below meth c H2 locs cells2 slots2 (lw_Z below #[Value.ref b] s) (F0 m 455 ls [])) : W p l e room_1 s m #[Value.ref b] below meth c H locs cells slots (lw_Z below #[Value.ref b] s) (F0 m 278 ls []) := by
  have hO := hg0.1
  refine lv_aload_n C.1 C.2.1 d_law_278 rfl (lv_at hl 3 rfl) ?_
  refine lv_aload_n C.1 C.2.1 d_law_279 rfl (lv_at hl 4 rfl) ?_
  refine lv_iload C.1 C.2.1 d_law_280 (lv_at hl 0 rfl) ?_
  refine lv_iconst (v := 1) C.1 C.2.1 d_law_282 (by decide) ?_
  refine lv_iadd C.1 C.2.1 d_law_283 ?_
  refine l_ld1 C hX hLN hx hb hO (by omega) d_law_284 ?_
  refine hq_callV (lo := x) (As := [.int (xs (i + 1))]) (rest := []) C tb_good hml Y_L_70 hw (show va_at D vwCl (x, .inr (5, [.ref (x + 3), .ref (x + 1), .ref (x + 2)])) H from hg0.2.1.1 0 (by decide)) rfl (fun _ _ _ _ h => h) (fun U hU hW => by show BuP D cI cZ cN x n u U.heap; rw [hU]; exact hg0.2.1) hL hl.1 rfl rfl ⟨⟨Nat.le_of_ble_eq_true rfl, Nat.le_of_ble_eq_true rfl⟩, (by show cells + 0 ≤ 601024; omega), (by show slots + 0 ≤ 7293000; omega)⟩ (Nat.le_of_ble_eq_true rfl) d_law_285 (fun v H1 locs hp hL => ?_)
  obtain ⟨rfl, rfl⟩ := hp
  refine W.eq (g2 := F0 m 288 ls [.int (r5)]) rfl ?_
  have hg1 := hg0
  have hO2 := hO
  refine lv_pop C.1 C.2.1 d_law_288 rfl ?_
  refine lv_aload_n C.1 C.2.1 d_law_289 rfl (lv_at hl 2 rfl) ?_
  refine lv_aload_n C.1 C.2.1 d_law_290 rfl (lv_at hl 4 rfl) ?_
  refine lv_iload C.1 C.2.1 d_law_291 (lv_at hl 0 rfl) ?_
  refine lv_iconst (v := 1) C.1 C.2.1 d_law_293 (by decide) ?_
  refine lv_iadd C.1 C.2.1 d_law_294 ?_
  refine l_ld1 C hX hLN hx hb hO2 (by omega) d_law_295 ?_
  refine hq_callV (lo := x) (As := [.int (xs (i + 1))]) (rest := []) C tb_good hml Y_L_73 hm (show va_at D vwCl (mb, .inr (6, [.int (th), .int (nI n), .ref (mb + 1), .ref (mb + 2), .ref (mb + 3), .ref (mb + 4), .ref (mb + 5), .ref (mb + 6), .ref (mb + 7), .ref (mb + 8), .ref (mb + 9), .ref (mb + 10), .ref (mb + 11), .ref (mb + 12), .ref (mb + 13), .ref (mb + 14), .ref (mb + 15), .ref (mb + 16), .ref (mb + 17), .ref (mb + 18), .ref (mb + 19), .ref (mb + 20), .ref (mb + 21), .ref (mb + 22), .ref (mb + 23), .ref (mb + 24), .ref (mb + 25), .ref (mb + 26), .ref (mb + 27), .ref (mb + 28), .ref (mb + 29), .ref (mb + 30)])) H1 from hg1.2.2.1 0 (by decide)) rfl (fun _ _ _ _ h => h) (fun U hU hW => by show hq_B D vwCl mb 31 (mdC cI cZ mb th (nI n) A) U.heap; rw [hU]; exact hg1.2.2.1) hL hl.1 rfl rfl ⟨⟨Nat.le_of_ble_eq_true rfl, Nat.le_of_ble_eq_true rfl⟩, (by show cells + 0 + 0 ≤ 601024; omega), (by show slots + 0 + 0 ≤ 7293000; omega)⟩ (Nat.le_of_ble_eq_true rfl) d_law_296 (fun v H2 locs hp hL => ?_)
  obtain ⟨rfl, hM2, hS2⟩ := hp
  have hg2 := g_M hmb hob hg1 hM2 hS2
  refine W.eq (g2 := F0 m 299 ls [.int (r6)]) rfl ?_
  refine lv_pop C.1 C.2.1 d_law_299 rfl ?_
  refine lv_goto (tgt := 455) C.1 C.2.1 d_law_300 (by decide) ?_
  exact KK _ locs ls (cells + 0 + 0) (slots + 0 + 0) (by omega) (by omega) hL hg2 (hl)
set_option maxHeartbeats 4000000 in
set_option maxRecDepth 100000 in
theorem l_state (C : hq_C p c s m #[Value.ref b] R_L code TB D vwCl (TY cI cZ cN cJ)) (hml : c.maxLocals = 7) (hret : meth.sig.returnType = ret) (hlk : meth.locks = false) (hx : s.heap.size = x) (hmb : mb = x + 4 + 10 * n) (hob : ob = mb + 31) (hX : va_X b L xs s s.heap) (hLN : L ≤ 2561) (hb : b < x) (hL : hq_L x locs) (hc : cells ≤ 5000) (hs : slots ≤ 50000) (hi : i + 4 < L) (hl : lv_has ls 7 [(4, .int (nI i)), (3, .ref (ob)), (2, .ref (mb)), (1, .ref (x)), (0, .ref (b))]) (hg0 : Lm D cI cZ cN cJ x n mb ob s u1 A th f1 H) {rm : Room} (hrm : hq_R room_1 rm 4 cells slots) (hrc : rm.cells ≤ 1) (hrs : rm.slots ≤ 6) {P : State → Prop} {Qw : Heap → Option Value → Heap → Prop} (hPb : hq_Bl P) (hP : ∀ U : State, U.heap = H → s.WarmedH U.vm → P U) (hw : hq_MW l y_L_state b_L_state 4 (some .int) [(0, 9, 12, 13)] TB rm x D vwCl (TY cI cZ cN cJ) [.ref x, .int (xs (i + 1)), .ref ob] P Qw) (hg : ∀ (v : Option Value) (H1 : Heap), Qw H v H1 → v = some (.int kk) ∧ Lm D cI cZ cN cJ x n mb ob s u A th f H1) {r6 : Int32} (hm : hq_M l y_M_state b_M_state 2 (some .int) TB { frames := 1, cells := 0, slots := 0, locals := 25 } x D vwCl (TY cI cZ cN cJ) [.ref mb, .int (xs (i + 1))] (fun U => hq_B D vwCl mb 31 (mdC cI cZ mb th (nI n) A) U.heap) (fun H v9 H' => v9 = some (.int r6) ∧ hq_B D vwCl mb 31 (mdC cI cZ mb th1 (nI n) A1) H' ∧ hq_S mb 31 H H')) (KK : ∀ (H2 : Heap) (locs : List Loc) (ls : Array Slot) (cells2 slots2 : Nat), cells2 ≤ cells + 1 → slots2 ≤ slots + 6 → hq_L x locs → Lm D cI cZ cN cJ x n mb ob s u A1 th1 f H2 → lv_has ls 7 [(4, .int (nI i)), (3, .ref (ob)), (2, .ref (mb)), (1, .ref (x)), (0, .ref (b))] → W p l e room_1 s m #[Value.ref b] below meth c H2 locs cells2 slots2 (lw_Z below #[Value.ref b] s) (F0 m 455 ls [])) : W p l e room_1 s m #[Value.ref b] below meth c H locs cells slots (lw_Z below #[Value.ref b] s) (F0 m 303 ls []) := by
  have hO := hg0.1
  refine lv_aload_n C.1 C.2.1 d_law_303 rfl (lv_at hl 3 rfl) ?_
  refine lv_aload_n C.1 C.2.1 d_law_304 rfl (lv_at hl 4 rfl) ?_
  refine lv_iload C.1 C.2.1 d_law_305 (lv_at hl 0 rfl) ?_
  refine lv_iconst (v := 1) C.1 C.2.1 d_law_307 (by decide) ?_
  refine lv_iadd C.1 C.2.1 d_law_308 ?_
  refine l_ld1 C hX hLN hx hb hO (by omega) d_law_309 ?_
  refine lv_aload_n C.1 C.2.1 d_law_310 rfl (lv_at hl 1 rfl) ?_
  refine hq_callSW (lo := x) (As := [.ref (x), .int (xs (i + 1)), .ref (ob)]) (rest := []) C tb_good hml Y_L_state hw hPb hP hL hl.1 rfl rfl hrm (Nat.le_of_ble_eq_true rfl) d_law_311 (fun v H1 locs hp hL => ?_)
  obtain ⟨rfl, hg1⟩ := hg _ _ hp
  have hO2 := hg1.1
  refine W.eq (g2 := F0 m 314 ls [.int (kk)]) rfl ?_
  refine lv_istore C.1 C.2.1 d_law_314 hl (by decide) rfl (lv' := [(5, .int (kk)), (4, .int (nI i)), (3, .ref (ob)), (2, .ref (mb)), (1, .ref (x)), (0, .ref (b))]) (fun ls hl => ?_)
  refine lv_aload_n C.1 C.2.1 d_law_316 rfl (lv_at hl 3 rfl) ?_
  refine lv_aload_n C.1 C.2.1 d_law_317 rfl (lv_at hl 5 rfl) ?_
  refine lv_iload C.1 C.2.1 d_law_318 (lv_at hl 1 rfl) ?_
  refine lv_iconst (v := 1) C.1 C.2.1 d_law_320 (by decide) ?_
  refine lv_iadd C.1 C.2.1 d_law_321 ?_
  refine l_ld1 C hX hLN hx hb hO2 (by omega) d_law_322 ?_
  refine hq_callV (lo := x) (As := [.int (xs (i + 1))]) (rest := []) C tb_good hml Y_L_76 hm (show va_at D vwCl (mb, .inr (6, [.int (th), .int (nI n), .ref (mb + 1), .ref (mb + 2), .ref (mb + 3), .ref (mb + 4), .ref (mb + 5), .ref (mb + 6), .ref (mb + 7), .ref (mb + 8), .ref (mb + 9), .ref (mb + 10), .ref (mb + 11), .ref (mb + 12), .ref (mb + 13), .ref (mb + 14), .ref (mb + 15), .ref (mb + 16), .ref (mb + 17), .ref (mb + 18), .ref (mb + 19), .ref (mb + 20), .ref (mb + 21), .ref (mb + 22), .ref (mb + 23), .ref (mb + 24), .ref (mb + 25), .ref (mb + 26), .ref (mb + 27), .ref (mb + 28), .ref (mb + 29), .ref (mb + 30)])) H1 from hg1.2.2.1 0 (by decide)) rfl (fun _ _ _ _ h => h) (fun U hU hW => by show hq_B D vwCl mb 31 (mdC cI cZ mb th (nI n) A) U.heap; rw [hU]; exact hg1.2.2.1) hL hl.1 rfl rfl ⟨⟨Nat.le_of_ble_eq_true rfl, Nat.le_of_ble_eq_true rfl⟩, (by show cells + rm.cells + 0 ≤ 601024; omega), (by show slots + rm.slots + 0 ≤ 7293000; omega)⟩ (Nat.le_of_ble_eq_true rfl) d_law_323 (fun v H2 locs hp hL => ?_)
  obtain ⟨rfl, hM2, hS2⟩ := hp
  have hg2 := g_M hmb hob hg1 hM2 hS2
  refine W.eq (g2 := F0 m 326 ls [.int (r6)]) rfl ?_
  refine lv_istore C.1 C.2.1 d_law_326 hl (by decide) rfl (lv' := [(6, .int (r6)), (5, .int (kk)), (4, .int (nI i)), (3, .ref (ob)), (2, .ref (mb)), (1, .ref (x)), (0, .ref (b))]) (fun ls hl => ?_)
  refine lv_goto (tgt := 455) C.1 C.2.1 d_law_328 (by decide) ?_
  exact KK _ locs ls (cells + rm.cells + 0) (slots + rm.slots + 0) (by omega) (by omega) hL hg2 (lw_drop (lw_drop hl))
set_option maxHeartbeats 4000000 in
set_option maxRecDepth 100000 in
theorem l_count (C : hq_C p c s m #[Value.ref b] R_L code TB D vwCl (TY cI cZ cN cJ)) (hml : c.maxLocals = 7) (hret : meth.sig.returnType = ret) (hlk : meth.locks = false) (hx : s.heap.size = x) (hmb : mb = x + 4 + 10 * n) (hob : ob = mb + 31) (hX : va_X b L xs s s.heap) (hLN : L ≤ 2561) (hb : b < x) (hL : hq_L x locs) (hc : cells ≤ 5000) (hs : slots ≤ 50000) (hi : i + 4 < L) (hl : lv_has ls 7 [(4, .int (nI i)), (3, .ref (ob)), (2, .ref (mb)), (1, .ref (x)), (0, .ref (b))]) (hg0 : Lm D cI cZ cN cJ x n mb ob s u1 A th f1 H) {rm : Room} (hrm : hq_R room_1 rm 5 cells slots) (hrc : rm.cells ≤ 1) (hrs : rm.slots ≤ 6) {P : State → Prop} {Qw : Heap → Option Value → Heap → Prop} (hPb : hq_Bl P) (hP : ∀ U : State, U.heap = H → s.WarmedH U.vm → P U) (hw : hq_MW l y_L_count b_L_count 5 (some .int) [(0, 10, 13, 13)] TB rm x D vwCl (TY cI cZ cN cJ) [.ref x, .int (xs (i + 1)), .int (xs (i + 2)), .ref ob] P Qw) (hg : ∀ (v : Option Value) (H1 : Heap), Qw H v H1 → v = some (.int kk) ∧ Lm D cI cZ cN cJ x n mb ob s u A th f H1) {r6 : Int32} (hm : hq_M l y_M_count b_M_count 3 (some .int) TB { frames := 1, cells := 0, slots := 0, locals := 25 } x D vwCl (TY cI cZ cN cJ) [.ref mb, .int (xs (i + 1)), .int (xs (i + 2))] (fun U => hq_B D vwCl mb 31 (mdC cI cZ mb th (nI n) A) U.heap) (fun H v9 H' => v9 = some (.int r6) ∧ hq_B D vwCl mb 31 (mdC cI cZ mb th1 (nI n) A1) H' ∧ hq_S mb 31 H H')) (KK : ∀ (H2 : Heap) (locs : List Loc) (ls : Array Slot) (cells2 slots2 : Nat), cells2 ≤ cells + 1 → slots2 ≤ slots + 6 → hq_L x locs → Lm D cI cZ cN cJ x n mb ob s u A1 th1 f H2 → lv_has ls 7 [(4, .int (nI i)), (3, .ref (ob)), (2, .ref (mb)), (1, .ref (x)), (0, .ref (b))] → W p l e room_1 s m #[Value.ref b] below meth c H2 locs cells2 slots2 (lw_Z below #[Value.ref b] s) (F0 m 455 ls [])) : W p l e room_1 s m #[Value.ref b] below meth c H locs cells slots (lw_Z below #[Value.ref b] s) (F0 m 331 ls []) := by
  have hO := hg0.1
  refine lv_aload_n C.1 C.2.1 d_law_331 rfl (lv_at hl 3 rfl) ?_
  refine lv_aload_n C.1 C.2.1 d_law_332 rfl (lv_at hl 4 rfl) ?_
  refine lv_iload C.1 C.2.1 d_law_333 (lv_at hl 0 rfl) ?_
  refine lv_iconst (v := 1) C.1 C.2.1 d_law_335 (by decide) ?_
  refine lv_iadd C.1 C.2.1 d_law_336 ?_
  refine l_ld1 C hX hLN hx hb hO (by omega) d_law_337 ?_
  refine lv_aload_n C.1 C.2.1 d_law_338 rfl (lv_at hl 4 rfl) ?_
  refine lv_iload C.1 C.2.1 d_law_339 (lv_at hl 0 rfl) ?_
  refine lv_iconst (v := 2) C.1 C.2.1 d_law_341 (by decide) ?_
  refine lv_iadd C.1 C.2.1 d_law_342 ?_
  refine l_ld2 C hX hLN hx hb hO (by omega) d_law_343 ?_
  refine lv_aload_n C.1 C.2.1 d_law_344 rfl (lv_at hl 1 rfl) ?_
  refine hq_callSW (lo := x) (As := [.ref (x), .int (xs (i + 1)), .int (xs (i + 2)), .ref (ob)]) (rest := []) C tb_good hml Y_L_count hw hPb hP hL hl.1 rfl rfl hrm (Nat.le_of_ble_eq_true rfl) d_law_345 (fun v H1 locs hp hL => ?_)
  obtain ⟨rfl, hg1⟩ := hg _ _ hp
  have hO2 := hg1.1
  refine W.eq (g2 := F0 m 348 ls [.int (kk)]) rfl ?_
  refine lv_istore C.1 C.2.1 d_law_348 hl (by decide) rfl (lv' := [(5, .int (kk)), (4, .int (nI i)), (3, .ref (ob)), (2, .ref (mb)), (1, .ref (x)), (0, .ref (b))]) (fun ls hl => ?_)
  refine lv_aload_n C.1 C.2.1 d_law_350 rfl (lv_at hl 3 rfl) ?_
  refine lv_aload_n C.1 C.2.1 d_law_351 rfl (lv_at hl 5 rfl) ?_
  refine lv_iload C.1 C.2.1 d_law_352 (lv_at hl 1 rfl) ?_
  refine lv_iconst (v := 1) C.1 C.2.1 d_law_354 (by decide) ?_
  refine lv_iadd C.1 C.2.1 d_law_355 ?_
  refine l_ld1 C hX hLN hx hb hO2 (by omega) d_law_356 ?_
  refine lv_aload_n C.1 C.2.1 d_law_357 rfl (lv_at hl 5 rfl) ?_
  refine lv_iload C.1 C.2.1 d_law_358 (lv_at hl 1 rfl) ?_
  refine lv_iconst (v := 2) C.1 C.2.1 d_law_360 (by decide) ?_
  refine lv_iadd C.1 C.2.1 d_law_361 ?_
  refine l_ld2 C hX hLN hx hb hO2 (by omega) d_law_362 ?_
  refine hq_callV (lo := x) (As := [.int (xs (i + 1)), .int (xs (i + 2))]) (rest := []) C tb_good hml Y_L_80 hm (show va_at D vwCl (mb, .inr (6, [.int (th), .int (nI n), .ref (mb + 1), .ref (mb + 2), .ref (mb + 3), .ref (mb + 4), .ref (mb + 5), .ref (mb + 6), .ref (mb + 7), .ref (mb + 8), .ref (mb + 9), .ref (mb + 10), .ref (mb + 11), .ref (mb + 12), .ref (mb + 13), .ref (mb + 14), .ref (mb + 15), .ref (mb + 16), .ref (mb + 17), .ref (mb + 18), .ref (mb + 19), .ref (mb + 20), .ref (mb + 21), .ref (mb + 22), .ref (mb + 23), .ref (mb + 24), .ref (mb + 25), .ref (mb + 26), .ref (mb + 27), .ref (mb + 28), .ref (mb + 29), .ref (mb + 30)])) H1 from hg1.2.2.1 0 (by decide)) rfl (fun _ _ _ _ h => h) (fun U hU hW => by show hq_B D vwCl mb 31 (mdC cI cZ mb th (nI n) A) U.heap; rw [hU]; exact hg1.2.2.1) hL hl.1 rfl rfl ⟨⟨Nat.le_of_ble_eq_true rfl, Nat.le_of_ble_eq_true rfl⟩, (by show cells + rm.cells + 0 ≤ 601024; omega), (by show slots + rm.slots + 0 ≤ 7293000; omega)⟩ (Nat.le_of_ble_eq_true rfl) d_law_363 (fun v H2 locs hp hL => ?_)
  obtain ⟨rfl, hM2, hS2⟩ := hp
  have hg2 := g_M hmb hob hg1 hM2 hS2
  refine W.eq (g2 := F0 m 366 ls [.int (r6)]) rfl ?_
  refine lv_istore C.1 C.2.1 d_law_366 hl (by decide) rfl (lv' := [(6, .int (r6)), (5, .int (kk)), (4, .int (nI i)), (3, .ref (ob)), (2, .ref (mb)), (1, .ref (x)), (0, .ref (b))]) (fun ls hl => ?_)
  refine lv_goto (tgt := 455) C.1 C.2.1 d_law_368 (by decide) ?_
  exact KK _ locs ls (cells + rm.cells + 0) (slots + rm.slots + 0) (by omega) (by omega) hL hg2 (lw_drop (lw_drop hl))
set_option maxHeartbeats 4000000 in
set_option maxRecDepth 100000 in
theorem l_take (C : hq_C p c s m #[Value.ref b] R_L code TB D vwCl (TY cI cZ cN cJ)) (hml : c.maxLocals = 7) (hret : meth.sig.returnType = ret) (hlk : meth.locks = false) (hx : s.heap.size = x) (hmb : mb = x + 4 + 10 * n) (hob : ob = mb + 31) (hX : va_X b L xs s s.heap) (hLN : L ≤ 2561) (hb : b < x) (hL : hq_L x locs) (hc : cells ≤ 5000) (hs : slots ≤ 50000) (hi : i + 4 < L) (hl : lv_has ls 7 [(4, .int (nI i)), (3, .ref (ob)), (2, .ref (mb)), (1, .ref (x)), (0, .ref (b))]) (hg0 : Lm D cI cZ cN cJ x n mb ob s u1 A th f1 H) {rm : Room} (hrm : hq_R room_1 rm 4 cells slots) (hrc : rm.cells ≤ 1) (hrs : rm.slots ≤ 6) {P : State → Prop} {Qw : Heap → Option Value → Heap → Prop} (hPb : hq_Bl P) (hP : ∀ U : State, U.heap = H → s.WarmedH U.vm → P U) (hw : hq_MW l y_L_take b_L_take 4 (some .int) [(0, 9, 12, 13), (0, 9, 15, 15)] TB rm x D vwCl (TY cI cZ cN cJ) [.ref x, .int (xs (i + 1)), .ref ob] P Qw) (hg : ∀ (v : Option Value) (H1 : Heap), Qw H v H1 → v = some (.int kk) ∧ Lm D cI cZ cN cJ x n mb ob s u A th f H1) {r6 : Int32} (hm : hq_M l y_M_take b_M_take 4 (some .int) TB { frames := 1, cells := 0, slots := 0, locals := 25 } x D vwCl (TY cI cZ cN cJ) [.ref mb, .int (xs (i + 1))] (fun U => hq_B D vwCl mb 31 (mdC cI cZ mb th (nI n) A) U.heap) (fun H v9 H' => v9 = some (.int r6) ∧ hq_B D vwCl mb 31 (mdC cI cZ mb th1 (nI n) A1) H' ∧ hq_S mb 31 H H')) (hth : th1 = kk) (hval : kk = 0 → f 0 = r6.toInt64) (KK : ∀ (H2 : Heap) (locs : List Loc) (ls : Array Slot) (cells2 slots2 : Nat), cells2 ≤ cells + 1 → slots2 ≤ slots + 6 → hq_L x locs → Lm D cI cZ cN cJ x n mb ob s u A1 th1 f H2 → lv_has ls 7 [(4, .int (nI i)), (3, .ref (ob)), (2, .ref (mb)), (1, .ref (x)), (0, .ref (b))] → W p l e room_1 s m #[Value.ref b] below meth c H2 locs cells2 slots2 (lw_Z below #[Value.ref b] s) (F0 m 455 ls [])) : W p l e room_1 s m #[Value.ref b] below meth c H locs cells slots (lw_Z below #[Value.ref b] s) (F0 m 371 ls []) := by
  have hO := hg0.1
  refine lv_aload_n C.1 C.2.1 d_law_371 rfl (lv_at hl 3 rfl) ?_
  refine lv_aload_n C.1 C.2.1 d_law_372 rfl (lv_at hl 4 rfl) ?_
  refine lv_iload C.1 C.2.1 d_law_373 (lv_at hl 0 rfl) ?_
  refine lv_iconst (v := 1) C.1 C.2.1 d_law_375 (by decide) ?_
  refine lv_iadd C.1 C.2.1 d_law_376 ?_
  refine l_ld1 C hX hLN hx hb hO (by omega) d_law_377 ?_
  refine lv_aload_n C.1 C.2.1 d_law_378 rfl (lv_at hl 1 rfl) ?_
  refine hq_callSW (lo := x) (As := [.ref (x), .int (xs (i + 1)), .ref (ob)]) (rest := []) C tb_good hml Y_L_take hw hPb hP hL hl.1 rfl rfl hrm (Nat.le_of_ble_eq_true rfl) d_law_379 (fun v H1 locs hp hL => ?_)
  obtain ⟨rfl, hg1⟩ := hg _ _ hp
  have hO2 := hg1.1
  refine W.eq (g2 := F0 m 382 ls [.int (kk)]) rfl ?_
  refine lv_istore C.1 C.2.1 d_law_382 hl (by decide) rfl (lv' := [(5, .int (kk)), (4, .int (nI i)), (3, .ref (ob)), (2, .ref (mb)), (1, .ref (x)), (0, .ref (b))]) (fun ls hl => ?_)
  refine lv_aload_n C.1 C.2.1 d_law_384 rfl (lv_at hl 3 rfl) ?_
  refine lv_aload_n C.1 C.2.1 d_law_385 rfl (lv_at hl 5 rfl) ?_
  refine lv_iload C.1 C.2.1 d_law_386 (lv_at hl 1 rfl) ?_
  refine lv_iconst (v := 1) C.1 C.2.1 d_law_388 (by decide) ?_
  refine lv_iadd C.1 C.2.1 d_law_389 ?_
  refine l_ld1 C hX hLN hx hb hO2 (by omega) d_law_390 ?_
  refine hq_callV (lo := x) (As := [.int (xs (i + 1))]) (rest := []) C tb_good hml Y_L_83 hm (show va_at D vwCl (mb, .inr (6, [.int (th), .int (nI n), .ref (mb + 1), .ref (mb + 2), .ref (mb + 3), .ref (mb + 4), .ref (mb + 5), .ref (mb + 6), .ref (mb + 7), .ref (mb + 8), .ref (mb + 9), .ref (mb + 10), .ref (mb + 11), .ref (mb + 12), .ref (mb + 13), .ref (mb + 14), .ref (mb + 15), .ref (mb + 16), .ref (mb + 17), .ref (mb + 18), .ref (mb + 19), .ref (mb + 20), .ref (mb + 21), .ref (mb + 22), .ref (mb + 23), .ref (mb + 24), .ref (mb + 25), .ref (mb + 26), .ref (mb + 27), .ref (mb + 28), .ref (mb + 29), .ref (mb + 30)])) H1 from hg1.2.2.1 0 (by decide)) rfl (fun _ _ _ _ h => h) (fun U hU hW => by show hq_B D vwCl mb 31 (mdC cI cZ mb th (nI n) A) U.heap; rw [hU]; exact hg1.2.2.1) hL hl.1 rfl rfl ⟨⟨Nat.le_of_ble_eq_true rfl, Nat.le_of_ble_eq_true rfl⟩, (by show cells + rm.cells + 0 ≤ 601024; omega), (by show slots + rm.slots + 0 ≤ 7293000; omega)⟩ (Nat.le_of_ble_eq_true rfl) d_law_391 (fun v H2 locs hp hL => ?_)
  obtain ⟨rfl, hM2, hS2⟩ := hp
  have hg2 := g_M hmb hob hg1 hM2 hS2
  refine W.eq (g2 := F0 m 394 ls [.int (r6)]) rfl ?_
  refine lv_istore C.1 C.2.1 d_law_394 hl (by decide) rfl (lv' := [(6, .int (r6)), (5, .int (kk)), (4, .int (nI i)), (3, .ref (ob)), (2, .ref (mb)), (1, .ref (x)), (0, .ref (b))]) (fun ls hl => ?_)
  refine lv_aload_n C.1 C.2.1 d_law_396 rfl (lv_at hl 4 rfl) ?_
  refine hq_callV (lo := x) (As := []) (rest := []) C tb_good hml Y_L_84 (c_thrown l D cI cZ cN cJ x mb n th1) (show va_at D vwCl (mb, .inr (6, [.int (th1), .int (nI n), .ref (mb + 1), .ref (mb + 2), .ref (mb + 3), .ref (mb + 4), .ref (mb + 5), .ref (mb + 6), .ref (mb + 7), .ref (mb + 8), .ref (mb + 9), .ref (mb + 10), .ref (mb + 11), .ref (mb + 12), .ref (mb + 13), .ref (mb + 14), .ref (mb + 15), .ref (mb + 16), .ref (mb + 17), .ref (mb + 18), .ref (mb + 19), .ref (mb + 20), .ref (mb + 21), .ref (mb + 22), .ref (mb + 23), .ref (mb + 24), .ref (mb + 25), .ref (mb + 26), .ref (mb + 27), .ref (mb + 28), .ref (mb + 29), .ref (mb + 30)])) H2 from hg2.2.2.1 0 (by decide)) rfl (fun _ _ _ _ h => h) (fun U hU hW => by show va_at D vwCl (mb, .inr (6, [.int (th1), .int (nI n), .ref (mb + 1), .ref (mb + 2), .ref (mb + 3), .ref (mb + 4), .ref (mb + 5), .ref (mb + 6), .ref (mb + 7), .ref (mb + 8), .ref (mb + 9), .ref (mb + 10), .ref (mb + 11), .ref (mb + 12), .ref (mb + 13), .ref (mb + 14), .ref (mb + 15), .ref (mb + 16), .ref (mb + 17), .ref (mb + 18), .ref (mb + 19), .ref (mb + 20), .ref (mb + 21), .ref (mb + 22), .ref (mb + 23), .ref (mb + 24), .ref (mb + 25), .ref (mb + 26), .ref (mb + 27), .ref (mb + 28), .ref (mb + 29), .ref (mb + 30)])) U.heap; rw [hU]; exact hg2.2.2.1 0 (by decide)) hL hl.1 rfl rfl ⟨⟨Nat.le_of_ble_eq_true rfl, Nat.le_of_ble_eq_true rfl⟩, (by show cells + rm.cells + 0 + 0 ≤ 601024; omega), (by show slots + rm.slots + 0 + 0 ≤ 7293000; omega)⟩ (Nat.le_of_ble_eq_true rfl) d_law_397 (fun v H3 locs hp hL => ?_)
  obtain ⟨rfl, rfl⟩ := hp
  refine W.eq (g2 := F0 m 400 ls [.int (th1)]) rfl ?_
  refine lv_iload C.1 C.2.1 d_law_400 (lv_at hl 1 rfl) ?_
  refine lv_icmp_eq (tgt := 407) C.1 C.2.1 d_law_402 (by decide) (fun _ => ?_) (fun hn => absurd (hth) hn)
  refine lv_iload C.1 C.2.1 d_law_407 (lv_at hl 1 rfl) ?_
  refine lv_if_ne (tgt := 424) C.1 C.2.1 d_law_409 (by decide) ?_ ?_
  · intro c9
    refine lv_goto (tgt := 455) C.1 C.2.1 d_law_424 (by decide) ?_
    exact KK _ locs ls (cells + rm.cells + 0 + 0) (slots + rm.slots + 0 + 0) (by omega) (by omega) hL hg2 (lw_drop (lw_drop hl))
  · intro c9
    have k0 : kk = 0 := c9
    refine lv_aload_n C.1 C.2.1 d_law_412 rfl (lv_at hl 3 rfl) ?_
    refine lv_iconst (v := 0) C.1 C.2.1 d_law_413 (by decide) ?_
    refine hq_lald C 3 rfl hg2.2.2.2.1 (i := 0) (show vp_in (nI 0) 1 from vp_in_nI (by decide) (by decide)) d_law_414 ?_
    refine W.eq (g2 := F0 m 415 ls [.long (f 0)]) rfl ?_
    refine lv_iload C.1 C.2.1 d_law_415 (lv_at hl 0 rfl) ?_
    refine lv_i2l (v := r6.toInt64) C.1 C.2.1 d_law_417 rfl ?_
    refine W.lcmp C.1 C.2.1 d_law_418 ?_
    refine lv_if_eq (tgt := 424) C.1 C.2.1 d_law_419 (by decide) (fun _ => ?_) (fun hn => absurd (by rw [hval k0]; exact lw_cmp _) hn)
    refine lv_goto (tgt := 455) C.1 C.2.1 d_law_424 (by decide) ?_
    exact KK _ locs ls (cells + rm.cells + 0 + 0) (slots + rm.slots + 0 + 0) (by omega) (by omega) hL hg2 (lw_drop (lw_drop hl))
set_option maxHeartbeats 4000000 in
set_option maxRecDepth 100000 in
theorem l_total (C : hq_C p c s m #[Value.ref b] R_L code TB D vwCl (TY cI cZ cN cJ)) (hml : c.maxLocals = 7) (hret : meth.sig.returnType = ret) (hlk : meth.locks = false) (hx : s.heap.size = x) (hmb : mb = x + 4 + 10 * n) (hob : ob = mb + 31) (hX : va_X b L xs s s.heap) (hLN : L ≤ 2561) (hb : b < x) (hL : hq_L x locs) (hc : cells ≤ 5000) (hs : slots ≤ 50000) (hi : i + 4 < L) (hl : lv_has ls 7 [(4, .int (nI i)), (3, .ref (ob)), (2, .ref (mb)), (1, .ref (x)), (0, .ref (b))]) (hg0 : Lm D cI cZ cN cJ x n mb ob s u1 A th f1 H) {rm : Room} (hrm : hq_R room_1 rm 4 cells slots) (hrc : rm.cells ≤ 1) (hrs : rm.slots ≤ 6) {P : State → Prop} {Qw : Heap → Option Value → Heap → Prop} (hPb : hq_Bl P) (hP : ∀ U : State, U.heap = H → s.WarmedH U.vm → P U) (hw : hq_MW l y_L_total b_L_total 4 (some .int) [(0, 9, 12, 13)] TB rm x D vwCl (TY cI cZ cN cJ) [.ref x, .int (xs (i + 1)), .ref ob] P Qw) (hg : ∀ (v : Option Value) (H1 : Heap), Qw H v H1 → v = some (.int kk) ∧ Lm D cI cZ cN cJ x n mb ob s u A th f H1) {r6 : Int32} (hm : hq_M l y_M_total b_M_total 2 (some .int) TB { frames := 0, cells := 0, slots := 0, locals := 0 } x D vwCl (TY cI cZ cN cJ) [.ref mb, .int (xs (i + 1))] (fun U => hq_B D vwCl mb 31 (mdC cI cZ mb th (nI n) A) U.heap) (fun H v9 H' => v9 = some (.int r6) ∧ hq_B D vwCl mb 31 (mdC cI cZ mb th1 (nI n) A1) H' ∧ hq_S mb 31 H H')) (KK : ∀ (H2 : Heap) (locs : List Loc) (ls : Array Slot) (cells2 slots2 : Nat), cells2 ≤ cells + 1 → slots2 ≤ slots + 6 → hq_L x locs → Lm D cI cZ cN cJ x n mb ob s u A1 th1 f H2 → lv_has ls 7 [(4, .int (nI i)), (3, .ref (ob)), (2, .ref (mb)), (1, .ref (x)), (0, .ref (b))] → W p l e room_1 s m #[Value.ref b] below meth c H2 locs cells2 slots2 (lw_Z below #[Value.ref b] s) (F0 m 455 ls [])) : W p l e room_1 s m #[Value.ref b] below meth c H locs cells slots (lw_Z below #[Value.ref b] s) (F0 m 427 ls []) := by
  have hO := hg0.1
  refine lv_aload_n C.1 C.2.1 d_law_427 rfl (lv_at hl 3 rfl) ?_
  refine lv_aload_n C.1 C.2.1 d_law_428 rfl (lv_at hl 4 rfl) ?_
  refine lv_iload C.1 C.2.1 d_law_429 (lv_at hl 0 rfl) ?_
  refine lv_iconst (v := 1) C.1 C.2.1 d_law_431 (by decide) ?_
  refine lv_iadd C.1 C.2.1 d_law_432 ?_
  refine l_ld1 C hX hLN hx hb hO (by omega) d_law_433 ?_
  refine lv_aload_n C.1 C.2.1 d_law_434 rfl (lv_at hl 1 rfl) ?_
  refine hq_callSW (lo := x) (As := [.ref (x), .int (xs (i + 1)), .ref (ob)]) (rest := []) C tb_good hml Y_L_total hw hPb hP hL hl.1 rfl rfl hrm (Nat.le_of_ble_eq_true rfl) d_law_435 (fun v H1 locs hp hL => ?_)
  obtain ⟨rfl, hg1⟩ := hg _ _ hp
  have hO2 := hg1.1
  refine W.eq (g2 := F0 m 438 ls [.int (kk)]) rfl ?_
  refine lv_istore C.1 C.2.1 d_law_438 hl (by decide) rfl (lv' := [(5, .int (kk)), (4, .int (nI i)), (3, .ref (ob)), (2, .ref (mb)), (1, .ref (x)), (0, .ref (b))]) (fun ls hl => ?_)
  refine lv_aload_n C.1 C.2.1 d_law_440 rfl (lv_at hl 3 rfl) ?_
  refine lv_aload_n C.1 C.2.1 d_law_441 rfl (lv_at hl 5 rfl) ?_
  refine lv_iload C.1 C.2.1 d_law_442 (lv_at hl 1 rfl) ?_
  refine lv_iconst (v := 1) C.1 C.2.1 d_law_444 (by decide) ?_
  refine lv_iadd C.1 C.2.1 d_law_445 ?_
  refine l_ld1 C hX hLN hx hb hO2 (by omega) d_law_446 ?_
  refine hq_callV (lo := x) (As := [.int (xs (i + 1))]) (rest := []) C tb_good hml Y_L_90 hm (show va_at D vwCl (mb, .inr (6, [.int (th), .int (nI n), .ref (mb + 1), .ref (mb + 2), .ref (mb + 3), .ref (mb + 4), .ref (mb + 5), .ref (mb + 6), .ref (mb + 7), .ref (mb + 8), .ref (mb + 9), .ref (mb + 10), .ref (mb + 11), .ref (mb + 12), .ref (mb + 13), .ref (mb + 14), .ref (mb + 15), .ref (mb + 16), .ref (mb + 17), .ref (mb + 18), .ref (mb + 19), .ref (mb + 20), .ref (mb + 21), .ref (mb + 22), .ref (mb + 23), .ref (mb + 24), .ref (mb + 25), .ref (mb + 26), .ref (mb + 27), .ref (mb + 28), .ref (mb + 29), .ref (mb + 30)])) H1 from hg1.2.2.1 0 (by decide)) rfl (fun _ _ _ _ h => h) (fun U hU hW => by show hq_B D vwCl mb 31 (mdC cI cZ mb th (nI n) A) U.heap; rw [hU]; exact hg1.2.2.1) hL hl.1 rfl rfl ⟨⟨Nat.le_of_ble_eq_true rfl, Nat.le_of_ble_eq_true rfl⟩, (by show cells + rm.cells + 0 ≤ 601024; omega), (by show slots + rm.slots + 0 ≤ 7293000; omega)⟩ (Nat.le_of_ble_eq_true rfl) d_law_447 (fun v H2 locs hp hL => ?_)
  obtain ⟨rfl, hM2, hS2⟩ := hp
  have hg2 := g_M hmb hob hg1 hM2 hS2
  refine W.eq (g2 := F0 m 450 ls [.int (r6)]) rfl ?_
  refine lv_istore C.1 C.2.1 d_law_450 hl (by decide) rfl (lv' := [(6, .int (r6)), (5, .int (kk)), (4, .int (nI i)), (3, .ref (ob)), (2, .ref (mb)), (1, .ref (x)), (0, .ref (b))]) (fun ls hl => ?_)
  refine lv_goto (tgt := 455) C.1 C.2.1 d_law_452 (by decide) ?_
  exact KK _ locs ls (cells + rm.cells + 0) (slots + rm.slots + 0) (by omega) (by omega) hL hg2 (lw_drop (lw_drop hl))
end LAW
