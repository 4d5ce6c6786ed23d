/-! The law, for a script of at most six ints: the loop goes round once at the most. -/
theorem lw_drop {ls : Array Slot} {nL : Nat} {q : Nat × Value} {L : List (Nat × Value)} (h : lv_has ls nL (q :: L)) : lv_has ls nL L := ⟨h.1, h.2.1, fun z hz => h.2.2 z (List.mem_cons_of_mem _ hz)⟩
theorem lw_cmp (x : Int64) : lg_cmp x x = 0 := by
  unfold lg_cmp
  rw [if_neg (Int64.lt_irrefl), if_pos rfl]
section LAW
variable {p : Program} {l : Launch} {e : Env} {s : State} {m : MethodId} {below : List Frame} {meth : Method} {c : Code} {H : Heap} {locs : List Loc} {cells slots : Nat} {D : va_G} {cI cZ cN cJ : ClassId} {b x n mb ob : Nat} {xs : Nat → Int32} {ls : Array Slot} {rest : List Value} {Q : State → Prop} {pc : Nat}
/-- the heap where the loop begins: the class's object at x, the reference's at mb, out at ob -/
def lz (D : va_G) (cI cZ cJ : ClassId) (b x n mb ob : Nat) (xs : Nat → Int32) (s : State) (H : Heap) : Prop := s.heap.size = x ∧ mb = x + 4 + 10 * n ∧ ob = mb + 31 ∧ H.size = ob + 1 ∧ va_X b 6 xs s s.heap ∧ b < x ∧ hq_O x s.heap H ∧ hq_B D vwCl mb 31 (mdC cI cZ mb 0 (nI n) (fun _ _ => 0)) H ∧ va_at D vwCl (ob, .inl (cJ, 1, .inr (.inl (fun _ => 0)))) H
theorem l_ld1 (C : hq_C p c s m #[Value.ref b] R_L code TB D vwCl (TY cI cZ cN cJ)) (hX : va_X b 6 xs s s.heap) (hx : s.heap.size = x) (hb : b < x) (hO : hq_O x s.heap H) (hdg : decode code pc = .ok (.iaload, 1)) (kk : W p l e room_1 s m #[Value.ref b] below meth c H locs cells slots (Q) (F0 m (pc + 1) ls (.int (xs 1) :: rest))) : W p l e room_1 s m #[Value.ref b] below meth c H locs cells slots (Q) (F0 m pc ls (.int (1) :: .ref b :: rest)) := by
  subst hx
  refine hq_sld C hX hb hO (i := 1) (show vp_in (nI 1) 6 from vp_in_nI (by decide) (by decide)) hdg ?_
  rw [show ((1 : Int32)).toNatClampNeg = 1 from by decide]
  exact kk
theorem l_ld2 (C : hq_C p c s m #[Value.ref b] R_L code TB D vwCl (TY cI cZ cN cJ)) (hX : va_X b 6 xs s s.heap) (hx : s.heap.size = x) (hb : b < x) (hO : hq_O x s.heap H) (hdg : decode code pc = .ok (.iaload, 1)) (kk : W p l e room_1 s m #[Value.ref b] below meth c H locs cells slots (Q) (F0 m (pc + 1) ls (.int (xs 2) :: rest))) : W p l e room_1 s m #[Value.ref b] below meth c H locs cells slots (Q) (F0 m pc ls (.int (1 + 1) :: .ref b :: rest)) := by
  subst hx
  refine hq_sld C hX hb hO (i := 1 + 1) (show vp_in (nI 2) 6 from vp_in_nI (by decide) (by decide)) hdg ?_
  rw [show ((1 + 1 : Int32)).toNatClampNeg = 2 from by decide]
  exact kk
theorem l_ld3 (C : hq_C p c s m #[Value.ref b] R_L code TB D vwCl (TY cI cZ cN cJ)) (hX : va_X b 6 xs s s.heap) (hx : s.heap.size = x) (hb : b < x) (hO : hq_O x s.heap H) (hdg : decode code pc = .ok (.iaload, 1)) (kk : W p l e room_1 s m #[Value.ref b] below meth c H locs cells slots (Q) (F0 m (pc + 1) ls (.int (xs 3) :: rest))) : W p l e room_1 s m #[Value.ref b] below meth c H locs cells slots (Q) (F0 m pc ls (.int (1 + 2) :: .ref b :: rest)) := by
  subst hx
  refine hq_sld C hX hb hO (i := 1 + 2) (show vp_in (nI 3) 6 from vp_in_nI (by decide) (by decide)) hdg ?_
  rw [show ((1 + 2 : Int32)).toNatClampNeg = 3 from by decide]
  exact kk
theorem l_ld4 (C : hq_C p c s m #[Value.ref b] R_L code TB D vwCl (TY cI cZ cN cJ)) (hX : va_X b 6 xs s s.heap) (hx : s.heap.size = x) (hb : b < x) (hO : hq_O x s.heap H) (hdg : decode code pc = .ok (.iaload, 1)) (kk : W p l e room_1 s m #[Value.ref b] below meth c H locs cells slots (Q) (F0 m (pc + 1) ls (.int (xs 4) :: rest))) : W p l e room_1 s m #[Value.ref b] below meth c H locs cells slots (Q) (F0 m pc ls (.int (1 + 3) :: .ref b :: rest)) := by
  subst hx
  refine hq_sld C hX hb hO (i := 1 + 3) (show vp_in (nI 4) 6 from vp_in_nI (by decide) (by decide)) hdg ?_
  rw [show ((1 + 3 : Int32)).toNatClampNeg = 4 from by decide]
  exact kk
theorem l_ld5 (C : hq_C p c s m #[Value.ref b] R_L code TB D vwCl (TY cI cZ cN cJ)) (hX : va_X b 6 xs s s.heap) (hx : s.heap.size = x) (hb : b < x) (hO : hq_O x s.heap H) (hdg : decode code pc = .ok (.iaload, 1)) (kk : W p l e room_1 s m #[Value.ref b] below meth c H locs cells slots (Q) (F0 m (pc + 1) ls (.int (xs 5) :: rest))) : W p l e room_1 s m #[Value.ref b] below meth c H locs cells slots (Q) (F0 m pc ls (.int (1 + 4) :: .ref b :: rest)) := by
  subst hx
  refine hq_sld C hX hb hO (i := 1 + 4) (show vp_in (nI 5) 6 from vp_in_nI (by decide) (by decide)) hdg ?_
  rw [show ((1 + 4 : Int32)).toNatClampNeg = 5 from by decide]
  exact kk
set_option maxHeartbeats 4000000 in
set_option maxRecDepth 100000 in
theorem l_ret (C : hq_C p c s m #[Value.ref b] R_L code TB D vwCl (TY cI cZ cN cJ)) (hml : c.maxLocals = 7) (hret : meth.sig.returnType = ret) (hlk : meth.locks = false) (hL : hq_L s.heap.size locs) (hc : cells ≤ 600002) (hs : slots ≤ 7302198) : W p l e room_1 s m #[Value.ref b] below meth c H locs cells slots (lw_Z below #[Value.ref b] s) (F0 m 623 ls []) := by
  refine va_forget hL ?_
  refine W.widen hc hs ?_
  refine lv_iconst (v := 1) C.1 C.2.1 d_law_623 (by decide) ?_
  exact lw_ret C.1 C.2.1 hret hlk d_law_624
set_option maxHeartbeats 4000000 in
set_option maxRecDepth 100000 in
theorem l_next (C : hq_C p c s m #[Value.ref b] R_L code TB D vwCl (TY cI cZ cN cJ)) (hml : c.maxLocals = 7) (hret : meth.sig.returnType = ret) (hlk : meth.locks = false) (hx : s.heap.size = x) (hL : hq_L x locs) (hc : cells ≤ 600002) (hs : slots ≤ 7302198) (hX : va_X b 6 xs s s.heap) (hb : b < x) (hO : hq_O x s.heap H) (hl : lv_has ls 7 [(4, .int (1)), (3, .ref (ob)), (2, .ref (mb)), (1, .ref (x)), (0, .ref (b))]) : W p l e room_1 s m #[Value.ref b] below meth c H locs cells slots (lw_Z below #[Value.ref b] s) (F0 m 617 ls []) := by
  refine lv_iinc (k := 0) (v := 1 + 5) C.1 C.2.1 d_law_617 hl rfl (by rfl) (by decide) rfl (lv' := [(4, .int (1 + 5)), (3, .ref (ob)), (2, .ref (mb)), (1, .ref (x)), (0, .ref (b))]) (fun ls hl => ?_)
  refine lv_goto (tgt := 33) C.1 C.2.1 d_law_620 (by decide) ?_
  refine lv_iload C.1 C.2.1 d_law_33 (lv_at hl 0 rfl) ?_
  refine lv_aload_n C.1 C.2.1 d_law_35 rfl (lv_at hl 4 rfl) ?_
  refine hq_slen C hX (by omega) (hx ▸ hO) d_law_36 ?_
  refine lv_iconst (v := 5) C.1 C.2.1 d_law_37 (by decide) ?_
  refine lv_isub C.1 C.2.1 d_law_38 ?_
  refine lv_icmp_gt (tgt := 623) C.1 C.2.1 d_law_39 (by decide) (fun _ => ?_) (fun hn => absurd (show nI 6 - 5 < 1 + 5 from by decide) hn)
  exact l_ret C hml hret hlk (hx ▸ hL) hc hs
set_option maxHeartbeats 4000000 in
set_option maxRecDepth 100000 in
theorem l_request_T (C : hq_C p c s m #[Value.ref b] R_L code TB D vwCl (TY cI cZ cN cJ)) (hml : c.maxLocals = 7) (hret : meth.sig.returnType = ret) (hlk : meth.locks = false) (hL : hq_L x locs) (hc : cells ≤ 100) (hs : slots ≤ 10000) (Z : lz D cI cZ cJ b x n mb ob xs s H) (hl : lv_has ls 7 [(4, .int (1)), (3, .ref (ob)), (2, .ref (mb)), (1, .ref (x)), (0, .ref (b))]) (kk : Int32) (hk : ¬ kk = 0) (r6 : Int32) {P : State → Prop} (hPb : hq_Bl P) (hP : ∀ U : State, U.heap = H → s.WarmedH U.vm → P U) (hw : hq_MW l y_L_request b_L_request 7 (some .int) [(0, 14, 17, 13), (0, 14, 21, 15)] TB { frames := 8, cells := 1, slots := 6, locals := 160 } x D vwCl (TY cI cZ cN cJ) [.ref (x), .int (xs 2), .int (xs 3), .int (xs 4), .int (xs 5), .ref (ob)] P (fun H v H' => v = some (.int kk) ∧ hq_O H.size H H' ∧ H.size ≤ H'.size)) (hm : hq_M l y_M_request b_M_request 7 (some .int) TB { frames := 2, cells := 0, slots := 0, locals := 60 } x D vwCl (TY cI cZ cN cJ) [.ref mb, .int (xs 2), .int (xs 3), .int (xs 4), .int (xs 5)] (fun U => hq_B D vwCl mb 31 (mdC cI cZ mb 0 (nI n) (fun _ _ => 0)) U.heap) (fun H v9 H' => v9 = some (.int r6) ∧ va_at D vwCl (mb, .inr (6, [.int (kk), .int (nI n), .ref (mb + 1), .ref (mb + 2), .ref (mb + 3), .ref (mb + 4), .ref (mb + 5), .ref (mb + 6), .ref (mb + 7), .ref (mb + 8), .ref (mb + 9), .ref (mb + 10), .ref (mb + 11), .ref (mb + 12), .ref (mb + 13), .ref (mb + 14), .ref (mb + 15), .ref (mb + 16), .ref (mb + 17), .ref (mb + 18), .ref (mb + 19), .ref (mb + 20), .ref (mb + 21), .ref (mb + 22), .ref (mb + 23), .ref (mb + 24), .ref (mb + 25), .ref (mb + 26), .ref (mb + 27), .ref (mb + 28), .ref (mb + 29), .ref (mb + 30)])) H' ∧ hq_S mb 31 H H')) : W p l e room_1 s m #[Value.ref b] below meth c H locs cells slots (lw_Z below #[Value.ref b] s) (F0 m 100 ls []) := by
  obtain ⟨hx, hmb, hob, hz, hX, hb, hO, hMd, ko⟩ := Z
  refine lv_aload_n C.1 C.2.1 d_law_100 rfl (lv_at hl 3 rfl) ?_
  refine lv_aload_n C.1 C.2.1 d_law_101 rfl (lv_at hl 4 rfl) ?_
  refine lv_iload C.1 C.2.1 d_law_102 (lv_at hl 0 rfl) ?_
  refine lv_iconst (v := 1) C.1 C.2.1 d_law_104 (by decide) ?_
  refine lv_iadd C.1 C.2.1 d_law_105 ?_
  refine l_ld2 C hX hx hb hO d_law_106 ?_
  refine lv_aload_n C.1 C.2.1 d_law_107 rfl (lv_at hl 4 rfl) ?_
  refine lv_iload C.1 C.2.1 d_law_108 (lv_at hl 0 rfl) ?_
  refine lv_iconst (v := 2) C.1 C.2.1 d_law_110 (by decide) ?_
  refine lv_iadd C.1 C.2.1 d_law_111 ?_
  refine l_ld3 C hX hx hb hO d_law_112 ?_
  refine lv_aload_n C.1 C.2.1 d_law_113 rfl (lv_at hl 4 rfl) ?_
  refine lv_iload C.1 C.2.1 d_law_114 (lv_at hl 0 rfl) ?_
  refine lv_iconst (v := 3) C.1 C.2.1 d_law_116 (by decide) ?_
  refine lv_iadd C.1 C.2.1 d_law_117 ?_
  refine l_ld4 C hX hx hb hO d_law_118 ?_
  refine lv_aload_n C.1 C.2.1 d_law_119 rfl (lv_at hl 4 rfl) ?_
  refine lv_iload C.1 C.2.1 d_law_120 (lv_at hl 0 rfl) ?_
  refine lv_iconst (v := 4) C.1 C.2.1 d_law_122 (by decide) ?_
  refine lv_iadd C.1 C.2.1 d_law_123 ?_
  refine l_ld5 C hX hx hb hO d_law_124 ?_
  refine lv_aload_n C.1 C.2.1 d_law_125 rfl (lv_at hl 1 rfl) ?_
  refine hq_callSW (lo := x) (As := [.ref (x), .int (xs 2), .int (xs 3), .int (xs 4), .int (xs 5), .ref (ob)]) (rest := []) C tb_good hml Y_L_request hw hPb hP hL hl.1 rfl rfl ⟨⟨Nat.le_of_ble_eq_true rfl, Nat.le_of_ble_eq_true rfl⟩, (by show cells + 1 ≤ 600002; omega), (by show slots + 6 ≤ 7302198; omega)⟩ (Nat.le_of_ble_eq_true rfl) d_law_126 (fun v H1 locs hp hL => ?_)
  obtain ⟨rfl, hO1, hz1⟩ := hp
  have hO2 : hq_O x s.heap H1 := hq_Oo hO hO1 (by omega)
  have hMd1 : hq_B D vwCl mb 31 (mdC cI cZ mb 0 (nI n) (fun _ _ => 0)) H1 := hq_Bo hMd hO1 (by omega)
  refine W.eq (g2 := F0 m 129 ls [.int (kk)]) rfl ?_
  refine lv_istore C.1 C.2.1 d_law_129 hl (by decide) rfl (lv' := [(5, .int (kk)), (4, .int (1)), (3, .ref (ob)), (2, .ref (mb)), (1, .ref (x)), (0, .ref (b))]) (fun ls hl => ?_)
  refine lv_aload_n C.1 C.2.1 d_law_131 rfl (lv_at hl 3 rfl) ?_
  refine lv_aload_n C.1 C.2.1 d_law_132 rfl (lv_at hl 5 rfl) ?_
  refine lv_iload C.1 C.2.1 d_law_133 (lv_at hl 1 rfl) ?_
  refine lv_iconst (v := 1) C.1 C.2.1 d_law_135 (by decide) ?_
  refine lv_iadd C.1 C.2.1 d_law_136 ?_
  refine l_ld2 C hX hx hb hO2 d_law_137 ?_
  refine lv_aload_n C.1 C.2.1 d_law_138 rfl (lv_at hl 5 rfl) ?_
  refine lv_iload C.1 C.2.1 d_law_139 (lv_at hl 1 rfl) ?_
  refine lv_iconst (v := 2) C.1 C.2.1 d_law_141 (by decide) ?_
  refine lv_iadd C.1 C.2.1 d_law_142 ?_
  refine l_ld3 C hX hx hb hO2 d_law_143 ?_
  refine lv_aload_n C.1 C.2.1 d_law_144 rfl (lv_at hl 5 rfl) ?_
  refine lv_iload C.1 C.2.1 d_law_145 (lv_at hl 1 rfl) ?_
  refine lv_iconst (v := 3) C.1 C.2.1 d_law_147 (by decide) ?_
  refine lv_iadd C.1 C.2.1 d_law_148 ?_
  refine l_ld4 C hX hx hb hO2 d_law_149 ?_
  refine lv_aload_n C.1 C.2.1 d_law_150 rfl (lv_at hl 5 rfl) ?_
  refine lv_iload C.1 C.2.1 d_law_151 (lv_at hl 1 rfl) ?_
  refine lv_iconst (v := 4) C.1 C.2.1 d_law_153 (by decide) ?_
  refine lv_iadd C.1 C.2.1 d_law_154 ?_
  refine l_ld5 C hX hx hb hO2 d_law_155 ?_
  refine hq_callV (lo := x) (As := [.int (xs 2), .int (xs 3), .int (xs 4), .int (xs 5)]) (rest := []) C tb_good hml Y_L_57 hm (show va_at D vwCl (mb, .inr (6, [.int (0), .int (nI n), .ref (mb + 1), .ref (mb + 2), .ref (mb + 3), .ref (mb + 4), .ref (mb + 5), .ref (mb + 6), .ref (mb + 7), .ref (mb + 8), .ref (mb + 9), .ref (mb + 10), .ref (mb + 11), .ref (mb + 12), .ref (mb + 13), .ref (mb + 14), .ref (mb + 15), .ref (mb + 16), .ref (mb + 17), .ref (mb + 18), .ref (mb + 19), .ref (mb + 20), .ref (mb + 21), .ref (mb + 22), .ref (mb + 23), .ref (mb + 24), .ref (mb + 25), .ref (mb + 26), .ref (mb + 27), .ref (mb + 28), .ref (mb + 29), .ref (mb + 30)])) H1 from hMd1 0 (by decide)) rfl (fun _ _ _ _ h => h) (fun U hU hW => by show hq_B D vwCl mb 31 (mdC cI cZ mb 0 (nI n) (fun _ _ => 0)) U.heap; rw [hU]; exact hMd1) hL hl.1 rfl rfl ⟨⟨Nat.le_of_ble_eq_true rfl, Nat.le_of_ble_eq_true rfl⟩, (by show cells + 1 + 0 ≤ 600002; omega), (by show slots + 6 + 0 ≤ 7302198; omega)⟩ (Nat.le_of_ble_eq_true rfl) d_law_156 (fun v H2 locs hp hL => ?_)
  obtain ⟨rfl, k0, hS⟩ := hp
  have hO3 : hq_O x s.heap H2 := hq_Os hO2 hS (by omega)
  refine W.eq (g2 := F0 m 159 ls [.int (r6)]) rfl ?_
  refine lv_istore C.1 C.2.1 d_law_159 hl (by decide) rfl (lv' := [(6, .int (r6)), (5, .int (kk)), (4, .int (1)), (3, .ref (ob)), (2, .ref (mb)), (1, .ref (x)), (0, .ref (b))]) (fun ls hl => ?_)
  refine lv_aload_n C.1 C.2.1 d_law_161 rfl (lv_at hl 4 rfl) ?_
  refine hq_callV (lo := x) (As := []) (rest := []) C tb_good hml Y_L_58 (c_thrown l D cI cZ cN cJ x mb n kk) k0 rfl (fun _ _ _ _ h => h) (fun U hU hW => by show va_at D vwCl (mb, .inr (6, [.int (kk), .int (nI n), .ref (mb + 1), .ref (mb + 2), .ref (mb + 3), .ref (mb + 4), .ref (mb + 5), .ref (mb + 6), .ref (mb + 7), .ref (mb + 8), .ref (mb + 9), .ref (mb + 10), .ref (mb + 11), .ref (mb + 12), .ref (mb + 13), .ref (mb + 14), .ref (mb + 15), .ref (mb + 16), .ref (mb + 17), .ref (mb + 18), .ref (mb + 19), .ref (mb + 20), .ref (mb + 21), .ref (mb + 22), .ref (mb + 23), .ref (mb + 24), .ref (mb + 25), .ref (mb + 26), .ref (mb + 27), .ref (mb + 28), .ref (mb + 29), .ref (mb + 30)])) U.heap; rw [hU]; exact k0) hL hl.1 rfl rfl ⟨⟨Nat.le_of_ble_eq_true rfl, Nat.le_of_ble_eq_true rfl⟩, (by show cells + 1 + 0 + 0 ≤ 600002; omega), (by show slots + 6 + 0 + 0 ≤ 7302198; omega)⟩ (Nat.le_of_ble_eq_true rfl) d_law_162 (fun v H3 locs hp hL => ?_)
  obtain ⟨rfl, rfl⟩ := hp
  refine W.eq (g2 := F0 m 165 ls [.int (kk)]) rfl ?_
  refine lv_iload C.1 C.2.1 d_law_165 (lv_at hl 1 rfl) ?_
  refine lv_icmp_eq (tgt := 172) C.1 C.2.1 d_law_167 (by decide) (fun _ => ?_) (fun hn => absurd (rfl) hn)
  refine lv_iload C.1 C.2.1 d_law_172 (lv_at hl 1 rfl) ?_
  refine lv_if_ne (tgt := 189) C.1 C.2.1 d_law_174 (by decide) (fun _ => ?_) (fun hn => absurd hn (hk))
  refine lv_goto (tgt := 617) C.1 C.2.1 d_law_189 (by decide) ?_
  exact l_next C hml hret hlk hx hL (show cells + 1 + 0 + 0 ≤ 600002 by omega) (show slots + 6 + 0 + 0 ≤ 7302198 by omega) hX hb hO3 (lw_drop (lw_drop hl))
set_option maxHeartbeats 4000000 in
set_option maxRecDepth 100000 in
theorem l_request_R (C : hq_C p c s m #[Value.ref b] R_L code TB D vwCl (TY cI cZ cN cJ)) (hml : c.maxLocals = 7) (hret : meth.sig.returnType = ret) (hlk : meth.locks = false) (hL : hq_L x locs) (hc : cells ≤ 100) (hs : slots ≤ 10000) (Z : lz D cI cZ cJ b x n mb ob xs s H) (hl : lv_has ls 7 [(4, .int (1)), (3, .ref (ob)), (2, .ref (mb)), (1, .ref (x)), (0, .ref (b))]) (r6 : Int32) {P : State → Prop} (hPb : hq_Bl P) (hP : ∀ U : State, U.heap = H → s.WarmedH U.vm → P U) (hw : hq_MW l y_L_request b_L_request 7 (some .int) [(0, 14, 17, 13), (0, 14, 21, 15)] TB { frames := 4, cells := 0, slots := 0, locals := 120 } x D vwCl (TY cI cZ cN cJ) [.ref (x), .int (xs 2), .int (xs 3), .int (xs 4), .int (xs 5), .ref (ob)] P (fun H v H' => v = some (.int 0) ∧ va_at D vwCl (ob, .inl (cJ, 1, .inr (.inl (vp_updL (fun _ => 0) 0 r6.toInt64)))) H' ∧ H'.size = H.size ∧ ∀ q : Nat, (q < x ∨ x + (4 + 10 * n) ≤ q) → q ≠ ob → H'[q]? = H[q]?)) (hm : hq_M l y_M_request b_M_request 7 (some .int) TB { frames := 2, cells := 0, slots := 0, locals := 60 } x D vwCl (TY cI cZ cN cJ) [.ref mb, .int (xs 2), .int (xs 3), .int (xs 4), .int (xs 5)] (fun U => hq_B D vwCl mb 31 (mdC cI cZ mb 0 (nI n) (fun _ _ => 0)) U.heap) (fun H v9 H' => v9 = some (.int r6) ∧ va_at D vwCl (mb, .inr (6, [.int (0), .int (nI n), .ref (mb + 1), .ref (mb + 2), .ref (mb + 3), .ref (mb + 4), .ref (mb + 5), .ref (mb + 6), .ref (mb + 7), .ref (mb + 8), .ref (mb + 9), .ref (mb + 10), .ref (mb + 11), .ref (mb + 12), .ref (mb + 13), .ref (mb + 14), .ref (mb + 15), .ref (mb + 16), .ref (mb + 17), .ref (mb + 18), .ref (mb + 19), .ref (mb + 20), .ref (mb + 21), .ref (mb + 22), .ref (mb + 23), .ref (mb + 24), .ref (mb + 25), .ref (mb + 26), .ref (mb + 27), .ref (mb + 28), .ref (mb + 29), .ref (mb + 30)])) H' ∧ hq_S mb 31 H H')) : W p l e room_1 s m #[Value.ref b] below meth c H locs cells slots (lw_Z below #[Value.ref b] s) (F0 m 100 ls []) := by
  obtain ⟨hx, hmb, hob, hz, hX, hb, hO, hMd, ko⟩ := Z
  refine lv_aload_n C.1 C.2.1 d_law_100 rfl (lv_at hl 3 rfl) ?_
  refine lv_aload_n C.1 C.2.1 d_law_101 rfl (lv_at hl 4 rfl) ?_
  refine lv_iload C.1 C.2.1 d_law_102 (lv_at hl 0 rfl) ?_
  refine lv_iconst (v := 1) C.1 C.2.1 d_law_104 (by decide) ?_
  refine lv_iadd C.1 C.2.1 d_law_105 ?_
  refine l_ld2 C hX hx hb hO d_law_106 ?_
  refine lv_aload_n C.1 C.2.1 d_law_107 rfl (lv_at hl 4 rfl) ?_
  refine lv_iload C.1 C.2.1 d_law_108 (lv_at hl 0 rfl) ?_
  refine lv_iconst (v := 2) C.1 C.2.1 d_law_110 (by decide) ?_
  refine lv_iadd C.1 C.2.1 d_law_111 ?_
  refine l_ld3 C hX hx hb hO d_law_112 ?_
  refine lv_aload_n C.1 C.2.1 d_law_113 rfl (lv_at hl 4 rfl) ?_
  refine lv_iload C.1 C.2.1 d_law_114 (lv_at hl 0 rfl) ?_
  refine lv_iconst (v := 3) C.1 C.2.1 d_law_116 (by decide) ?_
  refine lv_iadd C.1 C.2.1 d_law_117 ?_
  refine l_ld4 C hX hx hb hO d_law_118 ?_
  refine lv_aload_n C.1 C.2.1 d_law_119 rfl (lv_at hl 4 rfl) ?_
  refine lv_iload C.1 C.2.1 d_law_120 (lv_at hl 0 rfl) ?_
  refine lv_iconst (v := 4) C.1 C.2.1 d_law_122 (by decide) ?_
  refine lv_iadd C.1 C.2.1 d_law_123 ?_
  refine l_ld5 C hX hx hb hO d_law_124 ?_
  refine lv_aload_n C.1 C.2.1 d_law_125 rfl (lv_at hl 1 rfl) ?_
  refine hq_callSW (lo := x) (As := [.ref (x), .int (xs 2), .int (xs 3), .int (xs 4), .int (xs 5), .ref (ob)]) (rest := []) C tb_good hml Y_L_request hw hPb hP hL hl.1 rfl rfl ⟨⟨Nat.le_of_ble_eq_true rfl, Nat.le_of_ble_eq_true rfl⟩, (by show cells + 0 ≤ 600002; omega), (by show slots + 0 ≤ 7302198; omega)⟩ (Nat.le_of_ble_eq_true rfl) d_law_126 (fun v H1 locs hp hL => ?_)
  obtain ⟨rfl, ko1, hz1, hfr⟩ := hp
  have hO2 : hq_O x s.heap H1 := fun q hq => (hfr q (Or.inl hq) (by omega)).trans (hO q hq)
  have hMd1 : hq_B D vwCl mb 31 (mdC cI cZ mb 0 (nI n) (fun _ _ => 0)) H1 := fun j hj => (hMd j hj).kept (hfr (mb + j) (by omega) (by omega))
  refine W.eq (g2 := F0 m 129 ls [.int (0)]) rfl ?_
  refine lv_istore C.1 C.2.1 d_law_129 hl (by decide) rfl (lv' := [(5, .int (0)), (4, .int (1)), (3, .ref (ob)), (2, .ref (mb)), (1, .ref (x)), (0, .ref (b))]) (fun ls hl => ?_)
  refine lv_aload_n C.1 C.2.1 d_law_131 rfl (lv_at hl 3 rfl) ?_
  refine lv_aload_n C.1 C.2.1 d_law_132 rfl (lv_at hl 5 rfl) ?_
  refine lv_iload C.1 C.2.1 d_law_133 (lv_at hl 1 rfl) ?_
  refine lv_iconst (v := 1) C.1 C.2.1 d_law_135 (by decide) ?_
  refine lv_iadd C.1 C.2.1 d_law_136 ?_
  refine l_ld2 C hX hx hb hO2 d_law_137 ?_
  refine lv_aload_n C.1 C.2.1 d_law_138 rfl (lv_at hl 5 rfl) ?_
  refine lv_iload C.1 C.2.1 d_law_139 (lv_at hl 1 rfl) ?_
  refine lv_iconst (v := 2) C.1 C.2.1 d_law_141 (by decide) ?_
  refine lv_iadd C.1 C.2.1 d_law_142 ?_
  refine l_ld3 C hX hx hb hO2 d_law_143 ?_
  refine lv_aload_n C.1 C.2.1 d_law_144 rfl (lv_at hl 5 rfl) ?_
  refine lv_iload C.1 C.2.1 d_law_145 (lv_at hl 1 rfl) ?_
  refine lv_iconst (v := 3) C.1 C.2.1 d_law_147 (by decide) ?_
  refine lv_iadd C.1 C.2.1 d_law_148 ?_
  refine l_ld4 C hX hx hb hO2 d_law_149 ?_
  refine lv_aload_n C.1 C.2.1 d_law_150 rfl (lv_at hl 5 rfl) ?_
  refine lv_iload C.1 C.2.1 d_law_151 (lv_at hl 1 rfl) ?_
  refine lv_iconst (v := 4) C.1 C.2.1 d_law_153 (by decide) ?_
  refine lv_iadd C.1 C.2.1 d_law_154 ?_
  refine l_ld5 C hX hx hb hO2 d_law_155 ?_
  refine hq_callV (lo := x) (As := [.int (xs 2), .int (xs 3), .int (xs 4), .int (xs 5)]) (rest := []) C tb_good hml Y_L_57 hm (show va_at D vwCl (mb, .inr (6, [.int (0), .int (nI n), .ref (mb + 1), .ref (mb + 2), .ref (mb + 3), .ref (mb + 4), .ref (mb + 5), .ref (mb + 6), .ref (mb + 7), .ref (mb + 8), .ref (mb + 9), .ref (mb + 10), .ref (mb + 11), .ref (mb + 12), .ref (mb + 13), .ref (mb + 14), .ref (mb + 15), .ref (mb + 16), .ref (mb + 17), .ref (mb + 18), .ref (mb + 19), .ref (mb + 20), .ref (mb + 21), .ref (mb + 22), .ref (mb + 23), .ref (mb + 24), .ref (mb + 25), .ref (mb + 26), .ref (mb + 27), .ref (mb + 28), .ref (mb + 29), .ref (mb + 30)])) H1 from hMd1 0 (by decide)) rfl (fun _ _ _ _ h => h) (fun U hU hW => by show hq_B D vwCl mb 31 (mdC cI cZ mb 0 (nI n) (fun _ _ => 0)) U.heap; rw [hU]; exact hMd1) hL hl.1 rfl rfl ⟨⟨Nat.le_of_ble_eq_true rfl, Nat.le_of_ble_eq_true rfl⟩, (by show cells + 0 + 0 ≤ 600002; omega), (by show slots + 0 + 0 ≤ 7302198; omega)⟩ (Nat.le_of_ble_eq_true rfl) d_law_156 (fun v H2 locs hp hL => ?_)
  obtain ⟨rfl, k0, hS⟩ := hp
  have hO3 : hq_O x s.heap H2 := hq_Os hO2 hS (by omega)
  refine W.eq (g2 := F0 m 159 ls [.int (r6)]) rfl ?_
  refine lv_istore C.1 C.2.1 d_law_159 hl (by decide) rfl (lv' := [(6, .int (r6)), (5, .int (0)), (4, .int (1)), (3, .ref (ob)), (2, .ref (mb)), (1, .ref (x)), (0, .ref (b))]) (fun ls hl => ?_)
  refine lv_aload_n C.1 C.2.1 d_law_161 rfl (lv_at hl 4 rfl) ?_
  refine hq_callV (lo := x) (As := []) (rest := []) C tb_good hml Y_L_58 (c_thrown l D cI cZ cN cJ x mb n 0) k0 rfl (fun _ _ _ _ h => h) (fun U hU hW => by show va_at D vwCl (mb, .inr (6, [.int (0), .int (nI n), .ref (mb + 1), .ref (mb + 2), .ref (mb + 3), .ref (mb + 4), .ref (mb + 5), .ref (mb + 6), .ref (mb + 7), .ref (mb + 8), .ref (mb + 9), .ref (mb + 10), .ref (mb + 11), .ref (mb + 12), .ref (mb + 13), .ref (mb + 14), .ref (mb + 15), .ref (mb + 16), .ref (mb + 17), .ref (mb + 18), .ref (mb + 19), .ref (mb + 20), .ref (mb + 21), .ref (mb + 22), .ref (mb + 23), .ref (mb + 24), .ref (mb + 25), .ref (mb + 26), .ref (mb + 27), .ref (mb + 28), .ref (mb + 29), .ref (mb + 30)])) U.heap; rw [hU]; exact k0) hL hl.1 rfl rfl ⟨⟨Nat.le_of_ble_eq_true rfl, Nat.le_of_ble_eq_true rfl⟩, (by show cells + 0 + 0 + 0 ≤ 600002; omega), (by show slots + 0 + 0 + 0 ≤ 7302198; omega)⟩ (Nat.le_of_ble_eq_true rfl) d_law_162 (fun v H3 locs hp hL => ?_)
  obtain ⟨rfl, rfl⟩ := hp
  refine W.eq (g2 := F0 m 165 ls [.int (0)]) rfl ?_
  refine lv_iload C.1 C.2.1 d_law_165 (lv_at hl 1 rfl) ?_
  refine lv_icmp_eq (tgt := 172) C.1 C.2.1 d_law_167 (by decide) (fun _ => ?_) (fun hn => absurd (rfl) hn)
  refine lv_iload C.1 C.2.1 d_law_172 (lv_at hl 1 rfl) ?_
  refine lv_if_ne (tgt := 189) C.1 C.2.1 d_law_174 (by decide) (fun hn => absurd hn (fun h => h rfl)) (fun _ => ?_)
  refine lv_aload_n C.1 C.2.1 d_law_177 rfl (lv_at hl 3 rfl) ?_
  refine lv_iconst (v := 0) C.1 C.2.1 d_law_178 (by decide) ?_
  have ko2 := hq_as ko1 hS (by omega)
  refine hq_lald C 3 rfl ko2 (i := 0) (show vp_in (nI 0) 1 from vp_in_nI (by decide) (by decide)) d_law_179 ?_
  refine W.eq (g2 := F0 m 180 ls [.long (r6.toInt64)]) rfl ?_
  refine lv_iload C.1 C.2.1 d_law_180 (lv_at hl 0 rfl) ?_
  refine lv_i2l (v := r6.toInt64) C.1 C.2.1 d_law_182 rfl ?_
  refine W.lcmp C.1 C.2.1 d_law_183 ?_
  refine lv_if_eq (tgt := 189) C.1 C.2.1 d_law_184 (by decide) (fun _ => ?_) (fun hn => absurd (lw_cmp _) hn)
  refine lv_goto (tgt := 617) C.1 C.2.1 d_law_189 (by decide) ?_
  exact l_next C hml hret hlk hx hL (show cells + 0 + 0 + 0 ≤ 600002 by omega) (show slots + 0 + 0 + 0 ≤ 7302198 by omega) hX hb hO3 (lw_drop (lw_drop hl))
set_option maxHeartbeats 4000000 in
set_option maxRecDepth 100000 in
theorem l_filter_T (C : hq_C p c s m #[Value.ref b] R_L code TB D vwCl (TY cI cZ cN cJ)) (hml : c.maxLocals = 7) (hret : meth.sig.returnType = ret) (hlk : meth.locks = false) (hL : hq_L x locs) (hc : cells ≤ 100) (hs : slots ≤ 10000) (Z : lz D cI cZ cJ b x n mb ob xs s H) (hl : lv_has ls 7 [(4, .int (1)), (3, .ref (ob)), (2, .ref (mb)), (1, .ref (x)), (0, .ref (b))]) (kk : Int32) (hk : ¬ kk = 0) {P : State → Prop} (hPb : hq_Bl P) (hP : ∀ U : State, U.heap = H → s.WarmedH U.vm → P U) (hw : hq_MW l y_L_filter b_L_filter 5 (some .int) [(0, 7, 10, 13)] TB { frames := 8, cells := 1, slots := 6, locals := 160 } x D vwCl (TY cI cZ cN cJ) [.ref (x), .int (xs 2), .int (xs 3), .int (xs 4)] P (fun H v H' => v = some (.int kk) ∧ hq_O H.size H H' ∧ H.size ≤ H'.size)) (hm : hq_M l y_M_filter b_M_filter 4 none TB { frames := 2, cells := 0, slots := 0, locals := 60 } x D vwCl (TY cI cZ cN cJ) [.ref mb, .int (xs 2), .int (xs 3), .int (xs 4)] (fun U => hq_B D vwCl mb 31 (mdC cI cZ mb 0 (nI n) (fun _ _ => 0)) U.heap) (fun H v9 H' => v9 = none ∧ va_at D vwCl (mb, .inr (6, [.int (kk), .int (nI n), .ref (mb + 1), .ref (mb + 2), .ref (mb + 3), .ref (mb + 4), .ref (mb + 5), .ref (mb + 6), .ref (mb + 7), .ref (mb + 8), .ref (mb + 9), .ref (mb + 10), .ref (mb + 11), .ref (mb + 12), .ref (mb + 13), .ref (mb + 14), .ref (mb + 15), .ref (mb + 16), .ref (mb + 17), .ref (mb + 18), .ref (mb + 19), .ref (mb + 20), .ref (mb + 21), .ref (mb + 22), .ref (mb + 23), .ref (mb + 24), .ref (mb + 25), .ref (mb + 26), .ref (mb + 27), .ref (mb + 28), .ref (mb + 29), .ref (mb + 30)])) H' ∧ hq_S mb 31 H H')) : W p l e room_1 s m #[Value.ref b] below meth c H locs cells slots (lw_Z below #[Value.ref b] s) (F0 m 192 ls []) := by
  obtain ⟨hx, hmb, hob, hz, hX, hb, hO, hMd, ko⟩ := Z
  refine lv_aload_n C.1 C.2.1 d_law_192 rfl (lv_at hl 3 rfl) ?_
  refine lv_aload_n C.1 C.2.1 d_law_193 rfl (lv_at hl 4 rfl) ?_
  refine lv_iload C.1 C.2.1 d_law_194 (lv_at hl 0 rfl) ?_
  refine lv_iconst (v := 1) C.1 C.2.1 d_law_196 (by decide) ?_
  refine lv_iadd C.1 C.2.1 d_law_197 ?_
  refine l_ld2 C hX hx hb hO d_law_198 ?_
  refine lv_aload_n C.1 C.2.1 d_law_199 rfl (lv_at hl 4 rfl) ?_
  refine lv_iload C.1 C.2.1 d_law_200 (lv_at hl 0 rfl) ?_
  refine lv_iconst (v := 2) C.1 C.2.1 d_law_202 (by decide) ?_
  refine lv_iadd C.1 C.2.1 d_law_203 ?_
  refine l_ld3 C hX hx hb hO d_law_204 ?_
  refine lv_aload_n C.1 C.2.1 d_law_205 rfl (lv_at hl 4 rfl) ?_
  refine lv_iload C.1 C.2.1 d_law_206 (lv_at hl 0 rfl) ?_
  refine lv_iconst (v := 3) C.1 C.2.1 d_law_208 (by decide) ?_
  refine lv_iadd C.1 C.2.1 d_law_209 ?_
  refine l_ld4 C hX hx hb hO d_law_210 ?_
  refine hq_callSW (lo := x) (As := [.ref (x), .int (xs 2), .int (xs 3), .int (xs 4)]) (rest := []) C tb_good hml Y_L_filter hw hPb hP hL hl.1 rfl rfl ⟨⟨Nat.le_of_ble_eq_true rfl, Nat.le_of_ble_eq_true rfl⟩, (by show cells + 1 ≤ 600002; omega), (by show slots + 6 ≤ 7302198; omega)⟩ (Nat.le_of_ble_eq_true rfl) d_law_211 (fun v H1 locs hp hL => ?_)
  obtain ⟨rfl, hO1, hz1⟩ := hp
  have hO2 : hq_O x s.heap H1 := hq_Oo hO hO1 (by omega)
  have hMd1 : hq_B D vwCl mb 31 (mdC cI cZ mb 0 (nI n) (fun _ _ => 0)) H1 := hq_Bo hMd hO1 (by omega)
  refine W.eq (g2 := F0 m 214 ls [.int (kk)]) rfl ?_
  refine lv_istore C.1 C.2.1 d_law_214 hl (by decide) rfl (lv' := [(5, .int (kk)), (4, .int (1)), (3, .ref (ob)), (2, .ref (mb)), (1, .ref (x)), (0, .ref (b))]) (fun ls hl => ?_)
  refine lv_aload_n C.1 C.2.1 d_law_216 rfl (lv_at hl 3 rfl) ?_
  refine lv_aload_n C.1 C.2.1 d_law_217 rfl (lv_at hl 5 rfl) ?_
  refine lv_iload C.1 C.2.1 d_law_218 (lv_at hl 1 rfl) ?_
  refine lv_iconst (v := 1) C.1 C.2.1 d_law_220 (by decide) ?_
  refine lv_iadd C.1 C.2.1 d_law_221 ?_
  refine l_ld2 C hX hx hb hO2 d_law_222 ?_
  refine lv_aload_n C.1 C.2.1 d_law_223 rfl (lv_at hl 5 rfl) ?_
  refine lv_iload C.1 C.2.1 d_law_224 (lv_at hl 1 rfl) ?_
  refine lv_iconst (v := 2) C.1 C.2.1 d_law_226 (by decide) ?_
  refine lv_iadd C.1 C.2.1 d_law_227 ?_
  refine l_ld3 C hX hx hb hO2 d_law_228 ?_
  refine lv_aload_n C.1 C.2.1 d_law_229 rfl (lv_at hl 5 rfl) ?_
  refine lv_iload C.1 C.2.1 d_law_230 (lv_at hl 1 rfl) ?_
  refine lv_iconst (v := 3) C.1 C.2.1 d_law_232 (by decide) ?_
  refine lv_iadd C.1 C.2.1 d_law_233 ?_
  refine l_ld4 C hX hx hb hO2 d_law_234 ?_
  refine hq_callV (lo := x) (As := [.int (xs 2), .int (xs 3), .int (xs 4)]) (rest := []) C tb_good hml Y_L_65 hm (show va_at D vwCl (mb, .inr (6, [.int (0), .int (nI n), .ref (mb + 1), .ref (mb + 2), .ref (mb + 3), .ref (mb + 4), .ref (mb + 5), .ref (mb + 6), .ref (mb + 7), .ref (mb + 8), .ref (mb + 9), .ref (mb + 10), .ref (mb + 11), .ref (mb + 12), .ref (mb + 13), .ref (mb + 14), .ref (mb + 15), .ref (mb + 16), .ref (mb + 17), .ref (mb + 18), .ref (mb + 19), .ref (mb + 20), .ref (mb + 21), .ref (mb + 22), .ref (mb + 23), .ref (mb + 24), .ref (mb + 25), .ref (mb + 26), .ref (mb + 27), .ref (mb + 28), .ref (mb + 29), .ref (mb + 30)])) H1 from hMd1 0 (by decide)) rfl (fun _ _ _ _ h => h) (fun U hU hW => by show hq_B D vwCl mb 31 (mdC cI cZ mb 0 (nI n) (fun _ _ => 0)) U.heap; rw [hU]; exact hMd1) hL hl.1 rfl rfl ⟨⟨Nat.le_of_ble_eq_true rfl, Nat.le_of_ble_eq_true rfl⟩, (by show cells + 1 + 0 ≤ 600002; omega), (by show slots + 6 + 0 ≤ 7302198; omega)⟩ (Nat.le_of_ble_eq_true rfl) d_law_235 (fun v H2 locs hp hL => ?_)
  obtain ⟨rfl, k0, hS⟩ := hp
  have hO3 : hq_O x s.heap H2 := hq_Os hO2 hS (by omega)
  refine W.eq (g2 := F0 m 238 ls []) rfl ?_
  refine lv_aload_n C.1 C.2.1 d_law_238 rfl (lv_at hl 3 rfl) ?_
  refine hq_callV (lo := x) (As := []) (rest := []) C tb_good hml Y_L_58 (c_thrown l D cI cZ cN cJ x mb n kk) k0 rfl (fun _ _ _ _ h => h) (fun U hU hW => by show va_at D vwCl (mb, .inr (6, [.int (kk), .int (nI n), .ref (mb + 1), .ref (mb + 2), .ref (mb + 3), .ref (mb + 4), .ref (mb + 5), .ref (mb + 6), .ref (mb + 7), .ref (mb + 8), .ref (mb + 9), .ref (mb + 10), .ref (mb + 11), .ref (mb + 12), .ref (mb + 13), .ref (mb + 14), .ref (mb + 15), .ref (mb + 16), .ref (mb + 17), .ref (mb + 18), .ref (mb + 19), .ref (mb + 20), .ref (mb + 21), .ref (mb + 22), .ref (mb + 23), .ref (mb + 24), .ref (mb + 25), .ref (mb + 26), .ref (mb + 27), .ref (mb + 28), .ref (mb + 29), .ref (mb + 30)])) U.heap; rw [hU]; exact k0) hL hl.1 rfl rfl ⟨⟨Nat.le_of_ble_eq_true rfl, Nat.le_of_ble_eq_true rfl⟩, (by show cells + 1 + 0 + 0 ≤ 600002; omega), (by show slots + 6 + 0 + 0 ≤ 7302198; omega)⟩ (Nat.le_of_ble_eq_true rfl) d_law_239 (fun v H3 locs hp hL => ?_)
  obtain ⟨rfl, rfl⟩ := hp
  refine W.eq (g2 := F0 m 242 ls [.int (kk)]) rfl ?_
  refine lv_iload C.1 C.2.1 d_law_242 (lv_at hl 0 rfl) ?_
  refine lv_icmp_eq (tgt := 249) C.1 C.2.1 d_law_244 (by decide) (fun _ => ?_) (fun hn => absurd (rfl) hn)
  refine lv_goto (tgt := 617) C.1 C.2.1 d_law_249 (by decide) ?_
  exact l_next C hml hret hlk hx hL (show cells + 1 + 0 + 0 ≤ 600002 by omega) (show slots + 6 + 0 + 0 ≤ 7302198 by omega) hX hb hO3 (lw_drop hl)
set_option maxHeartbeats 4000000 in
set_option maxRecDepth 100000 in
theorem l_filter_R (C : hq_C p c s m #[Value.ref b] R_L code TB D vwCl (TY cI cZ cN cJ)) (hml : c.maxLocals = 7) (hret : meth.sig.returnType = ret) (hlk : meth.locks = false) (hL : hq_L x locs) (hc : cells ≤ 100) (hs : slots ≤ 10000) (Z : lz D cI cZ cJ b x n mb ob xs s H) (hl : lv_has ls 7 [(4, .int (1)), (3, .ref (ob)), (2, .ref (mb)), (1, .ref (x)), (0, .ref (b))]) {P : State → Prop} (hPb : hq_Bl P) (hP : ∀ U : State, U.heap = H → s.WarmedH U.vm → P U) (hw : hq_MW l y_L_filter b_L_filter 5 (some .int) [(0, 7, 10, 13)] TB { frames := 4, cells := 0, slots := 0, locals := 120 } x D vwCl (TY cI cZ cN cJ) [.ref (x), .int (xs 2), .int (xs 3), .int (xs 4)] P (fun H v H' => v = some (.int 0) ∧ hq_S x (4 + 10 * n) H H')) (hm : hq_M l y_M_filter b_M_filter 4 none TB { frames := 2, cells := 0, slots := 0, locals := 60 } x D vwCl (TY cI cZ cN cJ) [.ref mb, .int (xs 2), .int (xs 3), .int (xs 4)] (fun U => hq_B D vwCl mb 31 (mdC cI cZ mb 0 (nI n) (fun _ _ => 0)) U.heap) (fun H v9 H' => v9 = none ∧ va_at D vwCl (mb, .inr (6, [.int (0), .int (nI n), .ref (mb + 1), .ref (mb + 2), .ref (mb + 3), .ref (mb + 4), .ref (mb + 5), .ref (mb + 6), .ref (mb + 7), .ref (mb + 8), .ref (mb + 9), .ref (mb + 10), .ref (mb + 11), .ref (mb + 12), .ref (mb + 13), .ref (mb + 14), .ref (mb + 15), .ref (mb + 16), .ref (mb + 17), .ref (mb + 18), .ref (mb + 19), .ref (mb + 20), .ref (mb + 21), .ref (mb + 22), .ref (mb + 23), .ref (mb + 24), .ref (mb + 25), .ref (mb + 26), .ref (mb + 27), .ref (mb + 28), .ref (mb + 29), .ref (mb + 30)])) H' ∧ hq_S mb 31 H H')) : W p l e room_1 s m #[Value.ref b] below meth c H locs cells slots (lw_Z below #[Value.ref b] s) (F0 m 192 ls []) := by
  obtain ⟨hx, hmb, hob, hz, hX, hb, hO, hMd, ko⟩ := Z
  refine lv_aload_n C.1 C.2.1 d_law_192 rfl (lv_at hl 3 rfl) ?_
  refine lv_aload_n C.1 C.2.1 d_law_193 rfl (lv_at hl 4 rfl) ?_
  refine lv_iload C.1 C.2.1 d_law_194 (lv_at hl 0 rfl) ?_
  refine lv_iconst (v := 1) C.1 C.2.1 d_law_196 (by decide) ?_
  refine lv_iadd C.1 C.2.1 d_law_197 ?_
  refine l_ld2 C hX hx hb hO d_law_198 ?_
  refine lv_aload_n C.1 C.2.1 d_law_199 rfl (lv_at hl 4 rfl) ?_
  refine lv_iload C.1 C.2.1 d_law_200 (lv_at hl 0 rfl) ?_
  refine lv_iconst (v := 2) C.1 C.2.1 d_law_202 (by decide) ?_
  refine lv_iadd C.1 C.2.1 d_law_203 ?_
  refine l_ld3 C hX hx hb hO d_law_204 ?_
  refine lv_aload_n C.1 C.2.1 d_law_205 rfl (lv_at hl 4 rfl) ?_
  refine lv_iload C.1 C.2.1 d_law_206 (lv_at hl 0 rfl) ?_
  refine lv_iconst (v := 3) C.1 C.2.1 d_law_208 (by decide) ?_
  refine lv_iadd C.1 C.2.1 d_law_209 ?_
  refine l_ld4 C hX hx hb hO d_law_210 ?_
  refine hq_callSW (lo := x) (As := [.ref (x), .int (xs 2), .int (xs 3), .int (xs 4)]) (rest := []) C tb_good hml Y_L_filter hw hPb hP hL hl.1 rfl rfl ⟨⟨Nat.le_of_ble_eq_true rfl, Nat.le_of_ble_eq_true rfl⟩, (by show cells + 0 ≤ 600002; omega), (by show slots + 0 ≤ 7302198; omega)⟩ (Nat.le_of_ble_eq_true rfl) d_law_211 (fun v H1 locs hp hL => ?_)
  obtain ⟨rfl, hS1⟩ := hp
  have hO2 : hq_O x s.heap H1 := hq_Os hO hS1 (by omega)
  have hMd1 : hq_B D vwCl mb 31 (mdC cI cZ mb 0 (nI n) (fun _ _ => 0)) H1 := hq_Bs hMd hS1 (by omega)
  refine W.eq (g2 := F0 m 214 ls [.int (0)]) rfl ?_
  refine lv_istore C.1 C.2.1 d_law_214 hl (by decide) rfl (lv' := [(5, .int (0)), (4, .int (1)), (3, .ref (ob)), (2, .ref (mb)), (1, .ref (x)), (0, .ref (b))]) (fun ls hl => ?_)
  refine lv_aload_n C.1 C.2.1 d_law_216 rfl (lv_at hl 3 rfl) ?_
  refine lv_aload_n C.1 C.2.1 d_law_217 rfl (lv_at hl 5 rfl) ?_
  refine lv_iload C.1 C.2.1 d_law_218 (lv_at hl 1 rfl) ?_
  refine lv_iconst (v := 1) C.1 C.2.1 d_law_220 (by decide) ?_
  refine lv_iadd C.1 C.2.1 d_law_221 ?_
  refine l_ld2 C hX hx hb hO2 d_law_222 ?_
  refine lv_aload_n C.1 C.2.1 d_law_223 rfl (lv_at hl 5 rfl) ?_
  refine lv_iload C.1 C.2.1 d_law_224 (lv_at hl 1 rfl) ?_
  refine lv_iconst (v := 2) C.1 C.2.1 d_law_226 (by decide) ?_
  refine lv_iadd C.1 C.2.1 d_law_227 ?_
  refine l_ld3 C hX hx hb hO2 d_law_228 ?_
  refine lv_aload_n C.1 C.2.1 d_law_229 rfl (lv_at hl 5 rfl) ?_
  refine lv_iload C.1 C.2.1 d_law_230 (lv_at hl 1 rfl) ?_
  refine lv_iconst (v := 3) C.1 C.2.1 d_law_232 (by decide) ?_
  refine lv_iadd C.1 C.2.1 d_law_233 ?_
  refine l_ld4 C hX hx hb hO2 d_law_234 ?_
  refine hq_callV (lo := x) (As := [.int (xs 2), .int (xs 3), .int (xs 4)]) (rest := []) C tb_good hml Y_L_65 hm (show va_at D vwCl (mb, .inr (6, [.int (0), .int (nI n), .ref (mb + 1), .ref (mb + 2), .ref (mb + 3), .ref (mb + 4), .ref (mb + 5), .ref (mb + 6), .ref (mb + 7), .ref (mb + 8), .ref (mb + 9), .ref (mb + 10), .ref (mb + 11), .ref (mb + 12), .ref (mb + 13), .ref (mb + 14), .ref (mb + 15), .ref (mb + 16), .ref (mb + 17), .ref (mb + 18), .ref (mb + 19), .ref (mb + 20), .ref (mb + 21), .ref (mb + 22), .ref (mb + 23), .ref (mb + 24), .ref (mb + 25), .ref (mb + 26), .ref (mb + 27), .ref (mb + 28), .ref (mb + 29), .ref (mb + 30)])) H1 from hMd1 0 (by decide)) rfl (fun _ _ _ _ h => h) (fun U hU hW => by show hq_B D vwCl mb 31 (mdC cI cZ mb 0 (nI n) (fun _ _ => 0)) U.heap; rw [hU]; exact hMd1) hL hl.1 rfl rfl ⟨⟨Nat.le_of_ble_eq_true rfl, Nat.le_of_ble_eq_true rfl⟩, (by show cells + 0 + 0 ≤ 600002; omega), (by show slots + 0 + 0 ≤ 7302198; omega)⟩ (Nat.le_of_ble_eq_true rfl) d_law_235 (fun v H2 locs hp hL => ?_)
  obtain ⟨rfl, k0, hS⟩ := hp
  have hO3 : hq_O x s.heap H2 := hq_Os hO2 hS (by omega)
  refine W.eq (g2 := F0 m 238 ls []) rfl ?_
  refine lv_aload_n C.1 C.2.1 d_law_238 rfl (lv_at hl 3 rfl) ?_
  refine hq_callV (lo := x) (As := []) (rest := []) C tb_good hml Y_L_58 (c_thrown l D cI cZ cN cJ x mb n 0) k0 rfl (fun _ _ _ _ h => h) (fun U hU hW => by show va_at D vwCl (mb, .inr (6, [.int (0), .int (nI n), .ref (mb + 1), .ref (mb + 2), .ref (mb + 3), .ref (mb + 4), .ref (mb + 5), .ref (mb + 6), .ref (mb + 7), .ref (mb + 8), .ref (mb + 9), .ref (mb + 10), .ref (mb + 11), .ref (mb + 12), .ref (mb + 13), .ref (mb + 14), .ref (mb + 15), .ref (mb + 16), .ref (mb + 17), .ref (mb + 18), .ref (mb + 19), .ref (mb + 20), .ref (mb + 21), .ref (mb + 22), .ref (mb + 23), .ref (mb + 24), .ref (mb + 25), .ref (mb + 26), .ref (mb + 27), .ref (mb + 28), .ref (mb + 29), .ref (mb + 30)])) U.heap; rw [hU]; exact k0) hL hl.1 rfl rfl ⟨⟨Nat.le_of_ble_eq_true rfl, Nat.le_of_ble_eq_true rfl⟩, (by show cells + 0 + 0 + 0 ≤ 600002; omega), (by show slots + 0 + 0 + 0 ≤ 7302198; omega)⟩ (Nat.le_of_ble_eq_true rfl) d_law_239 (fun v H3 locs hp hL => ?_)
  obtain ⟨rfl, rfl⟩ := hp
  refine W.eq (g2 := F0 m 242 ls [.int (0)]) rfl ?_
  refine lv_iload C.1 C.2.1 d_law_242 (lv_at hl 0 rfl) ?_
  refine lv_icmp_eq (tgt := 249) C.1 C.2.1 d_law_244 (by decide) (fun _ => ?_) (fun hn => absurd (rfl) hn)
  refine lv_goto (tgt := 617) C.1 C.2.1 d_law_249 (by decide) ?_
  exact l_next C hml hret hlk hx hL (show cells + 0 + 0 + 0 ≤ 600002 by omega) (show slots + 0 + 0 + 0 ≤ 7302198 by omega) hX hb hO3 (lw_drop hl)
set_option maxHeartbeats 4000000 in
set_option maxRecDepth 100000 in
theorem l_disturb_T (C : hq_C p c s m #[Value.ref b] R_L code TB D vwCl (TY cI cZ cN cJ)) (hml : c.maxLocals = 7) (hret : meth.sig.returnType = ret) (hlk : meth.locks = false) (hL : hq_L x locs) (hc : cells ≤ 100) (hs : slots ≤ 10000) (Z : lz D cI cZ cJ b x n mb ob xs s H) (hl : lv_has ls 7 [(4, .int (1)), (3, .ref (ob)), (2, .ref (mb)), (1, .ref (x)), (0, .ref (b))]) (kk : Int32) (hk : ¬ kk = 0) {P : State → Prop} (hPb : hq_Bl P) (hP : ∀ U : State, U.heap = H → s.WarmedH U.vm → P U) (hw : hq_MW l y_L_disturb b_L_disturb 4 (some .int) [(0, 6, 9, 13)] TB { frames := 8, cells := 1, slots := 6, locals := 160 } x D vwCl (TY cI cZ cN cJ) [.ref (x), .int (xs 2), .int (xs 3)] P (fun H v H' => v = some (.int kk) ∧ hq_O H.size H H' ∧ H.size ≤ H'.size)) (hm : hq_M l y_M_disturb b_M_disturb 3 none TB { frames := 2, cells := 0, slots := 0, locals := 60 } x D vwCl (TY cI cZ cN cJ) [.ref mb, .int (xs 2), .int (xs 3)] (fun U => hq_B D vwCl mb 31 (mdC cI cZ mb 0 (nI n) (fun _ _ => 0)) U.heap) (fun H v9 H' => v9 = none ∧ va_at D vwCl (mb, .inr (6, [.int (kk), .int (nI n), .ref (mb + 1), .ref (mb + 2), .ref (mb + 3), .ref (mb + 4), .ref (mb + 5), .ref (mb + 6), .ref (mb + 7), .ref (mb + 8), .ref (mb + 9), .ref (mb + 10), .ref (mb + 11), .ref (mb + 12), .ref (mb + 13), .ref (mb + 14), .ref (mb + 15), .ref (mb + 16), .ref (mb + 17), .ref (mb + 18), .ref (mb + 19), .ref (mb + 20), .ref (mb + 21), .ref (mb + 22), .ref (mb + 23), .ref (mb + 24), .ref (mb + 25), .ref (mb + 26), .ref (mb + 27), .ref (mb + 28), .ref (mb + 29), .ref (mb + 30)])) H' ∧ hq_S mb 31 H H')) : W p l e room_1 s m #[Value.ref b] below meth c H locs cells slots (lw_Z below #[Value.ref b] s) (F0 m 252 ls []) := by
  obtain ⟨hx, hmb, hob, hz, hX, hb, hO, hMd, ko⟩ := Z
  refine lv_aload_n C.1 C.2.1 d_law_252 rfl (lv_at hl 3 rfl) ?_
  refine lv_aload_n C.1 C.2.1 d_law_253 rfl (lv_at hl 4 rfl) ?_
  refine lv_iload C.1 C.2.1 d_law_254 (lv_at hl 0 rfl) ?_
  refine lv_iconst (v := 1) C.1 C.2.1 d_law_256 (by decide) ?_
  refine lv_iadd C.1 C.2.1 d_law_257 ?_
  refine l_ld2 C hX hx hb hO d_law_258 ?_
  refine lv_aload_n C.1 C.2.1 d_law_259 rfl (lv_at hl 4 rfl) ?_
  refine lv_iload C.1 C.2.1 d_law_260 (lv_at hl 0 rfl) ?_
  refine lv_iconst (v := 2) C.1 C.2.1 d_law_262 (by decide) ?_
  refine lv_iadd C.1 C.2.1 d_law_263 ?_
  refine l_ld3 C hX hx hb hO d_law_264 ?_
  refine hq_callSW (lo := x) (As := [.ref (x), .int (xs 2), .int (xs 3)]) (rest := []) C tb_good hml Y_L_disturb hw hPb hP hL hl.1 rfl rfl ⟨⟨Nat.le_of_ble_eq_true rfl, Nat.le_of_ble_eq_true rfl⟩, (by show cells + 1 ≤ 600002; omega), (by show slots + 6 ≤ 7302198; omega)⟩ (Nat.le_of_ble_eq_true rfl) d_law_265 (fun v H1 locs hp hL => ?_)
  obtain ⟨rfl, hO1, hz1⟩ := hp
  have hO2 : hq_O x s.heap H1 := hq_Oo hO hO1 (by omega)
  have hMd1 : hq_B D vwCl mb 31 (mdC cI cZ mb 0 (nI n) (fun _ _ => 0)) H1 := hq_Bo hMd hO1 (by omega)
  refine W.eq (g2 := F0 m 268 ls [.int (kk)]) rfl ?_
  refine lv_istore C.1 C.2.1 d_law_268 hl (by decide) rfl (lv' := [(5, .int (kk)), (4, .int (1)), (3, .ref (ob)), (2, .ref (mb)), (1, .ref (x)), (0, .ref (b))]) (fun ls hl => ?_)
  refine lv_aload_n C.1 C.2.1 d_law_270 rfl (lv_at hl 3 rfl) ?_
  refine lv_aload_n C.1 C.2.1 d_law_271 rfl (lv_at hl 5 rfl) ?_
  refine lv_iload C.1 C.2.1 d_law_272 (lv_at hl 1 rfl) ?_
  refine lv_iconst (v := 1) C.1 C.2.1 d_law_274 (by decide) ?_
  refine lv_iadd C.1 C.2.1 d_law_275 ?_
  refine l_ld2 C hX hx hb hO2 d_law_276 ?_
  refine lv_aload_n C.1 C.2.1 d_law_277 rfl (lv_at hl 5 rfl) ?_
  refine lv_iload C.1 C.2.1 d_law_278 (lv_at hl 1 rfl) ?_
  refine lv_iconst (v := 2) C.1 C.2.1 d_law_280 (by decide) ?_
  refine lv_iadd C.1 C.2.1 d_law_281 ?_
  refine l_ld3 C hX hx hb hO2 d_law_282 ?_
  refine hq_callV (lo := x) (As := [.int (xs 2), .int (xs 3)]) (rest := []) C tb_good hml Y_L_69 hm (show va_at D vwCl (mb, .inr (6, [.int (0), .int (nI n), .ref (mb + 1), .ref (mb + 2), .ref (mb + 3), .ref (mb + 4), .ref (mb + 5), .ref (mb + 6), .ref (mb + 7), .ref (mb + 8), .ref (mb + 9), .ref (mb + 10), .ref (mb + 11), .ref (mb + 12), .ref (mb + 13), .ref (mb + 14), .ref (mb + 15), .ref (mb + 16), .ref (mb + 17), .ref (mb + 18), .ref (mb + 19), .ref (mb + 20), .ref (mb + 21), .ref (mb + 22), .ref (mb + 23), .ref (mb + 24), .ref (mb + 25), .ref (mb + 26), .ref (mb + 27), .ref (mb + 28), .ref (mb + 29), .ref (mb + 30)])) H1 from hMd1 0 (by decide)) rfl (fun _ _ _ _ h => h) (fun U hU hW => by show hq_B D vwCl mb 31 (mdC cI cZ mb 0 (nI n) (fun _ _ => 0)) U.heap; rw [hU]; exact hMd1) hL hl.1 rfl rfl ⟨⟨Nat.le_of_ble_eq_true rfl, Nat.le_of_ble_eq_true rfl⟩, (by show cells + 1 + 0 ≤ 600002; omega), (by show slots + 6 + 0 ≤ 7302198; omega)⟩ (Nat.le_of_ble_eq_true rfl) d_law_283 (fun v H2 locs hp hL => ?_)
  obtain ⟨rfl, k0, hS⟩ := hp
  have hO3 : hq_O x s.heap H2 := hq_Os hO2 hS (by omega)
  refine W.eq (g2 := F0 m 286 ls []) rfl ?_
  refine lv_aload_n C.1 C.2.1 d_law_286 rfl (lv_at hl 3 rfl) ?_
  refine hq_callV (lo := x) (As := []) (rest := []) C tb_good hml Y_L_58 (c_thrown l D cI cZ cN cJ x mb n kk) k0 rfl (fun _ _ _ _ h => h) (fun U hU hW => by show va_at D vwCl (mb, .inr (6, [.int (kk), .int (nI n), .ref (mb + 1), .ref (mb + 2), .ref (mb + 3), .ref (mb + 4), .ref (mb + 5), .ref (mb + 6), .ref (mb + 7), .ref (mb + 8), .ref (mb + 9), .ref (mb + 10), .ref (mb + 11), .ref (mb + 12), .ref (mb + 13), .ref (mb + 14), .ref (mb + 15), .ref (mb + 16), .ref (mb + 17), .ref (mb + 18), .ref (mb + 19), .ref (mb + 20), .ref (mb + 21), .ref (mb + 22), .ref (mb + 23), .ref (mb + 24), .ref (mb + 25), .ref (mb + 26), .ref (mb + 27), .ref (mb + 28), .ref (mb + 29), .ref (mb + 30)])) U.heap; rw [hU]; exact k0) hL hl.1 rfl rfl ⟨⟨Nat.le_of_ble_eq_true rfl, Nat.le_of_ble_eq_true rfl⟩, (by show cells + 1 + 0 + 0 ≤ 600002; omega), (by show slots + 6 + 0 + 0 ≤ 7302198; omega)⟩ (Nat.le_of_ble_eq_true rfl) d_law_287 (fun v H3 locs hp hL => ?_)
  obtain ⟨rfl, rfl⟩ := hp
  refine W.eq (g2 := F0 m 290 ls [.int (kk)]) rfl ?_
  refine lv_iload C.1 C.2.1 d_law_290 (lv_at hl 0 rfl) ?_
  refine lv_icmp_eq (tgt := 297) C.1 C.2.1 d_law_292 (by decide) (fun _ => ?_) (fun hn => absurd (rfl) hn)
  refine lv_goto (tgt := 617) C.1 C.2.1 d_law_297 (by decide) ?_
  exact l_next C hml hret hlk hx hL (show cells + 1 + 0 + 0 ≤ 600002 by omega) (show slots + 6 + 0 + 0 ≤ 7302198 by omega) hX hb hO3 (lw_drop hl)
set_option maxHeartbeats 4000000 in
set_option maxRecDepth 100000 in
theorem l_disturb_R (C : hq_C p c s m #[Value.ref b] R_L code TB D vwCl (TY cI cZ cN cJ)) (hml : c.maxLocals = 7) (hret : meth.sig.returnType = ret) (hlk : meth.locks = false) (hL : hq_L x locs) (hc : cells ≤ 100) (hs : slots ≤ 10000) (Z : lz D cI cZ cJ b x n mb ob xs s H) (hl : lv_has ls 7 [(4, .int (1)), (3, .ref (ob)), (2, .ref (mb)), (1, .ref (x)), (0, .ref (b))]) {P : State → Prop} (hPb : hq_Bl P) (hP : ∀ U : State, U.heap = H → s.WarmedH U.vm → P U) (hw : hq_MW l y_L_disturb b_L_disturb 4 (some .int) [(0, 6, 9, 13)] TB { frames := 4, cells := 0, slots := 0, locals := 120 } x D vwCl (TY cI cZ cN cJ) [.ref (x), .int (xs 2), .int (xs 3)] P (fun H v H' => v = some (.int 0) ∧ hq_S x (4 + 10 * n) H H')) (hm : hq_M l y_M_disturb b_M_disturb 3 none TB { frames := 2, cells := 0, slots := 0, locals := 60 } x D vwCl (TY cI cZ cN cJ) [.ref mb, .int (xs 2), .int (xs 3)] (fun U => hq_B D vwCl mb 31 (mdC cI cZ mb 0 (nI n) (fun _ _ => 0)) U.heap) (fun H v9 H' => v9 = none ∧ va_at D vwCl (mb, .inr (6, [.int (0), .int (nI n), .ref (mb + 1), .ref (mb + 2), .ref (mb + 3), .ref (mb + 4), .ref (mb + 5), .ref (mb + 6), .ref (mb + 7), .ref (mb + 8), .ref (mb + 9), .ref (mb + 10), .ref (mb + 11), .ref (mb + 12), .ref (mb + 13), .ref (mb + 14), .ref (mb + 15), .ref (mb + 16), .ref (mb + 17), .ref (mb + 18), .ref (mb + 19), .ref (mb + 20), .ref (mb + 21), .ref (mb + 22), .ref (mb + 23), .ref (mb + 24), .ref (mb + 25), .ref (mb + 26), .ref (mb + 27), .ref (mb + 28), .ref (mb + 29), .ref (mb + 30)])) H' ∧ hq_S mb 31 H H')) : W p l e room_1 s m #[Value.ref b] below meth c H locs cells slots (lw_Z below #[Value.ref b] s) (F0 m 252 ls []) := by
  obtain ⟨hx, hmb, hob, hz, hX, hb, hO, hMd, ko⟩ := Z
  refine lv_aload_n C.1 C.2.1 d_law_252 rfl (lv_at hl 3 rfl) ?_
  refine lv_aload_n C.1 C.2.1 d_law_253 rfl (lv_at hl 4 rfl) ?_
  refine lv_iload C.1 C.2.1 d_law_254 (lv_at hl 0 rfl) ?_
  refine lv_iconst (v := 1) C.1 C.2.1 d_law_256 (by decide) ?_
  refine lv_iadd C.1 C.2.1 d_law_257 ?_
  refine l_ld2 C hX hx hb hO d_law_258 ?_
  refine lv_aload_n C.1 C.2.1 d_law_259 rfl (lv_at hl 4 rfl) ?_
  refine lv_iload C.1 C.2.1 d_law_260 (lv_at hl 0 rfl) ?_
  refine lv_iconst (v := 2) C.1 C.2.1 d_law_262 (by decide) ?_
  refine lv_iadd C.1 C.2.1 d_law_263 ?_
  refine l_ld3 C hX hx hb hO d_law_264 ?_
  refine hq_callSW (lo := x) (As := [.ref (x), .int (xs 2), .int (xs 3)]) (rest := []) C tb_good hml Y_L_disturb hw hPb hP hL hl.1 rfl rfl ⟨⟨Nat.le_of_ble_eq_true rfl, Nat.le_of_ble_eq_true rfl⟩, (by show cells + 0 ≤ 600002; omega), (by show slots + 0 ≤ 7302198; omega)⟩ (Nat.le_of_ble_eq_true rfl) d_law_265 (fun v H1 locs hp hL => ?_)
  obtain ⟨rfl, hS1⟩ := hp
  have hO2 : hq_O x s.heap H1 := hq_Os hO hS1 (by omega)
  have hMd1 : hq_B D vwCl mb 31 (mdC cI cZ mb 0 (nI n) (fun _ _ => 0)) H1 := hq_Bs hMd hS1 (by omega)
  refine W.eq (g2 := F0 m 268 ls [.int (0)]) rfl ?_
  refine lv_istore C.1 C.2.1 d_law_268 hl (by decide) rfl (lv' := [(5, .int (0)), (4, .int (1)), (3, .ref (ob)), (2, .ref (mb)), (1, .ref (x)), (0, .ref (b))]) (fun ls hl => ?_)
  refine lv_aload_n C.1 C.2.1 d_law_270 rfl (lv_at hl 3 rfl) ?_
  refine lv_aload_n C.1 C.2.1 d_law_271 rfl (lv_at hl 5 rfl) ?_
  refine lv_iload C.1 C.2.1 d_law_272 (lv_at hl 1 rfl) ?_
  refine lv_iconst (v := 1) C.1 C.2.1 d_law_274 (by decide) ?_
  refine lv_iadd C.1 C.2.1 d_law_275 ?_
  refine l_ld2 C hX hx hb hO2 d_law_276 ?_
  refine lv_aload_n C.1 C.2.1 d_law_277 rfl (lv_at hl 5 rfl) ?_
  refine lv_iload C.1 C.2.1 d_law_278 (lv_at hl 1 rfl) ?_
  refine lv_iconst (v := 2) C.1 C.2.1 d_law_280 (by decide) ?_
  refine lv_iadd C.1 C.2.1 d_law_281 ?_
  refine l_ld3 C hX hx hb hO2 d_law_282 ?_
  refine hq_callV (lo := x) (As := [.int (xs 2), .int (xs 3)]) (rest := []) C tb_good hml Y_L_69 hm (show va_at D vwCl (mb, .inr (6, [.int (0), .int (nI n), .ref (mb + 1), .ref (mb + 2), .ref (mb + 3), .ref (mb + 4), .ref (mb + 5), .ref (mb + 6), .ref (mb + 7), .ref (mb + 8), .ref (mb + 9), .ref (mb + 10), .ref (mb + 11), .ref (mb + 12), .ref (mb + 13), .ref (mb + 14), .ref (mb + 15), .ref (mb + 16), .ref (mb + 17), .ref (mb + 18), .ref (mb + 19), .ref (mb + 20), .ref (mb + 21), .ref (mb + 22), .ref (mb + 23), .ref (mb + 24), .ref (mb + 25), .ref (mb + 26), .ref (mb + 27), .ref (mb + 28), .ref (mb + 29), .ref (mb + 30)])) H1 from hMd1 0 (by decide)) rfl (fun _ _ _ _ h => h) (fun U hU hW => by show hq_B D vwCl mb 31 (mdC cI cZ mb 0 (nI n) (fun _ _ => 0)) U.heap; rw [hU]; exact hMd1) hL hl.1 rfl rfl ⟨⟨Nat.le_of_ble_eq_true rfl, Nat.le_of_ble_eq_true rfl⟩, (by show cells + 0 + 0 ≤ 600002; omega), (by show slots + 0 + 0 ≤ 7302198; omega)⟩ (Nat.le_of_ble_eq_true rfl) d_law_283 (fun v H2 locs hp hL => ?_)
  obtain ⟨rfl, k0, hS⟩ := hp
  have hO3 : hq_O x s.heap H2 := hq_Os hO2 hS (by omega)
  refine W.eq (g2 := F0 m 286 ls []) rfl ?_
  refine lv_aload_n C.1 C.2.1 d_law_286 rfl (lv_at hl 3 rfl) ?_
  refine hq_callV (lo := x) (As := []) (rest := []) C tb_good hml Y_L_58 (c_thrown l D cI cZ cN cJ x mb n 0) k0 rfl (fun _ _ _ _ h => h) (fun U hU hW => by show va_at D vwCl (mb, .inr (6, [.int (0), .int (nI n), .ref (mb + 1), .ref (mb + 2), .ref (mb + 3), .ref (mb + 4), .ref (mb + 5), .ref (mb + 6), .ref (mb + 7), .ref (mb + 8), .ref (mb + 9), .ref (mb + 10), .ref (mb + 11), .ref (mb + 12), .ref (mb + 13), .ref (mb + 14), .ref (mb + 15), .ref (mb + 16), .ref (mb + 17), .ref (mb + 18), .ref (mb + 19), .ref (mb + 20), .ref (mb + 21), .ref (mb + 22), .ref (mb + 23), .ref (mb + 24), .ref (mb + 25), .ref (mb + 26), .ref (mb + 27), .ref (mb + 28), .ref (mb + 29), .ref (mb + 30)])) U.heap; rw [hU]; exact k0) hL hl.1 rfl rfl ⟨⟨Nat.le_of_ble_eq_true rfl, Nat.le_of_ble_eq_true rfl⟩, (by show cells + 0 + 0 + 0 ≤ 600002; omega), (by show slots + 0 + 0 + 0 ≤ 7302198; omega)⟩ (Nat.le_of_ble_eq_true rfl) d_law_287 (fun v H3 locs hp hL => ?_)
  obtain ⟨rfl, rfl⟩ := hp
  refine W.eq (g2 := F0 m 290 ls [.int (0)]) rfl ?_
  refine lv_iload C.1 C.2.1 d_law_290 (lv_at hl 0 rfl) ?_
  refine lv_icmp_eq (tgt := 297) C.1 C.2.1 d_law_292 (by decide) (fun _ => ?_) (fun hn => absurd (rfl) hn)
  refine lv_goto (tgt := 617) C.1 C.2.1 d_law_297 (by decide) ?_
  exact l_next C hml hret hlk hx hL (show cells + 0 + 0 + 0 ≤ 600002 by omega) (show slots + 0 + 0 + 0 ≤ 7302198 by omega) hX hb hO3 (lw_drop hl)
set_option maxHeartbeats 4000000 in
set_option maxRecDepth 100000 in
theorem l_pass_T (C : hq_C p c s m #[Value.ref b] R_L code TB D vwCl (TY cI cZ cN cJ)) (hml : c.maxLocals = 7) (hret : meth.sig.returnType = ret) (hlk : meth.locks = false) (hL : hq_L x locs) (hc : cells ≤ 100) (hs : slots ≤ 10000) (Z : lz D cI cZ cJ b x n mb ob xs s H) (hl : lv_has ls 7 [(4, .int (1)), (3, .ref (ob)), (2, .ref (mb)), (1, .ref (x)), (0, .ref (b))]) (kk : Int32) (hk : ¬ kk = 0) (r6 : Int32) {P : State → Prop} (hPb : hq_Bl P) (hP : ∀ U : State, U.heap = H → s.WarmedH U.vm → P U) (hw : hq_MW l y_L_pass b_L_pass 4 (some .int) [(0, 9, 12, 13)] TB { frames := 8, cells := 1, slots := 6, locals := 160 } x D vwCl (TY cI cZ cN cJ) [.ref (x), .int (xs 2), .ref (ob)] P (fun H v H' => v = some (.int kk) ∧ hq_O H.size H H' ∧ H.size ≤ H'.size)) (hm : hq_M l y_M_pass b_M_pass 4 (some .int) TB mqRm x D vwCl (TY cI cZ cN cJ) [.ref mb, .int (xs 2)] (fun U => hq_B D vwCl mb 31 (mdC cI cZ mb 0 (nI n) (fun _ _ => 0)) U.heap) (fun H v9 H' => v9 = some (.int r6) ∧ va_at D vwCl (mb, .inr (6, [.int (kk), .int (nI n), .ref (mb + 1), .ref (mb + 2), .ref (mb + 3), .ref (mb + 4), .ref (mb + 5), .ref (mb + 6), .ref (mb + 7), .ref (mb + 8), .ref (mb + 9), .ref (mb + 10), .ref (mb + 11), .ref (mb + 12), .ref (mb + 13), .ref (mb + 14), .ref (mb + 15), .ref (mb + 16), .ref (mb + 17), .ref (mb + 18), .ref (mb + 19), .ref (mb + 20), .ref (mb + 21), .ref (mb + 22), .ref (mb + 23), .ref (mb + 24), .ref (mb + 25), .ref (mb + 26), .ref (mb + 27), .ref (mb + 28), .ref (mb + 29), .ref (mb + 30)])) H' ∧ hq_S mb 31 H H')) : W p l e room_1 s m #[Value.ref b] below meth c H locs cells slots (lw_Z below #[Value.ref b] s) (F0 m 300 ls []) := by
  obtain ⟨hx, hmb, hob, hz, hX, hb, hO, hMd, ko⟩ := Z
  refine lv_aload_n C.1 C.2.1 d_law_300 rfl (lv_at hl 3 rfl) ?_
  refine lv_aload_n C.1 C.2.1 d_law_301 rfl (lv_at hl 4 rfl) ?_
  refine lv_iload C.1 C.2.1 d_law_302 (lv_at hl 0 rfl) ?_
  refine lv_iconst (v := 1) C.1 C.2.1 d_law_304 (by decide) ?_
  refine lv_iadd C.1 C.2.1 d_law_305 ?_
  refine l_ld2 C hX hx hb hO d_law_306 ?_
  refine lv_aload_n C.1 C.2.1 d_law_307 rfl (lv_at hl 1 rfl) ?_
  refine hq_callSW (lo := x) (As := [.ref (x), .int (xs 2), .ref (ob)]) (rest := []) C tb_good hml Y_L_pass hw hPb hP hL hl.1 rfl rfl ⟨⟨Nat.le_of_ble_eq_true rfl, Nat.le_of_ble_eq_true rfl⟩, (by show cells + 1 ≤ 600002; omega), (by show slots + 6 ≤ 7302198; omega)⟩ (Nat.le_of_ble_eq_true rfl) d_law_308 (fun v H1 locs hp hL => ?_)
  obtain ⟨rfl, hO1, hz1⟩ := hp
  have hO2 : hq_O x s.heap H1 := hq_Oo hO hO1 (by omega)
  have hMd1 : hq_B D vwCl mb 31 (mdC cI cZ mb 0 (nI n) (fun _ _ => 0)) H1 := hq_Bo hMd hO1 (by omega)
  refine W.eq (g2 := F0 m 311 ls [.int (kk)]) rfl ?_
  refine lv_istore C.1 C.2.1 d_law_311 hl (by decide) rfl (lv' := [(5, .int (kk)), (4, .int (1)), (3, .ref (ob)), (2, .ref (mb)), (1, .ref (x)), (0, .ref (b))]) (fun ls hl => ?_)
  refine lv_aload_n C.1 C.2.1 d_law_313 rfl (lv_at hl 3 rfl) ?_
  refine lv_aload_n C.1 C.2.1 d_law_314 rfl (lv_at hl 5 rfl) ?_
  refine lv_iload C.1 C.2.1 d_law_315 (lv_at hl 1 rfl) ?_
  refine lv_iconst (v := 1) C.1 C.2.1 d_law_317 (by decide) ?_
  refine lv_iadd C.1 C.2.1 d_law_318 ?_
  refine l_ld2 C hX hx hb hO2 d_law_319 ?_
  refine hq_callV (lo := x) (As := [.int (xs 2)]) (rest := []) C tb_good hml Y_L_73 hm (show va_at D vwCl (mb, .inr (6, [.int (0), .int (nI n), .ref (mb + 1), .ref (mb + 2), .ref (mb + 3), .ref (mb + 4), .ref (mb + 5), .ref (mb + 6), .ref (mb + 7), .ref (mb + 8), .ref (mb + 9), .ref (mb + 10), .ref (mb + 11), .ref (mb + 12), .ref (mb + 13), .ref (mb + 14), .ref (mb + 15), .ref (mb + 16), .ref (mb + 17), .ref (mb + 18), .ref (mb + 19), .ref (mb + 20), .ref (mb + 21), .ref (mb + 22), .ref (mb + 23), .ref (mb + 24), .ref (mb + 25), .ref (mb + 26), .ref (mb + 27), .ref (mb + 28), .ref (mb + 29), .ref (mb + 30)])) H1 from hMd1 0 (by decide)) rfl (fun _ _ _ _ h => h) (fun U hU hW => by show hq_B D vwCl mb 31 (mdC cI cZ mb 0 (nI n) (fun _ _ => 0)) U.heap; rw [hU]; exact hMd1) hL hl.1 rfl rfl ⟨⟨Nat.le_of_ble_eq_true rfl, Nat.le_of_ble_eq_true rfl⟩, (by show cells + 1 + 0 ≤ 600002; omega), (by show slots + 6 + 0 ≤ 7302198; omega)⟩ (Nat.le_of_ble_eq_true rfl) d_law_320 (fun v H2 locs hp hL => ?_)
  obtain ⟨rfl, k0, hS⟩ := hp
  have hO3 : hq_O x s.heap H2 := hq_Os hO2 hS (by omega)
  refine W.eq (g2 := F0 m 323 ls [.int (r6)]) rfl ?_
  refine lv_istore C.1 C.2.1 d_law_323 hl (by decide) rfl (lv' := [(6, .int (r6)), (5, .int (kk)), (4, .int (1)), (3, .ref (ob)), (2, .ref (mb)), (1, .ref (x)), (0, .ref (b))]) (fun ls hl => ?_)
  refine lv_aload_n C.1 C.2.1 d_law_325 rfl (lv_at hl 4 rfl) ?_
  refine hq_callV (lo := x) (As := []) (rest := []) C tb_good hml Y_L_58 (c_thrown l D cI cZ cN cJ x mb n kk) k0 rfl (fun _ _ _ _ h => h) (fun U hU hW => by show va_at D vwCl (mb, .inr (6, [.int (kk), .int (nI n), .ref (mb + 1), .ref (mb + 2), .ref (mb + 3), .ref (mb + 4), .ref (mb + 5), .ref (mb + 6), .ref (mb + 7), .ref (mb + 8), .ref (mb + 9), .ref (mb + 10), .ref (mb + 11), .ref (mb + 12), .ref (mb + 13), .ref (mb + 14), .ref (mb + 15), .ref (mb + 16), .ref (mb + 17), .ref (mb + 18), .ref (mb + 19), .ref (mb + 20), .ref (mb + 21), .ref (mb + 22), .ref (mb + 23), .ref (mb + 24), .ref (mb + 25), .ref (mb + 26), .ref (mb + 27), .ref (mb + 28), .ref (mb + 29), .ref (mb + 30)])) U.heap; rw [hU]; exact k0) hL hl.1 rfl rfl ⟨⟨Nat.le_of_ble_eq_true rfl, Nat.le_of_ble_eq_true rfl⟩, (by show cells + 1 + 0 + 0 ≤ 600002; omega), (by show slots + 6 + 0 + 0 ≤ 7302198; omega)⟩ (Nat.le_of_ble_eq_true rfl) d_law_326 (fun v H3 locs hp hL => ?_)
  obtain ⟨rfl, rfl⟩ := hp
  refine W.eq (g2 := F0 m 329 ls [.int (kk)]) rfl ?_
  refine lv_iload C.1 C.2.1 d_law_329 (lv_at hl 1 rfl) ?_
  refine lv_icmp_eq (tgt := 336) C.1 C.2.1 d_law_331 (by decide) (fun _ => ?_) (fun hn => absurd (rfl) hn)
  refine lv_iload C.1 C.2.1 d_law_336 (lv_at hl 1 rfl) ?_
  refine lv_if_ne (tgt := 353) C.1 C.2.1 d_law_338 (by decide) (fun _ => ?_) (fun hn => absurd hn (hk))
  refine lv_goto (tgt := 617) C.1 C.2.1 d_law_353 (by decide) ?_
  exact l_next C hml hret hlk hx hL (show cells + 1 + 0 + 0 ≤ 600002 by omega) (show slots + 6 + 0 + 0 ≤ 7302198 by omega) hX hb hO3 (lw_drop (lw_drop hl))
set_option maxHeartbeats 4000000 in
set_option maxRecDepth 100000 in
theorem l_pass_R (C : hq_C p c s m #[Value.ref b] R_L code TB D vwCl (TY cI cZ cN cJ)) (hml : c.maxLocals = 7) (hret : meth.sig.returnType = ret) (hlk : meth.locks = false) (hL : hq_L x locs) (hc : cells ≤ 100) (hs : slots ≤ 10000) (Z : lz D cI cZ cJ b x n mb ob xs s H) (hl : lv_has ls 7 [(4, .int (1)), (3, .ref (ob)), (2, .ref (mb)), (1, .ref (x)), (0, .ref (b))]) (r6 : Int32) {P : State → Prop} (hPb : hq_Bl P) (hP : ∀ U : State, U.heap = H → s.WarmedH U.vm → P U) (hw : hq_MW l y_L_pass b_L_pass 4 (some .int) [(0, 9, 12, 13)] TB { frames := 4, cells := 0, slots := 0, locals := 120 } x D vwCl (TY cI cZ cN cJ) [.ref (x), .int (xs 2), .ref (ob)] P (fun H v H' => v = some (.int 0) ∧ va_at D vwCl (ob, .inl (cJ, 1, .inr (.inl (vp_updL (fun _ => 0) 0 r6.toInt64)))) H' ∧ H'.size = H.size ∧ ∀ q : Nat, (q < x ∨ x + (4 + 10 * n) ≤ q) → q ≠ ob → H'[q]? = H[q]?)) (hm : hq_M l y_M_pass b_M_pass 4 (some .int) TB mqRm x D vwCl (TY cI cZ cN cJ) [.ref mb, .int (xs 2)] (fun U => hq_B D vwCl mb 31 (mdC cI cZ mb 0 (nI n) (fun _ _ => 0)) U.heap) (fun H v9 H' => v9 = some (.int r6) ∧ va_at D vwCl (mb, .inr (6, [.int (0), .int (nI n), .ref (mb + 1), .ref (mb + 2), .ref (mb + 3), .ref (mb + 4), .ref (mb + 5), .ref (mb + 6), .ref (mb + 7), .ref (mb + 8), .ref (mb + 9), .ref (mb + 10), .ref (mb + 11), .ref (mb + 12), .ref (mb + 13), .ref (mb + 14), .ref (mb + 15), .ref (mb + 16), .ref (mb + 17), .ref (mb + 18), .ref (mb + 19), .ref (mb + 20), .ref (mb + 21), .ref (mb + 22), .ref (mb + 23), .ref (mb + 24), .ref (mb + 25), .ref (mb + 26), .ref (mb + 27), .ref (mb + 28), .ref (mb + 29), .ref (mb + 30)])) H' ∧ hq_S mb 31 H H')) : W p l e room_1 s m #[Value.ref b] below meth c H locs cells slots (lw_Z below #[Value.ref b] s) (F0 m 300 ls []) := by
  obtain ⟨hx, hmb, hob, hz, hX, hb, hO, hMd, ko⟩ := Z
  refine lv_aload_n C.1 C.2.1 d_law_300 rfl (lv_at hl 3 rfl) ?_
  refine lv_aload_n C.1 C.2.1 d_law_301 rfl (lv_at hl 4 rfl) ?_
  refine lv_iload C.1 C.2.1 d_law_302 (lv_at hl 0 rfl) ?_
  refine lv_iconst (v := 1) C.1 C.2.1 d_law_304 (by decide) ?_
  refine lv_iadd C.1 C.2.1 d_law_305 ?_
  refine l_ld2 C hX hx hb hO d_law_306 ?_
  refine lv_aload_n C.1 C.2.1 d_law_307 rfl (lv_at hl 1 rfl) ?_
  refine hq_callSW (lo := x) (As := [.ref (x), .int (xs 2), .ref (ob)]) (rest := []) C tb_good hml Y_L_pass hw hPb hP hL hl.1 rfl rfl ⟨⟨Nat.le_of_ble_eq_true rfl, Nat.le_of_ble_eq_true rfl⟩, (by show cells + 0 ≤ 600002; omega), (by show slots + 0 ≤ 7302198; omega)⟩ (Nat.le_of_ble_eq_true rfl) d_law_308 (fun v H1 locs hp hL => ?_)
  obtain ⟨rfl, ko1, hz1, hfr⟩ := hp
  have hO2 : hq_O x s.heap H1 := fun q hq => (hfr q (Or.inl hq) (by omega)).trans (hO q hq)
  have hMd1 : hq_B D vwCl mb 31 (mdC cI cZ mb 0 (nI n) (fun _ _ => 0)) H1 := fun j hj => (hMd j hj).kept (hfr (mb + j) (by omega) (by omega))
  refine W.eq (g2 := F0 m 311 ls [.int (0)]) rfl ?_
  refine lv_istore C.1 C.2.1 d_law_311 hl (by decide) rfl (lv' := [(5, .int (0)), (4, .int (1)), (3, .ref (ob)), (2, .ref (mb)), (1, .ref (x)), (0, .ref (b))]) (fun ls hl => ?_)
  refine lv_aload_n C.1 C.2.1 d_law_313 rfl (lv_at hl 3 rfl) ?_
  refine lv_aload_n C.1 C.2.1 d_law_314 rfl (lv_at hl 5 rfl) ?_
  refine lv_iload C.1 C.2.1 d_law_315 (lv_at hl 1 rfl) ?_
  refine lv_iconst (v := 1) C.1 C.2.1 d_law_317 (by decide) ?_
  refine lv_iadd C.1 C.2.1 d_law_318 ?_
  refine l_ld2 C hX hx hb hO2 d_law_319 ?_
  refine hq_callV (lo := x) (As := [.int (xs 2)]) (rest := []) C tb_good hml Y_L_73 hm (show va_at D vwCl (mb, .inr (6, [.int (0), .int (nI n), .ref (mb + 1), .ref (mb + 2), .ref (mb + 3), .ref (mb + 4), .ref (mb + 5), .ref (mb + 6), .ref (mb + 7), .ref (mb + 8), .ref (mb + 9), .ref (mb + 10), .ref (mb + 11), .ref (mb + 12), .ref (mb + 13), .ref (mb + 14), .ref (mb + 15), .ref (mb + 16), .ref (mb + 17), .ref (mb + 18), .ref (mb + 19), .ref (mb + 20), .ref (mb + 21), .ref (mb + 22), .ref (mb + 23), .ref (mb + 24), .ref (mb + 25), .ref (mb + 26), .ref (mb + 27), .ref (mb + 28), .ref (mb + 29), .ref (mb + 30)])) H1 from hMd1 0 (by decide)) rfl (fun _ _ _ _ h => h) (fun U hU hW => by show hq_B D vwCl mb 31 (mdC cI cZ mb 0 (nI n) (fun _ _ => 0)) U.heap; rw [hU]; exact hMd1) hL hl.1 rfl rfl ⟨⟨Nat.le_of_ble_eq_true rfl, Nat.le_of_ble_eq_true rfl⟩, (by show cells + 0 + 0 ≤ 600002; omega), (by show slots + 0 + 0 ≤ 7302198; omega)⟩ (Nat.le_of_ble_eq_true rfl) d_law_320 (fun v H2 locs hp hL => ?_)
  obtain ⟨rfl, k0, hS⟩ := hp
  have hO3 : hq_O x s.heap H2 := hq_Os hO2 hS (by omega)
  refine W.eq (g2 := F0 m 323 ls [.int (r6)]) rfl ?_
  refine lv_istore C.1 C.2.1 d_law_323 hl (by decide) rfl (lv' := [(6, .int (r6)), (5, .int (0)), (4, .int (1)), (3, .ref (ob)), (2, .ref (mb)), (1, .ref (x)), (0, .ref (b))]) (fun ls hl => ?_)
  refine lv_aload_n C.1 C.2.1 d_law_325 rfl (lv_at hl 4 rfl) ?_
  refine hq_callV (lo := x) (As := []) (rest := []) C tb_good hml Y_L_58 (c_thrown l D cI cZ cN cJ x mb n 0) k0 rfl (fun _ _ _ _ h => h) (fun U hU hW => by show va_at D vwCl (mb, .inr (6, [.int (0), .int (nI n), .ref (mb + 1), .ref (mb + 2), .ref (mb + 3), .ref (mb + 4), .ref (mb + 5), .ref (mb + 6), .ref (mb + 7), .ref (mb + 8), .ref (mb + 9), .ref (mb + 10), .ref (mb + 11), .ref (mb + 12), .ref (mb + 13), .ref (mb + 14), .ref (mb + 15), .ref (mb + 16), .ref (mb + 17), .ref (mb + 18), .ref (mb + 19), .ref (mb + 20), .ref (mb + 21), .ref (mb + 22), .ref (mb + 23), .ref (mb + 24), .ref (mb + 25), .ref (mb + 26), .ref (mb + 27), .ref (mb + 28), .ref (mb + 29), .ref (mb + 30)])) U.heap; rw [hU]; exact k0) hL hl.1 rfl rfl ⟨⟨Nat.le_of_ble_eq_true rfl, Nat.le_of_ble_eq_true rfl⟩, (by show cells + 0 + 0 + 0 ≤ 600002; omega), (by show slots + 0 + 0 + 0 ≤ 7302198; omega)⟩ (Nat.le_of_ble_eq_true rfl) d_law_326 (fun v H3 locs hp hL => ?_)
  obtain ⟨rfl, rfl⟩ := hp
  refine W.eq (g2 := F0 m 329 ls [.int (0)]) rfl ?_
  refine lv_iload C.1 C.2.1 d_law_329 (lv_at hl 1 rfl) ?_
  refine lv_icmp_eq (tgt := 336) C.1 C.2.1 d_law_331 (by decide) (fun _ => ?_) (fun hn => absurd (rfl) hn)
  refine lv_iload C.1 C.2.1 d_law_336 (lv_at hl 1 rfl) ?_
  refine lv_if_ne (tgt := 353) C.1 C.2.1 d_law_338 (by decide) (fun hn => absurd hn (fun h => h rfl)) (fun _ => ?_)
  refine lv_aload_n C.1 C.2.1 d_law_341 rfl (lv_at hl 3 rfl) ?_
  refine lv_iconst (v := 0) C.1 C.2.1 d_law_342 (by decide) ?_
  have ko2 := hq_as ko1 hS (by omega)
  refine hq_lald C 3 rfl ko2 (i := 0) (show vp_in (nI 0) 1 from vp_in_nI (by decide) (by decide)) d_law_343 ?_
  refine W.eq (g2 := F0 m 344 ls [.long (r6.toInt64)]) rfl ?_
  refine lv_iload C.1 C.2.1 d_law_344 (lv_at hl 0 rfl) ?_
  refine lv_i2l (v := r6.toInt64) C.1 C.2.1 d_law_346 rfl ?_
  refine W.lcmp C.1 C.2.1 d_law_347 ?_
  refine lv_if_eq (tgt := 353) C.1 C.2.1 d_law_348 (by decide) (fun _ => ?_) (fun hn => absurd (lw_cmp _) hn)
  refine lv_goto (tgt := 617) C.1 C.2.1 d_law_353 (by decide) ?_
  exact l_next C hml hret hlk hx hL (show cells + 0 + 0 + 0 ≤ 600002 by omega) (show slots + 0 + 0 + 0 ≤ 7302198 by omega) hX hb hO3 (lw_drop (lw_drop hl))
set_option maxHeartbeats 4000000 in
set_option maxRecDepth 100000 in
theorem l_state_T (C : hq_C p c s m #[Value.ref b] R_L code TB D vwCl (TY cI cZ cN cJ)) (hml : c.maxLocals = 7) (hret : meth.sig.returnType = ret) (hlk : meth.locks = false) (hL : hq_L x locs) (hc : cells ≤ 100) (hs : slots ≤ 10000) (Z : lz D cI cZ cJ b x n mb ob xs s H) (hl : lv_has ls 7 [(4, .int (1)), (3, .ref (ob)), (2, .ref (mb)), (1, .ref (x)), (0, .ref (b))]) (kk : Int32) (hk : ¬ kk = 0) (r6 : Int32) {P : State → Prop} (hPb : hq_Bl P) (hP : ∀ U : State, U.heap = H → s.WarmedH U.vm → P U) (hw : hq_MW l y_L_state b_L_state 4 (some .int) [(0, 9, 12, 13)] TB { frames := 8, cells := 1, slots := 6, locals := 160 } x D vwCl (TY cI cZ cN cJ) [.ref (x), .int (xs 2), .ref (ob)] P (fun H v H' => v = some (.int kk) ∧ hq_O H.size H H' ∧ H.size ≤ H'.size)) (hm : hq_M l y_M_state b_M_state 2 (some .int) TB { frames := 2, cells := 0, slots := 0, locals := 60 } x D vwCl (TY cI cZ cN cJ) [.ref mb, .int (xs 2)] (fun U => hq_B D vwCl mb 31 (mdC cI cZ mb 0 (nI n) (fun _ _ => 0)) U.heap) (fun H v9 H' => v9 = some (.int r6) ∧ va_at D vwCl (mb, .inr (6, [.int (kk), .int (nI n), .ref (mb + 1), .ref (mb + 2), .ref (mb + 3), .ref (mb + 4), .ref (mb + 5), .ref (mb + 6), .ref (mb + 7), .ref (mb + 8), .ref (mb + 9), .ref (mb + 10), .ref (mb + 11), .ref (mb + 12), .ref (mb + 13), .ref (mb + 14), .ref (mb + 15), .ref (mb + 16), .ref (mb + 17), .ref (mb + 18), .ref (mb + 19), .ref (mb + 20), .ref (mb + 21), .ref (mb + 22), .ref (mb + 23), .ref (mb + 24), .ref (mb + 25), .ref (mb + 26), .ref (mb + 27), .ref (mb + 28), .ref (mb + 29), .ref (mb + 30)])) H' ∧ hq_S mb 31 H H')) : W p l e room_1 s m #[Value.ref b] below meth c H locs cells slots (lw_Z below #[Value.ref b] s) (F0 m 381 ls []) := by
  obtain ⟨hx, hmb, hob, hz, hX, hb, hO, hMd, ko⟩ := Z
  refine lv_aload_n C.1 C.2.1 d_law_381 rfl (lv_at hl 3 rfl) ?_
  refine lv_aload_n C.1 C.2.1 d_law_382 rfl (lv_at hl 4 rfl) ?_
  refine lv_iload C.1 C.2.1 d_law_383 (lv_at hl 0 rfl) ?_
  refine lv_iconst (v := 1) C.1 C.2.1 d_law_385 (by decide) ?_
  refine lv_iadd C.1 C.2.1 d_law_386 ?_
  refine l_ld2 C hX hx hb hO d_law_387 ?_
  refine lv_aload_n C.1 C.2.1 d_law_388 rfl (lv_at hl 1 rfl) ?_
  refine hq_callSW (lo := x) (As := [.ref (x), .int (xs 2), .ref (ob)]) (rest := []) C tb_good hml Y_L_state hw hPb hP hL hl.1 rfl rfl ⟨⟨Nat.le_of_ble_eq_true rfl, Nat.le_of_ble_eq_true rfl⟩, (by show cells + 1 ≤ 600002; omega), (by show slots + 6 ≤ 7302198; omega)⟩ (Nat.le_of_ble_eq_true rfl) d_law_389 (fun v H1 locs hp hL => ?_)
  obtain ⟨rfl, hO1, hz1⟩ := hp
  have hO2 : hq_O x s.heap H1 := hq_Oo hO hO1 (by omega)
  have hMd1 : hq_B D vwCl mb 31 (mdC cI cZ mb 0 (nI n) (fun _ _ => 0)) H1 := hq_Bo hMd hO1 (by omega)
  refine W.eq (g2 := F0 m 392 ls [.int (kk)]) rfl ?_
  refine lv_istore C.1 C.2.1 d_law_392 hl (by decide) rfl (lv' := [(5, .int (kk)), (4, .int (1)), (3, .ref (ob)), (2, .ref (mb)), (1, .ref (x)), (0, .ref (b))]) (fun ls hl => ?_)
  refine lv_aload_n C.1 C.2.1 d_law_394 rfl (lv_at hl 3 rfl) ?_
  refine lv_aload_n C.1 C.2.1 d_law_395 rfl (lv_at hl 5 rfl) ?_
  refine lv_iload C.1 C.2.1 d_law_396 (lv_at hl 1 rfl) ?_
  refine lv_iconst (v := 1) C.1 C.2.1 d_law_398 (by decide) ?_
  refine lv_iadd C.1 C.2.1 d_law_399 ?_
  refine l_ld2 C hX hx hb hO2 d_law_400 ?_
  refine hq_callV (lo := x) (As := [.int (xs 2)]) (rest := []) C tb_good hml Y_L_80 hm (show va_at D vwCl (mb, .inr (6, [.int (0), .int (nI n), .ref (mb + 1), .ref (mb + 2), .ref (mb + 3), .ref (mb + 4), .ref (mb + 5), .ref (mb + 6), .ref (mb + 7), .ref (mb + 8), .ref (mb + 9), .ref (mb + 10), .ref (mb + 11), .ref (mb + 12), .ref (mb + 13), .ref (mb + 14), .ref (mb + 15), .ref (mb + 16), .ref (mb + 17), .ref (mb + 18), .ref (mb + 19), .ref (mb + 20), .ref (mb + 21), .ref (mb + 22), .ref (mb + 23), .ref (mb + 24), .ref (mb + 25), .ref (mb + 26), .ref (mb + 27), .ref (mb + 28), .ref (mb + 29), .ref (mb + 30)])) H1 from hMd1 0 (by decide)) rfl (fun _ _ _ _ h => h) (fun U hU hW => by show hq_B D vwCl mb 31 (mdC cI cZ mb 0 (nI n) (fun _ _ => 0)) U.heap; rw [hU]; exact hMd1) hL hl.1 rfl rfl ⟨⟨Nat.le_of_ble_eq_true rfl, Nat.le_of_ble_eq_true rfl⟩, (by show cells + 1 + 0 ≤ 600002; omega), (by show slots + 6 + 0 ≤ 7302198; omega)⟩ (Nat.le_of_ble_eq_true rfl) d_law_401 (fun v H2 locs hp hL => ?_)
  obtain ⟨rfl, k0, hS⟩ := hp
  have hO3 : hq_O x s.heap H2 := hq_Os hO2 hS (by omega)
  refine W.eq (g2 := F0 m 404 ls [.int (r6)]) rfl ?_
  refine lv_istore C.1 C.2.1 d_law_404 hl (by decide) rfl (lv' := [(6, .int (r6)), (5, .int (kk)), (4, .int (1)), (3, .ref (ob)), (2, .ref (mb)), (1, .ref (x)), (0, .ref (b))]) (fun ls hl => ?_)
  refine lv_aload_n C.1 C.2.1 d_law_406 rfl (lv_at hl 4 rfl) ?_
  refine hq_callV (lo := x) (As := []) (rest := []) C tb_good hml Y_L_58 (c_thrown l D cI cZ cN cJ x mb n kk) k0 rfl (fun _ _ _ _ h => h) (fun U hU hW => by show va_at D vwCl (mb, .inr (6, [.int (kk), .int (nI n), .ref (mb + 1), .ref (mb + 2), .ref (mb + 3), .ref (mb + 4), .ref (mb + 5), .ref (mb + 6), .ref (mb + 7), .ref (mb + 8), .ref (mb + 9), .ref (mb + 10), .ref (mb + 11), .ref (mb + 12), .ref (mb + 13), .ref (mb + 14), .ref (mb + 15), .ref (mb + 16), .ref (mb + 17), .ref (mb + 18), .ref (mb + 19), .ref (mb + 20), .ref (mb + 21), .ref (mb + 22), .ref (mb + 23), .ref (mb + 24), .ref (mb + 25), .ref (mb + 26), .ref (mb + 27), .ref (mb + 28), .ref (mb + 29), .ref (mb + 30)])) U.heap; rw [hU]; exact k0) hL hl.1 rfl rfl ⟨⟨Nat.le_of_ble_eq_true rfl, Nat.le_of_ble_eq_true rfl⟩, (by show cells + 1 + 0 + 0 ≤ 600002; omega), (by show slots + 6 + 0 + 0 ≤ 7302198; omega)⟩ (Nat.le_of_ble_eq_true rfl) d_law_407 (fun v H3 locs hp hL => ?_)
  obtain ⟨rfl, rfl⟩ := hp
  refine W.eq (g2 := F0 m 410 ls [.int (kk)]) rfl ?_
  refine lv_iload C.1 C.2.1 d_law_410 (lv_at hl 1 rfl) ?_
  refine lv_icmp_eq (tgt := 417) C.1 C.2.1 d_law_412 (by decide) (fun _ => ?_) (fun hn => absurd (rfl) hn)
  refine lv_iload C.1 C.2.1 d_law_417 (lv_at hl 1 rfl) ?_
  refine lv_if_ne (tgt := 434) C.1 C.2.1 d_law_419 (by decide) (fun _ => ?_) (fun hn => absurd hn (hk))
  refine lv_goto (tgt := 617) C.1 C.2.1 d_law_434 (by decide) ?_
  exact l_next C hml hret hlk hx hL (show cells + 1 + 0 + 0 ≤ 600002 by omega) (show slots + 6 + 0 + 0 ≤ 7302198 by omega) hX hb hO3 (lw_drop (lw_drop hl))
set_option maxHeartbeats 4000000 in
set_option maxRecDepth 100000 in
theorem l_state_R (C : hq_C p c s m #[Value.ref b] R_L code TB D vwCl (TY cI cZ cN cJ)) (hml : c.maxLocals = 7) (hret : meth.sig.returnType = ret) (hlk : meth.locks = false) (hL : hq_L x locs) (hc : cells ≤ 100) (hs : slots ≤ 10000) (Z : lz D cI cZ cJ b x n mb ob xs s H) (hl : lv_has ls 7 [(4, .int (1)), (3, .ref (ob)), (2, .ref (mb)), (1, .ref (x)), (0, .ref (b))]) (r6 : Int32) {P : State → Prop} (hPb : hq_Bl P) (hP : ∀ U : State, U.heap = H → s.WarmedH U.vm → P U) (hw : hq_MW l y_L_state b_L_state 4 (some .int) [(0, 9, 12, 13)] TB { frames := 4, cells := 0, slots := 0, locals := 120 } x D vwCl (TY cI cZ cN cJ) [.ref (x), .int (xs 2), .ref (ob)] P (fun H v H' => v = some (.int 0) ∧ va_at D vwCl (ob, .inl (cJ, 1, .inr (.inl (vp_updL (fun _ => 0) 0 r6.toInt64)))) H' ∧ H'.size = H.size ∧ ∀ q : Nat, (q < x ∨ x + (4 + 10 * n) ≤ q) → q ≠ ob → H'[q]? = H[q]?)) (hm : hq_M l y_M_state b_M_state 2 (some .int) TB { frames := 2, cells := 0, slots := 0, locals := 60 } x D vwCl (TY cI cZ cN cJ) [.ref mb, .int (xs 2)] (fun U => hq_B D vwCl mb 31 (mdC cI cZ mb 0 (nI n) (fun _ _ => 0)) U.heap) (fun H v9 H' => v9 = some (.int r6) ∧ va_at D vwCl (mb, .inr (6, [.int (0), .int (nI n), .ref (mb + 1), .ref (mb + 2), .ref (mb + 3), .ref (mb + 4), .ref (mb + 5), .ref (mb + 6), .ref (mb + 7), .ref (mb + 8), .ref (mb + 9), .ref (mb + 10), .ref (mb + 11), .ref (mb + 12), .ref (mb + 13), .ref (mb + 14), .ref (mb + 15), .ref (mb + 16), .ref (mb + 17), .ref (mb + 18), .ref (mb + 19), .ref (mb + 20), .ref (mb + 21), .ref (mb + 22), .ref (mb + 23), .ref (mb + 24), .ref (mb + 25), .ref (mb + 26), .ref (mb + 27), .ref (mb + 28), .ref (mb + 29), .ref (mb + 30)])) H' ∧ hq_S mb 31 H H')) : W p l e room_1 s m #[Value.ref b] below meth c H locs cells slots (lw_Z below #[Value.ref b] s) (F0 m 381 ls []) := by
  obtain ⟨hx, hmb, hob, hz, hX, hb, hO, hMd, ko⟩ := Z
  refine lv_aload_n C.1 C.2.1 d_law_381 rfl (lv_at hl 3 rfl) ?_
  refine lv_aload_n C.1 C.2.1 d_law_382 rfl (lv_at hl 4 rfl) ?_
  refine lv_iload C.1 C.2.1 d_law_383 (lv_at hl 0 rfl) ?_
  refine lv_iconst (v := 1) C.1 C.2.1 d_law_385 (by decide) ?_
  refine lv_iadd C.1 C.2.1 d_law_386 ?_
  refine l_ld2 C hX hx hb hO d_law_387 ?_
  refine lv_aload_n C.1 C.2.1 d_law_388 rfl (lv_at hl 1 rfl) ?_
  refine hq_callSW (lo := x) (As := [.ref (x), .int (xs 2), .ref (ob)]) (rest := []) C tb_good hml Y_L_state hw hPb hP hL hl.1 rfl rfl ⟨⟨Nat.le_of_ble_eq_true rfl, Nat.le_of_ble_eq_true rfl⟩, (by show cells + 0 ≤ 600002; omega), (by show slots + 0 ≤ 7302198; omega)⟩ (Nat.le_of_ble_eq_true rfl) d_law_389 (fun v H1 locs hp hL => ?_)
  obtain ⟨rfl, ko1, hz1, hfr⟩ := hp
  have hO2 : hq_O x s.heap H1 := fun q hq => (hfr q (Or.inl hq) (by omega)).trans (hO q hq)
  have hMd1 : hq_B D vwCl mb 31 (mdC cI cZ mb 0 (nI n) (fun _ _ => 0)) H1 := fun j hj => (hMd j hj).kept (hfr (mb + j) (by omega) (by omega))
  refine W.eq (g2 := F0 m 392 ls [.int (0)]) rfl ?_
  refine lv_istore C.1 C.2.1 d_law_392 hl (by decide) rfl (lv' := [(5, .int (0)), (4, .int (1)), (3, .ref (ob)), (2, .ref (mb)), (1, .ref (x)), (0, .ref (b))]) (fun ls hl => ?_)
  refine lv_aload_n C.1 C.2.1 d_law_394 rfl (lv_at hl 3 rfl) ?_
  refine lv_aload_n C.1 C.2.1 d_law_395 rfl (lv_at hl 5 rfl) ?_
  refine lv_iload C.1 C.2.1 d_law_396 (lv_at hl 1 rfl) ?_
  refine lv_iconst (v := 1) C.1 C.2.1 d_law_398 (by decide) ?_
  refine lv_iadd C.1 C.2.1 d_law_399 ?_
  refine l_ld2 C hX hx hb hO2 d_law_400 ?_
  refine hq_callV (lo := x) (As := [.int (xs 2)]) (rest := []) C tb_good hml Y_L_80 hm (show va_at D vwCl (mb, .inr (6, [.int (0), .int (nI n), .ref (mb + 1), .ref (mb + 2), .ref (mb + 3), .ref (mb + 4), .ref (mb + 5), .ref (mb + 6), .ref (mb + 7), .ref (mb + 8), .ref (mb + 9), .ref (mb + 10), .ref (mb + 11), .ref (mb + 12), .ref (mb + 13), .ref (mb + 14), .ref (mb + 15), .ref (mb + 16), .ref (mb + 17), .ref (mb + 18), .ref (mb + 19), .ref (mb + 20), .ref (mb + 21), .ref (mb + 22), .ref (mb + 23), .ref (mb + 24), .ref (mb + 25), .ref (mb + 26), .ref (mb + 27), .ref (mb + 28), .ref (mb + 29), .ref (mb + 30)])) H1 from hMd1 0 (by decide)) rfl (fun _ _ _ _ h => h) (fun U hU hW => by show hq_B D vwCl mb 31 (mdC cI cZ mb 0 (nI n) (fun _ _ => 0)) U.heap; rw [hU]; exact hMd1) hL hl.1 rfl rfl ⟨⟨Nat.le_of_ble_eq_true rfl, Nat.le_of_ble_eq_true rfl⟩, (by show cells + 0 + 0 ≤ 600002; omega), (by show slots + 0 + 0 ≤ 7302198; omega)⟩ (Nat.le_of_ble_eq_true rfl) d_law_401 (fun v H2 locs hp hL => ?_)
  obtain ⟨rfl, k0, hS⟩ := hp
  have hO3 : hq_O x s.heap H2 := hq_Os hO2 hS (by omega)
  refine W.eq (g2 := F0 m 404 ls [.int (r6)]) rfl ?_
  refine lv_istore C.1 C.2.1 d_law_404 hl (by decide) rfl (lv' := [(6, .int (r6)), (5, .int (0)), (4, .int (1)), (3, .ref (ob)), (2, .ref (mb)), (1, .ref (x)), (0, .ref (b))]) (fun ls hl => ?_)
  refine lv_aload_n C.1 C.2.1 d_law_406 rfl (lv_at hl 4 rfl) ?_
  refine hq_callV (lo := x) (As := []) (rest := []) C tb_good hml Y_L_58 (c_thrown l D cI cZ cN cJ x mb n 0) k0 rfl (fun _ _ _ _ h => h) (fun U hU hW => by show va_at D vwCl (mb, .inr (6, [.int (0), .int (nI n), .ref (mb + 1), .ref (mb + 2), .ref (mb + 3), .ref (mb + 4), .ref (mb + 5), .ref (mb + 6), .ref (mb + 7), .ref (mb + 8), .ref (mb + 9), .ref (mb + 10), .ref (mb + 11), .ref (mb + 12), .ref (mb + 13), .ref (mb + 14), .ref (mb + 15), .ref (mb + 16), .ref (mb + 17), .ref (mb + 18), .ref (mb + 19), .ref (mb + 20), .ref (mb + 21), .ref (mb + 22), .ref (mb + 23), .ref (mb + 24), .ref (mb + 25), .ref (mb + 26), .ref (mb + 27), .ref (mb + 28), .ref (mb + 29), .ref (mb + 30)])) U.heap; rw [hU]; exact k0) hL hl.1 rfl rfl ⟨⟨Nat.le_of_ble_eq_true rfl, Nat.le_of_ble_eq_true rfl⟩, (by show cells + 0 + 0 + 0 ≤ 600002; omega), (by show slots + 0 + 0 + 0 ≤ 7302198; omega)⟩ (Nat.le_of_ble_eq_true rfl) d_law_407 (fun v H3 locs hp hL => ?_)
  obtain ⟨rfl, rfl⟩ := hp
  refine W.eq (g2 := F0 m 410 ls [.int (0)]) rfl ?_
  refine lv_iload C.1 C.2.1 d_law_410 (lv_at hl 1 rfl) ?_
  refine lv_icmp_eq (tgt := 417) C.1 C.2.1 d_law_412 (by decide) (fun _ => ?_) (fun hn => absurd (rfl) hn)
  refine lv_iload C.1 C.2.1 d_law_417 (lv_at hl 1 rfl) ?_
  refine lv_if_ne (tgt := 434) C.1 C.2.1 d_law_419 (by decide) (fun hn => absurd hn (fun h => h rfl)) (fun _ => ?_)
  refine lv_aload_n C.1 C.2.1 d_law_422 rfl (lv_at hl 3 rfl) ?_
  refine lv_iconst (v := 0) C.1 C.2.1 d_law_423 (by decide) ?_
  have ko2 := hq_as ko1 hS (by omega)
  refine hq_lald C 3 rfl ko2 (i := 0) (show vp_in (nI 0) 1 from vp_in_nI (by decide) (by decide)) d_law_424 ?_
  refine W.eq (g2 := F0 m 425 ls [.long (r6.toInt64)]) rfl ?_
  refine lv_iload C.1 C.2.1 d_law_425 (lv_at hl 0 rfl) ?_
  refine lv_i2l (v := r6.toInt64) C.1 C.2.1 d_law_427 rfl ?_
  refine W.lcmp C.1 C.2.1 d_law_428 ?_
  refine lv_if_eq (tgt := 434) C.1 C.2.1 d_law_429 (by decide) (fun _ => ?_) (fun hn => absurd (lw_cmp _) hn)
  refine lv_goto (tgt := 617) C.1 C.2.1 d_law_434 (by decide) ?_
  exact l_next C hml hret hlk hx hL (show cells + 0 + 0 + 0 ≤ 600002 by omega) (show slots + 0 + 0 + 0 ≤ 7302198 by omega) hX hb hO3 (lw_drop (lw_drop hl))
set_option maxHeartbeats 4000000 in
set_option maxRecDepth 100000 in
theorem l_count_T (C : hq_C p c s m #[Value.ref b] R_L code TB D vwCl (TY cI cZ cN cJ)) (hml : c.maxLocals = 7) (hret : meth.sig.returnType = ret) (hlk : meth.locks = false) (hL : hq_L x locs) (hc : cells ≤ 100) (hs : slots ≤ 10000) (Z : lz D cI cZ cJ b x n mb ob xs s H) (hl : lv_has ls 7 [(4, .int (1)), (3, .ref (ob)), (2, .ref (mb)), (1, .ref (x)), (0, .ref (b))]) (kk : Int32) (hk : ¬ kk = 0) (r6 : Int32) {P : State → Prop} (hPb : hq_Bl P) (hP : ∀ U : State, U.heap = H → s.WarmedH U.vm → P U) (hw : hq_MW l y_L_count b_L_count 5 (some .int) [(0, 10, 13, 13)] TB { frames := 8, cells := 1, slots := 6, locals := 160 } x D vwCl (TY cI cZ cN cJ) [.ref (x), .int (xs 2), .int (xs 3), .ref (ob)] P (fun H v H' => v = some (.int kk) ∧ hq_O H.size H H' ∧ H.size ≤ H'.size)) (hm : hq_M l y_M_count b_M_count 3 (some .int) TB { frames := 2, cells := 0, slots := 0, locals := 60 } x D vwCl (TY cI cZ cN cJ) [.ref mb, .int (xs 2), .int (xs 3)] (fun U => hq_B D vwCl mb 31 (mdC cI cZ mb 0 (nI n) (fun _ _ => 0)) U.heap) (fun H v9 H' => v9 = some (.int r6) ∧ va_at D vwCl (mb, .inr (6, [.int (kk), .int (nI n), .ref (mb + 1), .ref (mb + 2), .ref (mb + 3), .ref (mb + 4), .ref (mb + 5), .ref (mb + 6), .ref (mb + 7), .ref (mb + 8), .ref (mb + 9), .ref (mb + 10), .ref (mb + 11), .ref (mb + 12), .ref (mb + 13), .ref (mb + 14), .ref (mb + 15), .ref (mb + 16), .ref (mb + 17), .ref (mb + 18), .ref (mb + 19), .ref (mb + 20), .ref (mb + 21), .ref (mb + 22), .ref (mb + 23), .ref (mb + 24), .ref (mb + 25), .ref (mb + 26), .ref (mb + 27), .ref (mb + 28), .ref (mb + 29), .ref (mb + 30)])) H' ∧ hq_S mb 31 H H')) : W p l e room_1 s m #[Value.ref b] below meth c H locs cells slots (lw_Z below #[Value.ref b] s) (F0 m 437 ls []) := by
  obtain ⟨hx, hmb, hob, hz, hX, hb, hO, hMd, ko⟩ := Z
  refine lv_aload_n C.1 C.2.1 d_law_437 rfl (lv_at hl 3 rfl) ?_
  refine lv_aload_n C.1 C.2.1 d_law_438 rfl (lv_at hl 4 rfl) ?_
  refine lv_iload C.1 C.2.1 d_law_439 (lv_at hl 0 rfl) ?_
  refine lv_iconst (v := 1) C.1 C.2.1 d_law_441 (by decide) ?_
  refine lv_iadd C.1 C.2.1 d_law_442 ?_
  refine l_ld2 C hX hx hb hO d_law_443 ?_
  refine lv_aload_n C.1 C.2.1 d_law_444 rfl (lv_at hl 4 rfl) ?_
  refine lv_iload C.1 C.2.1 d_law_445 (lv_at hl 0 rfl) ?_
  refine lv_iconst (v := 2) C.1 C.2.1 d_law_447 (by decide) ?_
  refine lv_iadd C.1 C.2.1 d_law_448 ?_
  refine l_ld3 C hX hx hb hO d_law_449 ?_
  refine lv_aload_n C.1 C.2.1 d_law_450 rfl (lv_at hl 1 rfl) ?_
  refine hq_callSW (lo := x) (As := [.ref (x), .int (xs 2), .int (xs 3), .ref (ob)]) (rest := []) C tb_good hml Y_L_count hw hPb hP hL hl.1 rfl rfl ⟨⟨Nat.le_of_ble_eq_true rfl, Nat.le_of_ble_eq_true rfl⟩, (by show cells + 1 ≤ 600002; omega), (by show slots + 6 ≤ 7302198; omega)⟩ (Nat.le_of_ble_eq_true rfl) d_law_451 (fun v H1 locs hp hL => ?_)
  obtain ⟨rfl, hO1, hz1⟩ := hp
  have hO2 : hq_O x s.heap H1 := hq_Oo hO hO1 (by omega)
  have hMd1 : hq_B D vwCl mb 31 (mdC cI cZ mb 0 (nI n) (fun _ _ => 0)) H1 := hq_Bo hMd hO1 (by omega)
  refine W.eq (g2 := F0 m 454 ls [.int (kk)]) rfl ?_
  refine lv_istore C.1 C.2.1 d_law_454 hl (by decide) rfl (lv' := [(5, .int (kk)), (4, .int (1)), (3, .ref (ob)), (2, .ref (mb)), (1, .ref (x)), (0, .ref (b))]) (fun ls hl => ?_)
  refine lv_aload_n C.1 C.2.1 d_law_456 rfl (lv_at hl 3 rfl) ?_
  refine lv_aload_n C.1 C.2.1 d_law_457 rfl (lv_at hl 5 rfl) ?_
  refine lv_iload C.1 C.2.1 d_law_458 (lv_at hl 1 rfl) ?_
  refine lv_iconst (v := 1) C.1 C.2.1 d_law_460 (by decide) ?_
  refine lv_iadd C.1 C.2.1 d_law_461 ?_
  refine l_ld2 C hX hx hb hO2 d_law_462 ?_
  refine lv_aload_n C.1 C.2.1 d_law_463 rfl (lv_at hl 5 rfl) ?_
  refine lv_iload C.1 C.2.1 d_law_464 (lv_at hl 1 rfl) ?_
  refine lv_iconst (v := 2) C.1 C.2.1 d_law_466 (by decide) ?_
  refine lv_iadd C.1 C.2.1 d_law_467 ?_
  refine l_ld3 C hX hx hb hO2 d_law_468 ?_
  refine hq_callV (lo := x) (As := [.int (xs 2), .int (xs 3)]) (rest := []) C tb_good hml Y_L_84 hm (show va_at D vwCl (mb, .inr (6, [.int (0), .int (nI n), .ref (mb + 1), .ref (mb + 2), .ref (mb + 3), .ref (mb + 4), .ref (mb + 5), .ref (mb + 6), .ref (mb + 7), .ref (mb + 8), .ref (mb + 9), .ref (mb + 10), .ref (mb + 11), .ref (mb + 12), .ref (mb + 13), .ref (mb + 14), .ref (mb + 15), .ref (mb + 16), .ref (mb + 17), .ref (mb + 18), .ref (mb + 19), .ref (mb + 20), .ref (mb + 21), .ref (mb + 22), .ref (mb + 23), .ref (mb + 24), .ref (mb + 25), .ref (mb + 26), .ref (mb + 27), .ref (mb + 28), .ref (mb + 29), .ref (mb + 30)])) H1 from hMd1 0 (by decide)) rfl (fun _ _ _ _ h => h) (fun U hU hW => by show hq_B D vwCl mb 31 (mdC cI cZ mb 0 (nI n) (fun _ _ => 0)) U.heap; rw [hU]; exact hMd1) hL hl.1 rfl rfl ⟨⟨Nat.le_of_ble_eq_true rfl, Nat.le_of_ble_eq_true rfl⟩, (by show cells + 1 + 0 ≤ 600002; omega), (by show slots + 6 + 0 ≤ 7302198; omega)⟩ (Nat.le_of_ble_eq_true rfl) d_law_469 (fun v H2 locs hp hL => ?_)
  obtain ⟨rfl, k0, hS⟩ := hp
  have hO3 : hq_O x s.heap H2 := hq_Os hO2 hS (by omega)
  refine W.eq (g2 := F0 m 472 ls [.int (r6)]) rfl ?_
  refine lv_istore C.1 C.2.1 d_law_472 hl (by decide) rfl (lv' := [(6, .int (r6)), (5, .int (kk)), (4, .int (1)), (3, .ref (ob)), (2, .ref (mb)), (1, .ref (x)), (0, .ref (b))]) (fun ls hl => ?_)
  refine lv_aload_n C.1 C.2.1 d_law_474 rfl (lv_at hl 4 rfl) ?_
  refine hq_callV (lo := x) (As := []) (rest := []) C tb_good hml Y_L_58 (c_thrown l D cI cZ cN cJ x mb n kk) k0 rfl (fun _ _ _ _ h => h) (fun U hU hW => by show va_at D vwCl (mb, .inr (6, [.int (kk), .int (nI n), .ref (mb + 1), .ref (mb + 2), .ref (mb + 3), .ref (mb + 4), .ref (mb + 5), .ref (mb + 6), .ref (mb + 7), .ref (mb + 8), .ref (mb + 9), .ref (mb + 10), .ref (mb + 11), .ref (mb + 12), .ref (mb + 13), .ref (mb + 14), .ref (mb + 15), .ref (mb + 16), .ref (mb + 17), .ref (mb + 18), .ref (mb + 19), .ref (mb + 20), .ref (mb + 21), .ref (mb + 22), .ref (mb + 23), .ref (mb + 24), .ref (mb + 25), .ref (mb + 26), .ref (mb + 27), .ref (mb + 28), .ref (mb + 29), .ref (mb + 30)])) U.heap; rw [hU]; exact k0) hL hl.1 rfl rfl ⟨⟨Nat.le_of_ble_eq_true rfl, Nat.le_of_ble_eq_true rfl⟩, (by show cells + 1 + 0 + 0 ≤ 600002; omega), (by show slots + 6 + 0 + 0 ≤ 7302198; omega)⟩ (Nat.le_of_ble_eq_true rfl) d_law_475 (fun v H3 locs hp hL => ?_)
  obtain ⟨rfl, rfl⟩ := hp
  refine W.eq (g2 := F0 m 478 ls [.int (kk)]) rfl ?_
  refine lv_iload C.1 C.2.1 d_law_478 (lv_at hl 1 rfl) ?_
  refine lv_icmp_eq (tgt := 485) C.1 C.2.1 d_law_480 (by decide) (fun _ => ?_) (fun hn => absurd (rfl) hn)
  refine lv_iload C.1 C.2.1 d_law_485 (lv_at hl 1 rfl) ?_
  refine lv_if_ne (tgt := 502) C.1 C.2.1 d_law_487 (by decide) (fun _ => ?_) (fun hn => absurd hn (hk))
  refine lv_goto (tgt := 617) C.1 C.2.1 d_law_502 (by decide) ?_
  exact l_next C hml hret hlk hx hL (show cells + 1 + 0 + 0 ≤ 600002 by omega) (show slots + 6 + 0 + 0 ≤ 7302198 by omega) hX hb hO3 (lw_drop (lw_drop hl))
set_option maxHeartbeats 4000000 in
set_option maxRecDepth 100000 in
theorem l_count_R (C : hq_C p c s m #[Value.ref b] R_L code TB D vwCl (TY cI cZ cN cJ)) (hml : c.maxLocals = 7) (hret : meth.sig.returnType = ret) (hlk : meth.locks = false) (hL : hq_L x locs) (hc : cells ≤ 100) (hs : slots ≤ 10000) (Z : lz D cI cZ cJ b x n mb ob xs s H) (hl : lv_has ls 7 [(4, .int (1)), (3, .ref (ob)), (2, .ref (mb)), (1, .ref (x)), (0, .ref (b))]) (r6 : Int32) {P : State → Prop} (hPb : hq_Bl P) (hP : ∀ U : State, U.heap = H → s.WarmedH U.vm → P U) (hw : hq_MW l y_L_count b_L_count 5 (some .int) [(0, 10, 13, 13)] TB { frames := 4, cells := 0, slots := 0, locals := 120 } x D vwCl (TY cI cZ cN cJ) [.ref (x), .int (xs 2), .int (xs 3), .ref (ob)] P (fun H v H' => v = some (.int 0) ∧ va_at D vwCl (ob, .inl (cJ, 1, .inr (.inl (vp_updL (fun _ => 0) 0 r6.toInt64)))) H' ∧ H'.size = H.size ∧ ∀ q : Nat, (q < x ∨ x + (4 + 10 * n) ≤ q) → q ≠ ob → H'[q]? = H[q]?)) (hm : hq_M l y_M_count b_M_count 3 (some .int) TB { frames := 2, cells := 0, slots := 0, locals := 60 } x D vwCl (TY cI cZ cN cJ) [.ref mb, .int (xs 2), .int (xs 3)] (fun U => hq_B D vwCl mb 31 (mdC cI cZ mb 0 (nI n) (fun _ _ => 0)) U.heap) (fun H v9 H' => v9 = some (.int r6) ∧ va_at D vwCl (mb, .inr (6, [.int (0), .int (nI n), .ref (mb + 1), .ref (mb + 2), .ref (mb + 3), .ref (mb + 4), .ref (mb + 5), .ref (mb + 6), .ref (mb + 7), .ref (mb + 8), .ref (mb + 9), .ref (mb + 10), .ref (mb + 11), .ref (mb + 12), .ref (mb + 13), .ref (mb + 14), .ref (mb + 15), .ref (mb + 16), .ref (mb + 17), .ref (mb + 18), .ref (mb + 19), .ref (mb + 20), .ref (mb + 21), .ref (mb + 22), .ref (mb + 23), .ref (mb + 24), .ref (mb + 25), .ref (mb + 26), .ref (mb + 27), .ref (mb + 28), .ref (mb + 29), .ref (mb + 30)])) H' ∧ hq_S mb 31 H H')) : W p l e room_1 s m #[Value.ref b] below meth c H locs cells slots (lw_Z below #[Value.ref b] s) (F0 m 437 ls []) := by
  obtain ⟨hx, hmb, hob, hz, hX, hb, hO, hMd, ko⟩ := Z
  refine lv_aload_n C.1 C.2.1 d_law_437 rfl (lv_at hl 3 rfl) ?_
  refine lv_aload_n C.1 C.2.1 d_law_438 rfl (lv_at hl 4 rfl) ?_
  refine lv_iload C.1 C.2.1 d_law_439 (lv_at hl 0 rfl) ?_
  refine lv_iconst (v := 1) C.1 C.2.1 d_law_441 (by decide) ?_
  refine lv_iadd C.1 C.2.1 d_law_442 ?_
  refine l_ld2 C hX hx hb hO d_law_443 ?_
  refine lv_aload_n C.1 C.2.1 d_law_444 rfl (lv_at hl 4 rfl) ?_
  refine lv_iload C.1 C.2.1 d_law_445 (lv_at hl 0 rfl) ?_
  refine lv_iconst (v := 2) C.1 C.2.1 d_law_447 (by decide) ?_
  refine lv_iadd C.1 C.2.1 d_law_448 ?_
  refine l_ld3 C hX hx hb hO d_law_449 ?_
  refine lv_aload_n C.1 C.2.1 d_law_450 rfl (lv_at hl 1 rfl) ?_
  refine hq_callSW (lo := x) (As := [.ref (x), .int (xs 2), .int (xs 3), .ref (ob)]) (rest := []) C tb_good hml Y_L_count hw hPb hP hL hl.1 rfl rfl ⟨⟨Nat.le_of_ble_eq_true rfl, Nat.le_of_ble_eq_true rfl⟩, (by show cells + 0 ≤ 600002; omega), (by show slots + 0 ≤ 7302198; omega)⟩ (Nat.le_of_ble_eq_true rfl) d_law_451 (fun v H1 locs hp hL => ?_)
  obtain ⟨rfl, ko1, hz1, hfr⟩ := hp
  have hO2 : hq_O x s.heap H1 := fun q hq => (hfr q (Or.inl hq) (by omega)).trans (hO q hq)
  have hMd1 : hq_B D vwCl mb 31 (mdC cI cZ mb 0 (nI n) (fun _ _ => 0)) H1 := fun j hj => (hMd j hj).kept (hfr (mb + j) (by omega) (by omega))
  refine W.eq (g2 := F0 m 454 ls [.int (0)]) rfl ?_
  refine lv_istore C.1 C.2.1 d_law_454 hl (by decide) rfl (lv' := [(5, .int (0)), (4, .int (1)), (3, .ref (ob)), (2, .ref (mb)), (1, .ref (x)), (0, .ref (b))]) (fun ls hl => ?_)
  refine lv_aload_n C.1 C.2.1 d_law_456 rfl (lv_at hl 3 rfl) ?_
  refine lv_aload_n C.1 C.2.1 d_law_457 rfl (lv_at hl 5 rfl) ?_
  refine lv_iload C.1 C.2.1 d_law_458 (lv_at hl 1 rfl) ?_
  refine lv_iconst (v := 1) C.1 C.2.1 d_law_460 (by decide) ?_
  refine lv_iadd C.1 C.2.1 d_law_461 ?_
  refine l_ld2 C hX hx hb hO2 d_law_462 ?_
  refine lv_aload_n C.1 C.2.1 d_law_463 rfl (lv_at hl 5 rfl) ?_
  refine lv_iload C.1 C.2.1 d_law_464 (lv_at hl 1 rfl) ?_
  refine lv_iconst (v := 2) C.1 C.2.1 d_law_466 (by decide) ?_
  refine lv_iadd C.1 C.2.1 d_law_467 ?_
  refine l_ld3 C hX hx hb hO2 d_law_468 ?_
  refine hq_callV (lo := x) (As := [.int (xs 2), .int (xs 3)]) (rest := []) C tb_good hml Y_L_84 hm (show va_at D vwCl (mb, .inr (6, [.int (0), .int (nI n), .ref (mb + 1), .ref (mb + 2), .ref (mb + 3), .ref (mb + 4), .ref (mb + 5), .ref (mb + 6), .ref (mb + 7), .ref (mb + 8), .ref (mb + 9), .ref (mb + 10), .ref (mb + 11), .ref (mb + 12), .ref (mb + 13), .ref (mb + 14), .ref (mb + 15), .ref (mb + 16), .ref (mb + 17), .ref (mb + 18), .ref (mb + 19), .ref (mb + 20), .ref (mb + 21), .ref (mb + 22), .ref (mb + 23), .ref (mb + 24), .ref (mb + 25), .ref (mb + 26), .ref (mb + 27), .ref (mb + 28), .ref (mb + 29), .ref (mb + 30)])) H1 from hMd1 0 (by decide)) rfl (fun _ _ _ _ h => h) (fun U hU hW => by show hq_B D vwCl mb 31 (mdC cI cZ mb 0 (nI n) (fun _ _ => 0)) U.heap; rw [hU]; exact hMd1) hL hl.1 rfl rfl ⟨⟨Nat.le_of_ble_eq_true rfl, Nat.le_of_ble_eq_true rfl⟩, (by show cells + 0 + 0 ≤ 600002; omega), (by show slots + 0 + 0 ≤ 7302198; omega)⟩ (Nat.le_of_ble_eq_true rfl) d_law_469 (fun v H2 locs hp hL => ?_)
  obtain ⟨rfl, k0, hS⟩ := hp
  have hO3 : hq_O x s.heap H2 := hq_Os hO2 hS (by omega)
  refine W.eq (g2 := F0 m 472 ls [.int (r6)]) rfl ?_
  refine lv_istore C.1 C.2.1 d_law_472 hl (by decide) rfl (lv' := [(6, .int (r6)), (5, .int (0)), (4, .int (1)), (3, .ref (ob)), (2, .ref (mb)), (1, .ref (x)), (0, .ref (b))]) (fun ls hl => ?_)
  refine lv_aload_n C.1 C.2.1 d_law_474 rfl (lv_at hl 4 rfl) ?_
  refine hq_callV (lo := x) (As := []) (rest := []) C tb_good hml Y_L_58 (c_thrown l D cI cZ cN cJ x mb n 0) k0 rfl (fun _ _ _ _ h => h) (fun U hU hW => by show va_at D vwCl (mb, .inr (6, [.int (0), .int (nI n), .ref (mb + 1), .ref (mb + 2), .ref (mb + 3), .ref (mb + 4), .ref (mb + 5), .ref (mb + 6), .ref (mb + 7), .ref (mb + 8), .ref (mb + 9), .ref (mb + 10), .ref (mb + 11), .ref (mb + 12), .ref (mb + 13), .ref (mb + 14), .ref (mb + 15), .ref (mb + 16), .ref (mb + 17), .ref (mb + 18), .ref (mb + 19), .ref (mb + 20), .ref (mb + 21), .ref (mb + 22), .ref (mb + 23), .ref (mb + 24), .ref (mb + 25), .ref (mb + 26), .ref (mb + 27), .ref (mb + 28), .ref (mb + 29), .ref (mb + 30)])) U.heap; rw [hU]; exact k0) hL hl.1 rfl rfl ⟨⟨Nat.le_of_ble_eq_true rfl, Nat.le_of_ble_eq_true rfl⟩, (by show cells + 0 + 0 + 0 ≤ 600002; omega), (by show slots + 0 + 0 + 0 ≤ 7302198; omega)⟩ (Nat.le_of_ble_eq_true rfl) d_law_475 (fun v H3 locs hp hL => ?_)
  obtain ⟨rfl, rfl⟩ := hp
  refine W.eq (g2 := F0 m 478 ls [.int (0)]) rfl ?_
  refine lv_iload C.1 C.2.1 d_law_478 (lv_at hl 1 rfl) ?_
  refine lv_icmp_eq (tgt := 485) C.1 C.2.1 d_law_480 (by decide) (fun _ => ?_) (fun hn => absurd (rfl) hn)
  refine lv_iload C.1 C.2.1 d_law_485 (lv_at hl 1 rfl) ?_
  refine lv_if_ne (tgt := 502) C.1 C.2.1 d_law_487 (by decide) (fun hn => absurd hn (fun h => h rfl)) (fun _ => ?_)
  refine lv_aload_n C.1 C.2.1 d_law_490 rfl (lv_at hl 3 rfl) ?_
  refine lv_iconst (v := 0) C.1 C.2.1 d_law_491 (by decide) ?_
  have ko2 := hq_as ko1 hS (by omega)
  refine hq_lald C 3 rfl ko2 (i := 0) (show vp_in (nI 0) 1 from vp_in_nI (by decide) (by decide)) d_law_492 ?_
  refine W.eq (g2 := F0 m 493 ls [.long (r6.toInt64)]) rfl ?_
  refine lv_iload C.1 C.2.1 d_law_493 (lv_at hl 0 rfl) ?_
  refine lv_i2l (v := r6.toInt64) C.1 C.2.1 d_law_495 rfl ?_
  refine W.lcmp C.1 C.2.1 d_law_496 ?_
  refine lv_if_eq (tgt := 502) C.1 C.2.1 d_law_497 (by decide) (fun _ => ?_) (fun hn => absurd (lw_cmp _) hn)
  refine lv_goto (tgt := 617) C.1 C.2.1 d_law_502 (by decide) ?_
  exact l_next C hml hret hlk hx hL (show cells + 0 + 0 + 0 ≤ 600002 by omega) (show slots + 0 + 0 + 0 ≤ 7302198 by omega) hX hb hO3 (lw_drop (lw_drop hl))
set_option maxHeartbeats 4000000 in
set_option maxRecDepth 100000 in
theorem l_take_T (C : hq_C p c s m #[Value.ref b] R_L code TB D vwCl (TY cI cZ cN cJ)) (hml : c.maxLocals = 7) (hret : meth.sig.returnType = ret) (hlk : meth.locks = false) (hL : hq_L x locs) (hc : cells ≤ 100) (hs : slots ≤ 10000) (Z : lz D cI cZ cJ b x n mb ob xs s H) (hl : lv_has ls 7 [(4, .int (1)), (3, .ref (ob)), (2, .ref (mb)), (1, .ref (x)), (0, .ref (b))]) (kk : Int32) (hk : ¬ kk = 0) (r6 : Int32) {P : State → Prop} (hPb : hq_Bl P) (hP : ∀ U : State, U.heap = H → s.WarmedH U.vm → P U) (hw : hq_MW l y_L_take b_L_take 4 (some .int) [(0, 9, 12, 13), (0, 9, 15, 15)] TB { frames := 8, cells := 1, slots := 6, locals := 160 } x D vwCl (TY cI cZ cN cJ) [.ref (x), .int (xs 2), .ref (ob)] P (fun H v H' => v = some (.int kk) ∧ hq_O H.size H H' ∧ H.size ≤ H'.size)) (hm : hq_M l y_M_take b_M_take 4 (some .int) TB { frames := 2, cells := 0, slots := 0, locals := 60 } x D vwCl (TY cI cZ cN cJ) [.ref mb, .int (xs 2)] (fun U => hq_B D vwCl mb 31 (mdC cI cZ mb 0 (nI n) (fun _ _ => 0)) U.heap) (fun H v9 H' => v9 = some (.int r6) ∧ va_at D vwCl (mb, .inr (6, [.int (kk), .int (nI n), .ref (mb + 1), .ref (mb + 2), .ref (mb + 3), .ref (mb + 4), .ref (mb + 5), .ref (mb + 6), .ref (mb + 7), .ref (mb + 8), .ref (mb + 9), .ref (mb + 10), .ref (mb + 11), .ref (mb + 12), .ref (mb + 13), .ref (mb + 14), .ref (mb + 15), .ref (mb + 16), .ref (mb + 17), .ref (mb + 18), .ref (mb + 19), .ref (mb + 20), .ref (mb + 21), .ref (mb + 22), .ref (mb + 23), .ref (mb + 24), .ref (mb + 25), .ref (mb + 26), .ref (mb + 27), .ref (mb + 28), .ref (mb + 29), .ref (mb + 30)])) H' ∧ hq_S mb 31 H H')) : W p l e room_1 s m #[Value.ref b] below meth c H locs cells slots (lw_Z below #[Value.ref b] s) (F0 m 505 ls []) := by
  obtain ⟨hx, hmb, hob, hz, hX, hb, hO, hMd, ko⟩ := Z
  refine lv_aload_n C.1 C.2.1 d_law_505 rfl (lv_at hl 3 rfl) ?_
  refine lv_aload_n C.1 C.2.1 d_law_506 rfl (lv_at hl 4 rfl) ?_
  refine lv_iload C.1 C.2.1 d_law_507 (lv_at hl 0 rfl) ?_
  refine lv_iconst (v := 1) C.1 C.2.1 d_law_509 (by decide) ?_
  refine lv_iadd C.1 C.2.1 d_law_510 ?_
  refine l_ld2 C hX hx hb hO d_law_511 ?_
  refine lv_aload_n C.1 C.2.1 d_law_512 rfl (lv_at hl 1 rfl) ?_
  refine hq_callSW (lo := x) (As := [.ref (x), .int (xs 2), .ref (ob)]) (rest := []) C tb_good hml Y_L_take hw hPb hP hL hl.1 rfl rfl ⟨⟨Nat.le_of_ble_eq_true rfl, Nat.le_of_ble_eq_true rfl⟩, (by show cells + 1 ≤ 600002; omega), (by show slots + 6 ≤ 7302198; omega)⟩ (Nat.le_of_ble_eq_true rfl) d_law_513 (fun v H1 locs hp hL => ?_)
  obtain ⟨rfl, hO1, hz1⟩ := hp
  have hO2 : hq_O x s.heap H1 := hq_Oo hO hO1 (by omega)
  have hMd1 : hq_B D vwCl mb 31 (mdC cI cZ mb 0 (nI n) (fun _ _ => 0)) H1 := hq_Bo hMd hO1 (by omega)
  refine W.eq (g2 := F0 m 516 ls [.int (kk)]) rfl ?_
  refine lv_istore C.1 C.2.1 d_law_516 hl (by decide) rfl (lv' := [(5, .int (kk)), (4, .int (1)), (3, .ref (ob)), (2, .ref (mb)), (1, .ref (x)), (0, .ref (b))]) (fun ls hl => ?_)
  refine lv_aload_n C.1 C.2.1 d_law_518 rfl (lv_at hl 3 rfl) ?_
  refine lv_aload_n C.1 C.2.1 d_law_519 rfl (lv_at hl 5 rfl) ?_
  refine lv_iload C.1 C.2.1 d_law_520 (lv_at hl 1 rfl) ?_
  refine lv_iconst (v := 1) C.1 C.2.1 d_law_522 (by decide) ?_
  refine lv_iadd C.1 C.2.1 d_law_523 ?_
  refine l_ld2 C hX hx hb hO2 d_law_524 ?_
  refine hq_callV (lo := x) (As := [.int (xs 2)]) (rest := []) C tb_good hml Y_L_87 hm (show va_at D vwCl (mb, .inr (6, [.int (0), .int (nI n), .ref (mb + 1), .ref (mb + 2), .ref (mb + 3), .ref (mb + 4), .ref (mb + 5), .ref (mb + 6), .ref (mb + 7), .ref (mb + 8), .ref (mb + 9), .ref (mb + 10), .ref (mb + 11), .ref (mb + 12), .ref (mb + 13), .ref (mb + 14), .ref (mb + 15), .ref (mb + 16), .ref (mb + 17), .ref (mb + 18), .ref (mb + 19), .ref (mb + 20), .ref (mb + 21), .ref (mb + 22), .ref (mb + 23), .ref (mb + 24), .ref (mb + 25), .ref (mb + 26), .ref (mb + 27), .ref (mb + 28), .ref (mb + 29), .ref (mb + 30)])) H1 from hMd1 0 (by decide)) rfl (fun _ _ _ _ h => h) (fun U hU hW => by show hq_B D vwCl mb 31 (mdC cI cZ mb 0 (nI n) (fun _ _ => 0)) U.heap; rw [hU]; exact hMd1) hL hl.1 rfl rfl ⟨⟨Nat.le_of_ble_eq_true rfl, Nat.le_of_ble_eq_true rfl⟩, (by show cells + 1 + 0 ≤ 600002; omega), (by show slots + 6 + 0 ≤ 7302198; omega)⟩ (Nat.le_of_ble_eq_true rfl) d_law_525 (fun v H2 locs hp hL => ?_)
  obtain ⟨rfl, k0, hS⟩ := hp
  have hO3 : hq_O x s.heap H2 := hq_Os hO2 hS (by omega)
  refine W.eq (g2 := F0 m 528 ls [.int (r6)]) rfl ?_
  refine lv_istore C.1 C.2.1 d_law_528 hl (by decide) rfl (lv' := [(6, .int (r6)), (5, .int (kk)), (4, .int (1)), (3, .ref (ob)), (2, .ref (mb)), (1, .ref (x)), (0, .ref (b))]) (fun ls hl => ?_)
  refine lv_aload_n C.1 C.2.1 d_law_530 rfl (lv_at hl 4 rfl) ?_
  refine hq_callV (lo := x) (As := []) (rest := []) C tb_good hml Y_L_58 (c_thrown l D cI cZ cN cJ x mb n kk) k0 rfl (fun _ _ _ _ h => h) (fun U hU hW => by show va_at D vwCl (mb, .inr (6, [.int (kk), .int (nI n), .ref (mb + 1), .ref (mb + 2), .ref (mb + 3), .ref (mb + 4), .ref (mb + 5), .ref (mb + 6), .ref (mb + 7), .ref (mb + 8), .ref (mb + 9), .ref (mb + 10), .ref (mb + 11), .ref (mb + 12), .ref (mb + 13), .ref (mb + 14), .ref (mb + 15), .ref (mb + 16), .ref (mb + 17), .ref (mb + 18), .ref (mb + 19), .ref (mb + 20), .ref (mb + 21), .ref (mb + 22), .ref (mb + 23), .ref (mb + 24), .ref (mb + 25), .ref (mb + 26), .ref (mb + 27), .ref (mb + 28), .ref (mb + 29), .ref (mb + 30)])) U.heap; rw [hU]; exact k0) hL hl.1 rfl rfl ⟨⟨Nat.le_of_ble_eq_true rfl, Nat.le_of_ble_eq_true rfl⟩, (by show cells + 1 + 0 + 0 ≤ 600002; omega), (by show slots + 6 + 0 + 0 ≤ 7302198; omega)⟩ (Nat.le_of_ble_eq_true rfl) d_law_531 (fun v H3 locs hp hL => ?_)
  obtain ⟨rfl, rfl⟩ := hp
  refine W.eq (g2 := F0 m 534 ls [.int (kk)]) rfl ?_
  refine lv_iload C.1 C.2.1 d_law_534 (lv_at hl 1 rfl) ?_
  refine lv_icmp_eq (tgt := 541) C.1 C.2.1 d_law_536 (by decide) (fun _ => ?_) (fun hn => absurd (rfl) hn)
  refine lv_iload C.1 C.2.1 d_law_541 (lv_at hl 1 rfl) ?_
  refine lv_if_ne (tgt := 558) C.1 C.2.1 d_law_543 (by decide) (fun _ => ?_) (fun hn => absurd hn (hk))
  refine lv_goto (tgt := 617) C.1 C.2.1 d_law_558 (by decide) ?_
  exact l_next C hml hret hlk hx hL (show cells + 1 + 0 + 0 ≤ 600002 by omega) (show slots + 6 + 0 + 0 ≤ 7302198 by omega) hX hb hO3 (lw_drop (lw_drop hl))
set_option maxHeartbeats 4000000 in
set_option maxRecDepth 100000 in
theorem l_total_T (C : hq_C p c s m #[Value.ref b] R_L code TB D vwCl (TY cI cZ cN cJ)) (hml : c.maxLocals = 7) (hret : meth.sig.returnType = ret) (hlk : meth.locks = false) (hL : hq_L x locs) (hc : cells ≤ 100) (hs : slots ≤ 10000) (Z : lz D cI cZ cJ b x n mb ob xs s H) (hl : lv_has ls 7 [(4, .int (1)), (3, .ref (ob)), (2, .ref (mb)), (1, .ref (x)), (0, .ref (b))]) (kk : Int32) (hk : ¬ kk = 0) (r6 : Int32) {P : State → Prop} (hPb : hq_Bl P) (hP : ∀ U : State, U.heap = H → s.WarmedH U.vm → P U) (hw : hq_MW l y_L_total b_L_total 4 (some .int) [(0, 9, 12, 13)] TB { frames := 8, cells := 1, slots := 6, locals := 160 } x D vwCl (TY cI cZ cN cJ) [.ref (x), .int (xs 2), .ref (ob)] P (fun H v H' => v = some (.int kk) ∧ hq_O H.size H H' ∧ H.size ≤ H'.size)) (hm : hq_M l y_M_total b_M_total 2 (some .int) TB { frames := 2, cells := 0, slots := 0, locals := 60 } x D vwCl (TY cI cZ cN cJ) [.ref mb, .int (xs 2)] (fun U => hq_B D vwCl mb 31 (mdC cI cZ mb 0 (nI n) (fun _ _ => 0)) U.heap) (fun H v9 H' => v9 = some (.int r6) ∧ va_at D vwCl (mb, .inr (6, [.int (kk), .int (nI n), .ref (mb + 1), .ref (mb + 2), .ref (mb + 3), .ref (mb + 4), .ref (mb + 5), .ref (mb + 6), .ref (mb + 7), .ref (mb + 8), .ref (mb + 9), .ref (mb + 10), .ref (mb + 11), .ref (mb + 12), .ref (mb + 13), .ref (mb + 14), .ref (mb + 15), .ref (mb + 16), .ref (mb + 17), .ref (mb + 18), .ref (mb + 19), .ref (mb + 20), .ref (mb + 21), .ref (mb + 22), .ref (mb + 23), .ref (mb + 24), .ref (mb + 25), .ref (mb + 26), .ref (mb + 27), .ref (mb + 28), .ref (mb + 29), .ref (mb + 30)])) H' ∧ hq_S mb 31 H H')) : W p l e room_1 s m #[Value.ref b] below meth c H locs cells slots (lw_Z below #[Value.ref b] s) (F0 m 561 ls []) := by
  obtain ⟨hx, hmb, hob, hz, hX, hb, hO, hMd, ko⟩ := Z
  refine lv_aload_n C.1 C.2.1 d_law_561 rfl (lv_at hl 3 rfl) ?_
  refine lv_aload_n C.1 C.2.1 d_law_562 rfl (lv_at hl 4 rfl) ?_
  refine lv_iload C.1 C.2.1 d_law_563 (lv_at hl 0 rfl) ?_
  refine lv_iconst (v := 1) C.1 C.2.1 d_law_565 (by decide) ?_
  refine lv_iadd C.1 C.2.1 d_law_566 ?_
  refine l_ld2 C hX hx hb hO d_law_567 ?_
  refine lv_aload_n C.1 C.2.1 d_law_568 rfl (lv_at hl 1 rfl) ?_
  refine hq_callSW (lo := x) (As := [.ref (x), .int (xs 2), .ref (ob)]) (rest := []) C tb_good hml Y_L_total hw hPb hP hL hl.1 rfl rfl ⟨⟨Nat.le_of_ble_eq_true rfl, Nat.le_of_ble_eq_true rfl⟩, (by show cells + 1 ≤ 600002; omega), (by show slots + 6 ≤ 7302198; omega)⟩ (Nat.le_of_ble_eq_true rfl) d_law_569 (fun v H1 locs hp hL => ?_)
  obtain ⟨rfl, hO1, hz1⟩ := hp
  have hO2 : hq_O x s.heap H1 := hq_Oo hO hO1 (by omega)
  have hMd1 : hq_B D vwCl mb 31 (mdC cI cZ mb 0 (nI n) (fun _ _ => 0)) H1 := hq_Bo hMd hO1 (by omega)
  refine W.eq (g2 := F0 m 572 ls [.int (kk)]) rfl ?_
  refine lv_istore C.1 C.2.1 d_law_572 hl (by decide) rfl (lv' := [(5, .int (kk)), (4, .int (1)), (3, .ref (ob)), (2, .ref (mb)), (1, .ref (x)), (0, .ref (b))]) (fun ls hl => ?_)
  refine lv_aload_n C.1 C.2.1 d_law_574 rfl (lv_at hl 3 rfl) ?_
  refine lv_aload_n C.1 C.2.1 d_law_575 rfl (lv_at hl 5 rfl) ?_
  refine lv_iload C.1 C.2.1 d_law_576 (lv_at hl 1 rfl) ?_
  refine lv_iconst (v := 1) C.1 C.2.1 d_law_578 (by decide) ?_
  refine lv_iadd C.1 C.2.1 d_law_579 ?_
  refine l_ld2 C hX hx hb hO2 d_law_580 ?_
  refine hq_callV (lo := x) (As := [.int (xs 2)]) (rest := []) C tb_good hml Y_L_90 hm (show va_at D vwCl (mb, .inr (6, [.int (0), .int (nI n), .ref (mb + 1), .ref (mb + 2), .ref (mb + 3), .ref (mb + 4), .ref (mb + 5), .ref (mb + 6), .ref (mb + 7), .ref (mb + 8), .ref (mb + 9), .ref (mb + 10), .ref (mb + 11), .ref (mb + 12), .ref (mb + 13), .ref (mb + 14), .ref (mb + 15), .ref (mb + 16), .ref (mb + 17), .ref (mb + 18), .ref (mb + 19), .ref (mb + 20), .ref (mb + 21), .ref (mb + 22), .ref (mb + 23), .ref (mb + 24), .ref (mb + 25), .ref (mb + 26), .ref (mb + 27), .ref (mb + 28), .ref (mb + 29), .ref (mb + 30)])) H1 from hMd1 0 (by decide)) rfl (fun _ _ _ _ h => h) (fun U hU hW => by show hq_B D vwCl mb 31 (mdC cI cZ mb 0 (nI n) (fun _ _ => 0)) U.heap; rw [hU]; exact hMd1) hL hl.1 rfl rfl ⟨⟨Nat.le_of_ble_eq_true rfl, Nat.le_of_ble_eq_true rfl⟩, (by show cells + 1 + 0 ≤ 600002; omega), (by show slots + 6 + 0 ≤ 7302198; omega)⟩ (Nat.le_of_ble_eq_true rfl) d_law_581 (fun v H2 locs hp hL => ?_)
  obtain ⟨rfl, k0, hS⟩ := hp
  have hO3 : hq_O x s.heap H2 := hq_Os hO2 hS (by omega)
  refine W.eq (g2 := F0 m 584 ls [.int (r6)]) rfl ?_
  refine lv_istore C.1 C.2.1 d_law_584 hl (by decide) rfl (lv' := [(6, .int (r6)), (5, .int (kk)), (4, .int (1)), (3, .ref (ob)), (2, .ref (mb)), (1, .ref (x)), (0, .ref (b))]) (fun ls hl => ?_)
  refine lv_aload_n C.1 C.2.1 d_law_586 rfl (lv_at hl 4 rfl) ?_
  refine hq_callV (lo := x) (As := []) (rest := []) C tb_good hml Y_L_58 (c_thrown l D cI cZ cN cJ x mb n kk) k0 rfl (fun _ _ _ _ h => h) (fun U hU hW => by show va_at D vwCl (mb, .inr (6, [.int (kk), .int (nI n), .ref (mb + 1), .ref (mb + 2), .ref (mb + 3), .ref (mb + 4), .ref (mb + 5), .ref (mb + 6), .ref (mb + 7), .ref (mb + 8), .ref (mb + 9), .ref (mb + 10), .ref (mb + 11), .ref (mb + 12), .ref (mb + 13), .ref (mb + 14), .ref (mb + 15), .ref (mb + 16), .ref (mb + 17), .ref (mb + 18), .ref (mb + 19), .ref (mb + 20), .ref (mb + 21), .ref (mb + 22), .ref (mb + 23), .ref (mb + 24), .ref (mb + 25), .ref (mb + 26), .ref (mb + 27), .ref (mb + 28), .ref (mb + 29), .ref (mb + 30)])) U.heap; rw [hU]; exact k0) hL hl.1 rfl rfl ⟨⟨Nat.le_of_ble_eq_true rfl, Nat.le_of_ble_eq_true rfl⟩, (by show cells + 1 + 0 + 0 ≤ 600002; omega), (by show slots + 6 + 0 + 0 ≤ 7302198; omega)⟩ (Nat.le_of_ble_eq_true rfl) d_law_587 (fun v H3 locs hp hL => ?_)
  obtain ⟨rfl, rfl⟩ := hp
  refine W.eq (g2 := F0 m 590 ls [.int (kk)]) rfl ?_
  refine lv_iload C.1 C.2.1 d_law_590 (lv_at hl 1 rfl) ?_
  refine lv_icmp_eq (tgt := 597) C.1 C.2.1 d_law_592 (by decide) (fun _ => ?_) (fun hn => absurd (rfl) hn)
  refine lv_iload C.1 C.2.1 d_law_597 (lv_at hl 1 rfl) ?_
  refine lv_if_ne (tgt := 614) C.1 C.2.1 d_law_599 (by decide) (fun _ => ?_) (fun hn => absurd hn (hk))
  refine lv_goto (tgt := 617) C.1 C.2.1 d_law_614 (by decide) ?_
  exact l_next C hml hret hlk hx hL (show cells + 1 + 0 + 0 ≤ 600002 by omega) (show slots + 6 + 0 + 0 ≤ 7302198 by omega) hX hb hO3 (lw_drop (lw_drop hl))
set_option maxHeartbeats 4000000 in
set_option maxRecDepth 100000 in
theorem l_total_R (C : hq_C p c s m #[Value.ref b] R_L code TB D vwCl (TY cI cZ cN cJ)) (hml : c.maxLocals = 7) (hret : meth.sig.returnType = ret) (hlk : meth.locks = false) (hL : hq_L x locs) (hc : cells ≤ 100) (hs : slots ≤ 10000) (Z : lz D cI cZ cJ b x n mb ob xs s H) (hl : lv_has ls 7 [(4, .int (1)), (3, .ref (ob)), (2, .ref (mb)), (1, .ref (x)), (0, .ref (b))]) (r6 : Int32) {P : State → Prop} (hPb : hq_Bl P) (hP : ∀ U : State, U.heap = H → s.WarmedH U.vm → P U) (hw : hq_MW l y_L_total b_L_total 4 (some .int) [(0, 9, 12, 13)] TB { frames := 4, cells := 0, slots := 0, locals := 120 } x D vwCl (TY cI cZ cN cJ) [.ref (x), .int (xs 2), .ref (ob)] P (fun H v H' => v = some (.int 0) ∧ va_at D vwCl (ob, .inl (cJ, 1, .inr (.inl (vp_updL (fun _ => 0) 0 r6.toInt64)))) H' ∧ H'.size = H.size ∧ ∀ q : Nat, (q < x ∨ x + (4 + 10 * n) ≤ q) → q ≠ ob → H'[q]? = H[q]?)) (hm : hq_M l y_M_total b_M_total 2 (some .int) TB { frames := 2, cells := 0, slots := 0, locals := 60 } x D vwCl (TY cI cZ cN cJ) [.ref mb, .int (xs 2)] (fun U => hq_B D vwCl mb 31 (mdC cI cZ mb 0 (nI n) (fun _ _ => 0)) U.heap) (fun H v9 H' => v9 = some (.int r6) ∧ va_at D vwCl (mb, .inr (6, [.int (0), .int (nI n), .ref (mb + 1), .ref (mb + 2), .ref (mb + 3), .ref (mb + 4), .ref (mb + 5), .ref (mb + 6), .ref (mb + 7), .ref (mb + 8), .ref (mb + 9), .ref (mb + 10), .ref (mb + 11), .ref (mb + 12), .ref (mb + 13), .ref (mb + 14), .ref (mb + 15), .ref (mb + 16), .ref (mb + 17), .ref (mb + 18), .ref (mb + 19), .ref (mb + 20), .ref (mb + 21), .ref (mb + 22), .ref (mb + 23), .ref (mb + 24), .ref (mb + 25), .ref (mb + 26), .ref (mb + 27), .ref (mb + 28), .ref (mb + 29), .ref (mb + 30)])) H' ∧ hq_S mb 31 H H')) : W p l e room_1 s m #[Value.ref b] below meth c H locs cells slots (lw_Z below #[Value.ref b] s) (F0 m 561 ls []) := by
  obtain ⟨hx, hmb, hob, hz, hX, hb, hO, hMd, ko⟩ := Z
  refine lv_aload_n C.1 C.2.1 d_law_561 rfl (lv_at hl 3 rfl) ?_
  refine lv_aload_n C.1 C.2.1 d_law_562 rfl (lv_at hl 4 rfl) ?_
  refine lv_iload C.1 C.2.1 d_law_563 (lv_at hl 0 rfl) ?_
  refine lv_iconst (v := 1) C.1 C.2.1 d_law_565 (by decide) ?_
  refine lv_iadd C.1 C.2.1 d_law_566 ?_
  refine l_ld2 C hX hx hb hO d_law_567 ?_
  refine lv_aload_n C.1 C.2.1 d_law_568 rfl (lv_at hl 1 rfl) ?_
  refine hq_callSW (lo := x) (As := [.ref (x), .int (xs 2), .ref (ob)]) (rest := []) C tb_good hml Y_L_total hw hPb hP hL hl.1 rfl rfl ⟨⟨Nat.le_of_ble_eq_true rfl, Nat.le_of_ble_eq_true rfl⟩, (by show cells + 0 ≤ 600002; omega), (by show slots + 0 ≤ 7302198; omega)⟩ (Nat.le_of_ble_eq_true rfl) d_law_569 (fun v H1 locs hp hL => ?_)
  obtain ⟨rfl, ko1, hz1, hfr⟩ := hp
  have hO2 : hq_O x s.heap H1 := fun q hq => (hfr q (Or.inl hq) (by omega)).trans (hO q hq)
  have hMd1 : hq_B D vwCl mb 31 (mdC cI cZ mb 0 (nI n) (fun _ _ => 0)) H1 := fun j hj => (hMd j hj).kept (hfr (mb + j) (by omega) (by omega))
  refine W.eq (g2 := F0 m 572 ls [.int (0)]) rfl ?_
  refine lv_istore C.1 C.2.1 d_law_572 hl (by decide) rfl (lv' := [(5, .int (0)), (4, .int (1)), (3, .ref (ob)), (2, .ref (mb)), (1, .ref (x)), (0, .ref (b))]) (fun ls hl => ?_)
  refine lv_aload_n C.1 C.2.1 d_law_574 rfl (lv_at hl 3 rfl) ?_
  refine lv_aload_n C.1 C.2.1 d_law_575 rfl (lv_at hl 5 rfl) ?_
  refine lv_iload C.1 C.2.1 d_law_576 (lv_at hl 1 rfl) ?_
  refine lv_iconst (v := 1) C.1 C.2.1 d_law_578 (by decide) ?_
  refine lv_iadd C.1 C.2.1 d_law_579 ?_
  refine l_ld2 C hX hx hb hO2 d_law_580 ?_
  refine hq_callV (lo := x) (As := [.int (xs 2)]) (rest := []) C tb_good hml Y_L_90 hm (show va_at D vwCl (mb, .inr (6, [.int (0), .int (nI n), .ref (mb + 1), .ref (mb + 2), .ref (mb + 3), .ref (mb + 4), .ref (mb + 5), .ref (mb + 6), .ref (mb + 7), .ref (mb + 8), .ref (mb + 9), .ref (mb + 10), .ref (mb + 11), .ref (mb + 12), .ref (mb + 13), .ref (mb + 14), .ref (mb + 15), .ref (mb + 16), .ref (mb + 17), .ref (mb + 18), .ref (mb + 19), .ref (mb + 20), .ref (mb + 21), .ref (mb + 22), .ref (mb + 23), .ref (mb + 24), .ref (mb + 25), .ref (mb + 26), .ref (mb + 27), .ref (mb + 28), .ref (mb + 29), .ref (mb + 30)])) H1 from hMd1 0 (by decide)) rfl (fun _ _ _ _ h => h) (fun U hU hW => by show hq_B D vwCl mb 31 (mdC cI cZ mb 0 (nI n) (fun _ _ => 0)) U.heap; rw [hU]; exact hMd1) hL hl.1 rfl rfl ⟨⟨Nat.le_of_ble_eq_true rfl, Nat.le_of_ble_eq_true rfl⟩, (by show cells + 0 + 0 ≤ 600002; omega), (by show slots + 0 + 0 ≤ 7302198; omega)⟩ (Nat.le_of_ble_eq_true rfl) d_law_581 (fun v H2 locs hp hL => ?_)
  obtain ⟨rfl, k0, hS⟩ := hp
  have hO3 : hq_O x s.heap H2 := hq_Os hO2 hS (by omega)
  refine W.eq (g2 := F0 m 584 ls [.int (r6)]) rfl ?_
  refine lv_istore C.1 C.2.1 d_law_584 hl (by decide) rfl (lv' := [(6, .int (r6)), (5, .int (0)), (4, .int (1)), (3, .ref (ob)), (2, .ref (mb)), (1, .ref (x)), (0, .ref (b))]) (fun ls hl => ?_)
  refine lv_aload_n C.1 C.2.1 d_law_586 rfl (lv_at hl 4 rfl) ?_
  refine hq_callV (lo := x) (As := []) (rest := []) C tb_good hml Y_L_58 (c_thrown l D cI cZ cN cJ x mb n 0) k0 rfl (fun _ _ _ _ h => h) (fun U hU hW => by show va_at D vwCl (mb, .inr (6, [.int (0), .int (nI n), .ref (mb + 1), .ref (mb + 2), .ref (mb + 3), .ref (mb + 4), .ref (mb + 5), .ref (mb + 6), .ref (mb + 7), .ref (mb + 8), .ref (mb + 9), .ref (mb + 10), .ref (mb + 11), .ref (mb + 12), .ref (mb + 13), .ref (mb + 14), .ref (mb + 15), .ref (mb + 16), .ref (mb + 17), .ref (mb + 18), .ref (mb + 19), .ref (mb + 20), .ref (mb + 21), .ref (mb + 22), .ref (mb + 23), .ref (mb + 24), .ref (mb + 25), .ref (mb + 26), .ref (mb + 27), .ref (mb + 28), .ref (mb + 29), .ref (mb + 30)])) U.heap; rw [hU]; exact k0) hL hl.1 rfl rfl ⟨⟨Nat.le_of_ble_eq_true rfl, Nat.le_of_ble_eq_true rfl⟩, (by show cells + 0 + 0 + 0 ≤ 600002; omega), (by show slots + 0 + 0 + 0 ≤ 7302198; omega)⟩ (Nat.le_of_ble_eq_true rfl) d_law_587 (fun v H3 locs hp hL => ?_)
  obtain ⟨rfl, rfl⟩ := hp
  refine W.eq (g2 := F0 m 590 ls [.int (0)]) rfl ?_
  refine lv_iload C.1 C.2.1 d_law_590 (lv_at hl 1 rfl) ?_
  refine lv_icmp_eq (tgt := 597) C.1 C.2.1 d_law_592 (by decide) (fun _ => ?_) (fun hn => absurd (rfl) hn)
  refine lv_iload C.1 C.2.1 d_law_597 (lv_at hl 1 rfl) ?_
  refine lv_if_ne (tgt := 614) C.1 C.2.1 d_law_599 (by decide) (fun hn => absurd hn (fun h => h rfl)) (fun _ => ?_)
  refine lv_aload_n C.1 C.2.1 d_law_602 rfl (lv_at hl 3 rfl) ?_
  refine lv_iconst (v := 0) C.1 C.2.1 d_law_603 (by decide) ?_
  have ko2 := hq_as ko1 hS (by omega)
  refine hq_lald C 3 rfl ko2 (i := 0) (show vp_in (nI 0) 1 from vp_in_nI (by decide) (by decide)) d_law_604 ?_
  refine W.eq (g2 := F0 m 605 ls [.long (r6.toInt64)]) rfl ?_
  refine lv_iload C.1 C.2.1 d_law_605 (lv_at hl 0 rfl) ?_
  refine lv_i2l (v := r6.toInt64) C.1 C.2.1 d_law_607 rfl ?_
  refine W.lcmp C.1 C.2.1 d_law_608 ?_
  refine lv_if_eq (tgt := 614) C.1 C.2.1 d_law_609 (by decide) (fun _ => ?_) (fun hn => absurd (lw_cmp _) hn)
  refine lv_goto (tgt := 617) C.1 C.2.1 d_law_614 (by decide) ?_
  exact l_next C hml hret hlk hx hL (show cells + 0 + 0 + 0 ≤ 600002 by omega) (show slots + 0 + 0 + 0 ≤ 7302198 by omega) hX hb hO3 (lw_drop (lw_drop hl))
set_option maxHeartbeats 4000000 in
set_option maxRecDepth 100000 in
theorem l_level (C : hq_C p c s m #[Value.ref b] R_L code TB D vwCl (TY cI cZ cN cJ)) (hml : c.maxLocals = 7) (hret : meth.sig.returnType = ret) (hlk : meth.locks = false) (hL : hq_L x locs) (hc : cells ≤ 100) (hs : slots ≤ 10000) (Z : lz D cI cZ cJ b x n mb ob xs s H) (hBus : busP D cI cZ cN x n (fun _ => N0) (fun _ => R0) (fun _ => 0) (fun _ => 0) H) (hl : lv_has ls 7 [(4, .int (1)), (3, .ref (ob)), (2, .ref (mb)), (1, .ref (x)), (0, .ref (b))]) : W p l e room_1 s m #[Value.ref b] below meth c H locs cells slots (lw_Z below #[Value.ref b] s) (F0 m 356 ls []) := by
  obtain ⟨hx, hmb, hob, hz, hX, hb, hO, hMd, ko⟩ := Z
  refine lv_aload_n C.1 C.2.1 d_law_356 rfl (lv_at hl 3 rfl) ?_
  refine lv_aload_n C.1 C.2.1 d_law_357 rfl (lv_at hl 4 rfl) ?_
  refine lv_iload C.1 C.2.1 d_law_358 (lv_at hl 0 rfl) ?_
  refine lv_iconst (v := 1) C.1 C.2.1 d_law_360 (by decide) ?_
  refine lv_iadd C.1 C.2.1 d_law_361 ?_
  refine l_ld2 C hX hx hb hO d_law_362 ?_
  refine hq_callV (lo := x) (As := [.int (xs 2)]) (rest := []) C tb_good hml Y_L_74 (c_level0 l D cI cZ cN cJ x x n (fun _ => N0) (fun _ => R0) (fun _ => 0) (fun _ => 0) (xs 2) rfl) (show va_at D vwCl (x, .inr (5, [.ref (x + 3), .ref (x + 1), .ref (x + 2)])) H from hBus.1 0 (by decide)) rfl (fun _ _ _ _ h => h) (fun U hU hW => by show busP D cI cZ cN x n (fun _ => N0) (fun _ => R0) (fun _ => 0) (fun _ => 0) U.heap; rw [hU]; exact hBus) hL hl.1 rfl rfl ⟨⟨Nat.le_of_ble_eq_true rfl, Nat.le_of_ble_eq_true rfl⟩, (by show cells + 0 ≤ 600002; omega), (by show slots + 0 ≤ 7302198; omega)⟩ (Nat.le_of_ble_eq_true rfl) d_law_363 (fun v H1 locs hp hL => ?_)
  obtain ⟨rfl, rfl⟩ := hp
  refine W.eq (g2 := F0 m 366 ls [.int (-1)]) rfl ?_
  refine lv_aload_n C.1 C.2.1 d_law_366 rfl (lv_at hl 2 rfl) ?_
  refine lv_aload_n C.1 C.2.1 d_law_367 rfl (lv_at hl 4 rfl) ?_
  refine lv_iload C.1 C.2.1 d_law_368 (lv_at hl 0 rfl) ?_
  refine lv_iconst (v := 1) C.1 C.2.1 d_law_370 (by decide) ?_
  refine lv_iadd C.1 C.2.1 d_law_371 ?_
  refine l_ld2 C hX hx hb hO d_law_372 ?_
  refine hq_callV (lo := x) (As := [.int (xs 2)]) (rest := [.int (-1)]) C tb_good hml Y_L_77 (m_level l D cI cZ cN cJ x mb n 0 (by omega) (xs 2)) (show va_at D vwCl (mb, .inr (6, [.int (0), .int (nI n), .ref (mb + 1), .ref (mb + 2), .ref (mb + 3), .ref (mb + 4), .ref (mb + 5), .ref (mb + 6), .ref (mb + 7), .ref (mb + 8), .ref (mb + 9), .ref (mb + 10), .ref (mb + 11), .ref (mb + 12), .ref (mb + 13), .ref (mb + 14), .ref (mb + 15), .ref (mb + 16), .ref (mb + 17), .ref (mb + 18), .ref (mb + 19), .ref (mb + 20), .ref (mb + 21), .ref (mb + 22), .ref (mb + 23), .ref (mb + 24), .ref (mb + 25), .ref (mb + 26), .ref (mb + 27), .ref (mb + 28), .ref (mb + 29), .ref (mb + 30)])) H1 from hMd 0 (by decide)) rfl (fun _ _ _ _ h => h) (fun U hU hW => by show hq_B D vwCl mb 31 (mdC cI cZ mb 0 (nI n) (fun _ _ => 0)) U.heap; rw [hU]; exact hMd) hL hl.1 rfl rfl ⟨⟨Nat.le_of_ble_eq_true rfl, Nat.le_of_ble_eq_true rfl⟩, (by show cells + 0 + 0 ≤ 600002; omega), (by show slots + 0 + 0 ≤ 7302198; omega)⟩ (Nat.le_of_ble_eq_true rfl) d_law_373 (fun v H2 locs hp hL => ?_)
  obtain ⟨rfl, k0, hS⟩ := hp
  refine W.eq (g2 := F0 m 376 ls [.int (-1), .int (-1)]) rfl ?_
  refine lv_icmp_eq (tgt := 617) C.1 C.2.1 d_law_376 (by decide) (fun _ => ?_) (fun hn => absurd (rfl) hn)
  exact l_next C hml hret hlk hx hL (show cells + 0 + 0 ≤ 600002 by omega) (show slots + 0 + 0 ≤ 7302198 by omega) hX hb (hq_Os hO hS (by omega)) hl
end LAW
